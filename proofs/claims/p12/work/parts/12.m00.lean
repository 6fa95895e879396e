theorem d0_0 : decode prog_2_method_1_code 0 = .ok (.aload_n 0, 1) := by decide +kernel
theorem d0_1 : decode prog_2_method_1_code 1 = .ok (.invokespecial 1, 3) := by decide +kernel
theorem d0_4 : decode prog_2_method_1_code 4 = .ok (.aload_n 0, 1) := by decide +kernel
theorem d0_5 : decode prog_2_method_1_code 5 = .ok (.bipush 30, 2) := by decide +kernel
theorem d0_7 : decode prog_2_method_1_code 7 = .ok (.anewarray 9, 3) := by decide +kernel
theorem d0_10 : decode prog_2_method_1_code 10 = .ok (.putfield 11, 3) := by decide +kernel
theorem d0_13 : decode prog_2_method_1_code 13 = .ok (.return_, 1) := by decide +kernel
noncomputable def T_0 : Nat → Option xF := bn 5 (bn 1 (bl 0 (y_aload 0 1)) (bn 4 (bl 1 (x_obj 4)) (bl 4 (y_aload 0 5)))) (bn 7 (bl 5 (x_const 2147483678 7)) (bn 10 (bl 7 (x_newq 10)) (bl 10 (y_putf 0 0 2 13))))
set_option maxRecDepth 100000 in
set_option maxHeartbeats 4000000 in
theorem T_0_ok (G : State → Nat → Nat → Prop) : xTree PX G prog_2_method_1_code "CapitalCase$History" true T_0 := (xT_n (xT_n (xT_l (yS (y_aload_eq _ _) (s_aload_n d0_0))) (xT_n (xT_l (s_obj d0_1 wd_381 wd_139 wd_obj)) (xT_l (yS (y_aload_eq _ _) (s_aload_n d0_4))))) (xT_n (xT_l (s_bipush d0_5 (by decide +kernel))) (xT_n (xT_l (s_newq d0_7 wd_382)) (xT_l (yS (y_putf_eq _ _ _ _) (s_putF (T := TX0) (N := 3) (ty := tyX0) d0_10 rfl inX0 tyX0_ok nmX0 (by decide) wd_384 (Or.inr (Or.inr ⟨rfl, Or.inr ⟨_, rfl⟩⟩)) rfl rfl rfl))))))
set_option maxRecDepth 100000 in
set_option maxHeartbeats 4000000 in
theorem M_0 : xMeth PX 0 (T_0, 1, [(13, 3)]) := ⟨⟨"CapitalCase$History", "<init>", "()V"⟩, prog_2_method_1_code, none, rfl, by decide, fun G => T_0_ok G, xrt_ok (xR_c (Or.inr (Or.inr (Or.inl ⟨rfl, d0_13, rfl⟩))) (xR_n))⟩
theorem d1_0 : decode prog_3_method_1_code 0 = .ok (.aload_n 0, 1) := by decide +kernel
theorem d1_1 : decode prog_3_method_1_code 1 = .ok (.invokespecial 3, 3) := by decide +kernel
theorem d1_4 : decode prog_3_method_1_code 4 = .ok (.aload_n 0, 1) := by decide +kernel
theorem d1_5 : decode prog_3_method_1_code 5 = .ok (.bipush 9, 2) := by decide +kernel
theorem d1_7 : decode prog_3_method_1_code 7 = .ok (.newarray .int, 2) := by decide +kernel
theorem d1_9 : decode prog_3_method_1_code 9 = .ok (.putfield 11, 3) := by decide +kernel
theorem d1_12 : decode prog_3_method_1_code 12 = .ok (.aload_n 0, 1) := by decide +kernel
theorem d1_13 : decode prog_3_method_1_code 13 = .ok (.bipush 16, 2) := by decide +kernel
theorem d1_15 : decode prog_3_method_1_code 15 = .ok (.newarray .int, 2) := by decide +kernel
theorem d1_17 : decode prog_3_method_1_code 17 = .ok (.putfield 15, 3) := by decide +kernel
theorem d1_20 : decode prog_3_method_1_code 20 = .ok (.aload_n 0, 1) := by decide +kernel
theorem d1_21 : decode prog_3_method_1_code 21 = .ok (.aload_n 1, 1) := by decide +kernel
theorem d1_22 : decode prog_3_method_1_code 22 = .ok (.putfield 18, 3) := by decide +kernel
theorem d1_25 : decode prog_3_method_1_code 25 = .ok (.return_, 1) := by decide +kernel
noncomputable def T_1 : Nat → Option xF := bn 12 (bn 5 (bn 1 (bl 0 (y_aload 0 1)) (bn 4 (bl 1 (x_obj 4)) (bl 4 (y_aload 0 5)))) (bn 7 (bl 5 (x_const 2147483657 7)) (bn 9 (bl 7 (x_newa 0 9)) (bl 9 (y_putf 1 1 2 12))))) (bn 17 (bn 13 (bl 12 (y_aload 0 13)) (bn 15 (bl 13 (x_const 2147483664 15)) (bl 15 (x_newa 0 17)))) (bn 21 (bn 20 (bl 17 (y_putf 1 2 2 20)) (bl 20 (y_aload 0 21))) (bn 22 (bl 21 (y_aload 1 22)) (bl 22 (y_putf 1 0 2 25)))))
set_option maxRecDepth 100000 in
set_option maxHeartbeats 4000000 in
theorem T_1_ok (G : State → Nat → Nat → Prop) : xTree PX G prog_3_method_1_code "CapitalCase$Judge" true T_1 := (xT_n (xT_n (xT_n (xT_l (yS (y_aload_eq _ _) (s_aload_n d1_0))) (xT_n (xT_l (s_obj d1_1 wd_421 wd_139 wd_obj)) (xT_l (yS (y_aload_eq _ _) (s_aload_n d1_4))))) (xT_n (xT_l (s_bipush d1_5 (by decide +kernel))) (xT_n (xT_l (s_newa (ty := .int) d1_7 rfl rfl wd_253 (by decide) (fun _ _ => rfl) (Or.inl ⟨by decide, rfl⟩))) (xT_l (yS (y_putf_eq _ _ _ _) (s_putF (T := TX1) (N := 3) (ty := tyX1) d1_9 rfl inX1 tyX1_ok nmX1 (by decide) wd_423 (Or.inr (Or.inr ⟨rfl, Or.inr ⟨_, rfl⟩⟩)) rfl rfl rfl)))))) (xT_n (xT_n (xT_l (yS (y_aload_eq _ _) (s_aload_n d1_12))) (xT_n (xT_l (s_bipush d1_13 (by decide +kernel))) (xT_l (s_newa (ty := .int) d1_15 rfl rfl wd_253 (by decide) (fun _ _ => rfl) (Or.inl ⟨by decide, rfl⟩))))) (xT_n (xT_n (xT_l (yS (y_putf_eq _ _ _ _) (s_putF (T := TX1) (N := 3) (ty := tyX1) d1_17 rfl inX1 tyX1_ok nmX1 (by decide) wd_424 (Or.inr (Or.inr ⟨rfl, Or.inr ⟨_, rfl⟩⟩)) rfl rfl rfl))) (xT_l (yS (y_aload_eq _ _) (s_aload_n d1_20)))) (xT_n (xT_l (yS (y_aload_eq _ _) (s_aload_n d1_21))) (xT_l (yS (y_putf_eq _ _ _ _) (s_putF (T := TX1) (N := 3) (ty := tyX1) d1_22 rfl inX1 tyX1_ok nmX1 (by decide) wd_422 (Or.inr (Or.inr ⟨rfl, Or.inl ⟨_, rfl⟩⟩)) rfl rfl rfl)))))))
set_option maxRecDepth 100000 in
set_option maxHeartbeats 4000000 in
theorem M_1 : xMeth PX 1 (T_1, 2, [(25, 3)]) := ⟨⟨"CapitalCase$Judge", "<init>", "(LCapitalCase$Script;)V"⟩, prog_3_method_1_code, none, rfl, by decide, fun G => T_1_ok G, xrt_ok (xR_c (Or.inr (Or.inr (Or.inl ⟨rfl, d1_25, rfl⟩))) (xR_n))⟩
theorem d2_0 : decode prog_4_method_1_code 0 = .ok (.aload_n 0, 1) := by decide +kernel
theorem d2_1 : decode prog_4_method_1_code 1 = .ok (.invokespecial 3, 3) := by decide +kernel
theorem d2_4 : decode prog_4_method_1_code 4 = .ok (.aload_n 0, 1) := by decide +kernel
theorem d2_5 : decode prog_4_method_1_code 5 = .ok (.new 9, 3) := by decide +kernel
theorem d2_8 : decode prog_4_method_1_code 8 = .ok (.dup, 1) := by decide +kernel
theorem d2_9 : decode prog_4_method_1_code 9 = .ok (.invokespecial 11, 3) := by decide +kernel
theorem d2_12 : decode prog_4_method_1_code 12 = .ok (.putfield 12, 3) := by decide +kernel
theorem d2_15 : decode prog_4_method_1_code 15 = .ok (.aload_n 0, 1) := by decide +kernel
theorem d2_16 : decode prog_4_method_1_code 16 = .ok (.new 18, 3) := by decide +kernel
theorem d2_19 : decode prog_4_method_1_code 19 = .ok (.dup, 1) := by decide +kernel
theorem d2_20 : decode prog_4_method_1_code 20 = .ok (.invokespecial 20, 3) := by decide +kernel
theorem d2_23 : decode prog_4_method_1_code 23 = .ok (.putfield 21, 3) := by decide +kernel
theorem d2_26 : decode prog_4_method_1_code 26 = .ok (.aload_n 0, 1) := by decide +kernel
theorem d2_27 : decode prog_4_method_1_code 27 = .ok (.bipush 12, 2) := by decide +kernel
theorem d2_29 : decode prog_4_method_1_code 29 = .ok (.newarray .int, 2) := by decide +kernel
theorem d2_31 : decode prog_4_method_1_code 31 = .ok (.putfield 25, 3) := by decide +kernel
theorem d2_34 : decode prog_4_method_1_code 34 = .ok (.aload_n 0, 1) := by decide +kernel
theorem d2_35 : decode prog_4_method_1_code 35 = .ok (.aload_n 1, 1) := by decide +kernel
theorem d2_36 : decode prog_4_method_1_code 36 = .ok (.putfield 29, 3) := by decide +kernel
theorem d2_39 : decode prog_4_method_1_code 39 = .ok (.return_, 1) := by decide +kernel
noncomputable def T_2 : Nat → Option xF := bn 19 (bn 8 (bn 4 (bn 1 (bl 0 (y_aload 0 1)) (bl 1 (x_obj 4))) (bn 5 (bl 4 (y_aload 0 5)) (bl 5 (x_new 6 15 [.inl (2147483648, 2147483648), .inl (2147483648, 2147483648), .inl (2147483648, 2147483648), .inl (2147483648, 2147483648), .inl (2147483648, 2147483648), .inr (.inl none), .inr (.inl none), .inr (.inl none), .inr (.inl none), .inr (.inl none), .inr (.inl none), .inr (.inl none), .inr (.inl none), .inr (.inl none), .inl (2147483648, 2147483648)] 8)))) (bn 12 (bn 9 (bl 8 (x_dup 9)) (bl 9 (y_invV 6 6 1 12))) (bn 15 (bl 12 (y_putf 2 0 2 15)) (bn 16 (bl 15 (y_aload 0 16)) (bl 16 (x_new 7 3 [.inr (.inl none), .inr (.inl none), .inr (.inl none)] 19)))))) (bn 29 (bn 23 (bn 20 (bl 19 (x_dup 20)) (bl 20 (y_invV 7 10 1 23))) (bn 26 (bl 23 (y_putf 2 1 2 26)) (bn 27 (bl 26 (y_aload 0 27)) (bl 27 (x_const 2147483660 29))))) (bn 34 (bn 31 (bl 29 (x_newa 0 31)) (bl 31 (y_putf 2 8 2 34))) (bn 35 (bl 34 (y_aload 0 35)) (bn 36 (bl 35 (y_aload 1 36)) (bl 36 (y_putf 2 2 2 39))))))
set_option maxRecDepth 100000 in
set_option maxHeartbeats 4000000 in
theorem T_2_ok (G : State → Nat → Nat → Prop) : xTree PX G prog_4_method_1_code "CapitalCase$Parser" true T_2 := (xT_n (xT_n (xT_n (xT_n (xT_l (yS (y_aload_eq _ _) (s_aload_n d2_0))) (xT_l (s_obj d2_1 wd_259 wd_139 wd_obj))) (xT_n (xT_l (yS (y_aload_eq _ _) (s_aload_n d2_4))) (xT_l (s_new (T := TX6) (ty := tyX6) d2_5 rfl inX6 tyX6_ok (by decide) (by decide) wd_260 wd_142 wd_112)))) (xT_n (xT_n (xT_l (s_dup d2_8)) (xT_l (yS (y_invV_eq _ _ _ _) (s_invI d2_9 cal_6 wd_261 wd_144 rfl)))) (xT_n (xT_l (yS (y_putf_eq _ _ _ _) (s_putF (T := TX2) (N := 10) (ty := tyX2) d2_12 rfl inX2 tyX2_ok nmX2 (by decide) wd_281 (Or.inr (Or.inr ⟨rfl, Or.inl ⟨_, rfl⟩⟩)) rfl rfl rfl))) (xT_n (xT_l (yS (y_aload_eq _ _) (s_aload_n d2_15))) (xT_l (s_new (T := TX7) (ty := tyX7) d2_16 rfl inX7 tyX7_ok (by decide) (by decide) wd_262 wd_263 wd_115)))))) (xT_n (xT_n (xT_n (xT_l (s_dup d2_19)) (xT_l (yS (y_invV_eq _ _ _ _) (s_invIN (host := "CapitalCase") d2_20 cal_10 (by decide +kernel) wd_265 rfl)))) (xT_n (xT_l (yS (y_putf_eq _ _ _ _) (s_putF (T := TX2) (N := 10) (ty := tyX2) d2_23 rfl inX2 tyX2_ok nmX2 (by decide) wd_283 (Or.inr (Or.inr ⟨rfl, Or.inl ⟨_, rfl⟩⟩)) rfl rfl rfl))) (xT_n (xT_l (yS (y_aload_eq _ _) (s_aload_n d2_26))) (xT_l (s_bipush d2_27 (by decide +kernel)))))) (xT_n (xT_n (xT_l (s_newa (ty := .int) d2_29 rfl rfl wd_253 (by decide) (fun _ _ => rfl) (Or.inl ⟨by decide, rfl⟩))) (xT_l (yS (y_putf_eq _ _ _ _) (s_putF (T := TX2) (N := 10) (ty := tyX2) d2_31 rfl inX2 tyX2_ok nmX2 (by decide) wd_291 (Or.inr (Or.inr ⟨rfl, Or.inr ⟨_, rfl⟩⟩)) rfl rfl rfl)))) (xT_n (xT_l (yS (y_aload_eq _ _) (s_aload_n d2_34))) (xT_n (xT_l (yS (y_aload_eq _ _) (s_aload_n d2_35))) (xT_l (yS (y_putf_eq _ _ _ _) (s_putF (T := TX2) (N := 10) (ty := tyX2) d2_36 rfl inX2 tyX2_ok nmX2 (by decide) wd_284 (Or.inr (Or.inr ⟨rfl, Or.inr ⟨_, rfl⟩⟩)) rfl rfl rfl))))))))
set_option maxRecDepth 100000 in
set_option maxHeartbeats 4000000 in
theorem M_2 : xMeth PX 2 (T_2, 2, [(39, 3)]) := ⟨⟨"CapitalCase$Parser", "<init>", "([B)V"⟩, prog_4_method_1_code, none, rfl, by decide, fun G => T_2_ok G, xrt_ok (xR_c (Or.inr (Or.inr (Or.inl ⟨rfl, d2_39, rfl⟩))) (xR_n))⟩
theorem d3_0 : decode prog_5_method_1_code 0 = .ok (.aload_n 0, 1) := by decide +kernel
theorem d3_1 : decode prog_5_method_1_code 1 = .ok (.invokespecial 3, 3) := by decide +kernel
theorem d3_4 : decode prog_5_method_1_code 4 = .ok (.aload_n 0, 1) := by decide +kernel
theorem d3_5 : decode prog_5_method_1_code 5 = .ok (.bipush 40, 2) := by decide +kernel
theorem d3_7 : decode prog_5_method_1_code 7 = .ok (.newarray .int, 2) := by decide +kernel
theorem d3_9 : decode prog_5_method_1_code 9 = .ok (.putfield 9, 3) := by decide +kernel
theorem d3_12 : decode prog_5_method_1_code 12 = .ok (.aload_n 0, 1) := by decide +kernel
theorem d3_13 : decode prog_5_method_1_code 13 = .ok (.bipush 56, 2) := by decide +kernel
theorem d3_15 : decode prog_5_method_1_code 15 = .ok (.newarray .int, 2) := by decide +kernel
theorem d3_17 : decode prog_5_method_1_code 17 = .ok (.putfield 15, 3) := by decide +kernel
theorem d3_20 : decode prog_5_method_1_code 20 = .ok (.aload_n 0, 1) := by decide +kernel
theorem d3_21 : decode prog_5_method_1_code 21 = .ok (.bipush 7, 2) := by decide +kernel
theorem d3_23 : decode prog_5_method_1_code 23 = .ok (.newarray .int, 2) := by decide +kernel
theorem d3_25 : decode prog_5_method_1_code 25 = .ok (.putfield 18, 3) := by decide +kernel
theorem d3_28 : decode prog_5_method_1_code 28 = .ok (.aload_n 0, 1) := by decide +kernel
theorem d3_29 : decode prog_5_method_1_code 29 = .ok (.sipush 280, 3) := by decide +kernel
theorem d3_32 : decode prog_5_method_1_code 32 = .ok (.newarray .int, 2) := by decide +kernel
theorem d3_34 : decode prog_5_method_1_code 34 = .ok (.putfield 21, 3) := by decide +kernel
theorem d3_37 : decode prog_5_method_1_code 37 = .ok (.aload_n 0, 1) := by decide +kernel
theorem d3_38 : decode prog_5_method_1_code 38 = .ok (.sipush 280, 3) := by decide +kernel
theorem d3_41 : decode prog_5_method_1_code 41 = .ok (.newarray .int, 2) := by decide +kernel
theorem d3_43 : decode prog_5_method_1_code 43 = .ok (.putfield 24, 3) := by decide +kernel
theorem d3_46 : decode prog_5_method_1_code 46 = .ok (.aload_n 0, 1) := by decide +kernel
theorem d3_47 : decode prog_5_method_1_code 47 = .ok (.bipush 56, 2) := by decide +kernel
theorem d3_49 : decode prog_5_method_1_code 49 = .ok (.newarray .int, 2) := by decide +kernel
theorem d3_51 : decode prog_5_method_1_code 51 = .ok (.putfield 27, 3) := by decide +kernel
theorem d3_54 : decode prog_5_method_1_code 54 = .ok (.aload_n 0, 1) := by decide +kernel
theorem d3_55 : decode prog_5_method_1_code 55 = .ok (.aload_n 1, 1) := by decide +kernel
theorem d3_56 : decode prog_5_method_1_code 56 = .ok (.putfield 30, 3) := by decide +kernel
theorem d3_59 : decode prog_5_method_1_code 59 = .ok (.aload_n 0, 1) := by decide +kernel
theorem d3_60 : decode prog_5_method_1_code 60 = .ok (.aload_n 2, 1) := by decide +kernel
theorem d3_61 : decode prog_5_method_1_code 61 = .ok (.putfield 34, 3) := by decide +kernel
theorem d3_64 : decode prog_5_method_1_code 64 = .ok (.return_, 1) := by decide +kernel
noncomputable def T_3 : Nat → Option xF := bn 32 (bn 15 (bn 7 (bn 4 (bn 1 (bl 0 (y_aload 0 1)) (bl 1 (x_obj 4))) (bn 5 (bl 4 (y_aload 0 5)) (bl 5 (x_const 2147483688 7)))) (bn 12 (bn 9 (bl 7 (x_newa 0 9)) (bl 9 (y_putf 3 2 2 12))) (bn 13 (bl 12 (y_aload 0 13)) (bl 13 (x_const 2147483704 15))))) (bn 23 (bn 20 (bn 17 (bl 15 (x_newa 0 17)) (bl 17 (y_putf 3 3 2 20))) (bn 21 (bl 20 (y_aload 0 21)) (bl 21 (x_const 2147483655 23)))) (bn 28 (bn 25 (bl 23 (x_newa 0 25)) (bl 25 (y_putf 3 4 2 28))) (bn 29 (bl 28 (y_aload 0 29)) (bl 29 (x_const 2147483928 32)))))) (bn 49 (bn 41 (bn 37 (bn 34 (bl 32 (x_newa 0 34)) (bl 34 (y_putf 3 9 2 37))) (bn 38 (bl 37 (y_aload 0 38)) (bl 38 (x_const 2147483928 41)))) (bn 46 (bn 43 (bl 41 (x_newa 0 43)) (bl 43 (y_putf 3 10 2 46))) (bn 47 (bl 46 (y_aload 0 47)) (bl 47 (x_const 2147483704 49))))) (bn 56 (bn 54 (bn 51 (bl 49 (x_newa 0 51)) (bl 51 (y_putf 3 11 2 54))) (bn 55 (bl 54 (y_aload 0 55)) (bl 55 (y_aload 1 56)))) (bn 60 (bn 59 (bl 56 (y_putf 3 0 2 59)) (bl 59 (y_aload 0 60))) (bn 61 (bl 60 (y_aload 2 61)) (bl 61 (y_putf 3 1 2 64))))))
set_option maxRecDepth 100000 in
set_option maxHeartbeats 4000000 in
theorem T_3_ok (G : State → Nat → Nat → Prop) : xTree PX G prog_5_method_1_code "CapitalCase$Planner" true T_3 := (xT_n (xT_n (xT_n (xT_n (xT_n (xT_l (yS (y_aload_eq _ _) (s_aload_n d3_0))) (xT_l (s_obj d3_1 wd_450 wd_139 wd_obj))) (xT_n (xT_l (yS (y_aload_eq _ _) (s_aload_n d3_4))) (xT_l (s_bipush d3_5 (by decide +kernel))))) (xT_n (xT_n (xT_l (s_newa (ty := .int) d3_7 rfl rfl wd_253 (by decide) (fun _ _ => rfl) (Or.inl ⟨by decide, rfl⟩))) (xT_l (yS (y_putf_eq _ _ _ _) (s_putF (T := TX3) (N := 12) (ty := tyX3) d3_9 rfl inX3 tyX3_ok nmX3 (by decide) wd_453 (Or.inr (Or.inr ⟨rfl, Or.inr ⟨_, rfl⟩⟩)) rfl rfl rfl)))) (xT_n (xT_l (yS (y_aload_eq _ _) (s_aload_n d3_12))) (xT_l (s_bipush d3_13 (by decide +kernel)))))) (xT_n (xT_n (xT_n (xT_l (s_newa (ty := .int) d3_15 rfl rfl wd_253 (by decide) (fun _ _ => rfl) (Or.inl ⟨by decide, rfl⟩))) (xT_l (yS (y_putf_eq _ _ _ _) (s_putF (T := TX3) (N := 12) (ty := tyX3) d3_17 rfl inX3 tyX3_ok nmX3 (by decide) wd_454 (Or.inr (Or.inr ⟨rfl, Or.inr ⟨_, rfl⟩⟩)) rfl rfl rfl)))) (xT_n (xT_l (yS (y_aload_eq _ _) (s_aload_n d3_20))) (xT_l (s_bipush d3_21 (by decide +kernel))))) (xT_n (xT_n (xT_l (s_newa (ty := .int) d3_23 rfl rfl wd_253 (by decide) (fun _ _ => rfl) (Or.inl ⟨by decide, rfl⟩))) (xT_l (yS (y_putf_eq _ _ _ _) (s_putF (T := TX3) (N := 12) (ty := tyX3) d3_25 rfl inX3 tyX3_ok nmX3 (by decide) wd_457 (Or.inr (Or.inr ⟨rfl, Or.inr ⟨_, rfl⟩⟩)) rfl rfl rfl)))) (xT_n (xT_l (yS (y_aload_eq _ _) (s_aload_n d3_28))) (xT_l (s_sipush d3_29 (by decide +kernel))))))) (xT_n (xT_n (xT_n (xT_n (xT_l (s_newa (ty := .int) d3_32 rfl rfl wd_253 (by decide) (fun _ _ => rfl) (Or.inl ⟨by decide, rfl⟩))) (xT_l (yS (y_putf_eq _ _ _ _) (s_putF (T := TX3) (N := 12) (ty := tyX3) d3_34 rfl inX3 tyX3_ok nmX3 (by decide) wd_467 (Or.inr (Or.inr ⟨rfl, Or.inr ⟨_, rfl⟩⟩)) rfl rfl rfl)))) (xT_n (xT_l (yS (y_aload_eq _ _) (s_aload_n d3_37))) (xT_l (s_sipush d3_38 (by decide +kernel))))) (xT_n (xT_n (xT_l (s_newa (ty := .int) d3_41 rfl rfl wd_253 (by decide) (fun _ _ => rfl) (Or.inl ⟨by decide, rfl⟩))) (xT_l (yS (y_putf_eq _ _ _ _) (s_putF (T := TX3) (N := 12) (ty := tyX3) d3_43 rfl inX3 tyX3_ok nmX3 (by decide) wd_468 (Or.inr (Or.inr ⟨rfl, Or.inr ⟨_, rfl⟩⟩)) rfl rfl rfl)))) (xT_n (xT_l (yS (y_aload_eq _ _) (s_aload_n d3_46))) (xT_l (s_bipush d3_47 (by decide +kernel)))))) (xT_n (xT_n (xT_n (xT_l (s_newa (ty := .int) d3_49 rfl rfl wd_253 (by decide) (fun _ _ => rfl) (Or.inl ⟨by decide, rfl⟩))) (xT_l (yS (y_putf_eq _ _ _ _) (s_putF (T := TX3) (N := 12) (ty := tyX3) d3_51 rfl inX3 tyX3_ok nmX3 (by decide) wd_469 (Or.inr (Or.inr ⟨rfl, Or.inr ⟨_, rfl⟩⟩)) rfl rfl rfl)))) (xT_n (xT_l (yS (y_aload_eq _ _) (s_aload_n d3_54))) (xT_l (yS (y_aload_eq _ _) (s_aload_n d3_55))))) (xT_n (xT_n (xT_l (yS (y_putf_eq _ _ _ _) (s_putF (T := TX3) (N := 12) (ty := tyX3) d3_56 rfl inX3 tyX3_ok nmX3 (by decide) wd_451 (Or.inr (Or.inr ⟨rfl, Or.inl ⟨_, rfl⟩⟩)) rfl rfl rfl))) (xT_l (yS (y_aload_eq _ _) (s_aload_n d3_59)))) (xT_n (xT_l (yS (y_aload_eq _ _) (s_aload_n d3_60))) (xT_l (yS (y_putf_eq _ _ _ _) (s_putF (T := TX3) (N := 12) (ty := tyX3) d3_61 rfl inX3 tyX3_ok nmX3 (by decide) wd_452 (Or.inr (Or.inr ⟨rfl, Or.inl ⟨_, rfl⟩⟩)) rfl rfl rfl))))))))
set_option maxRecDepth 100000 in
set_option maxHeartbeats 4000000 in
theorem M_3 : xMeth PX 3 (T_3, 3, [(64, 3)]) := ⟨⟨"CapitalCase$Planner", "<init>", "(LCapitalCase$Script;LCapitalCase$Judge;)V"⟩, prog_5_method_1_code, none, rfl, by decide, fun G => T_3_ok G, xrt_ok (xR_c (Or.inr (Or.inr (Or.inl ⟨rfl, d3_64, rfl⟩))) (xR_n))⟩
theorem d4_0 : decode prog_6_method_1_code 0 = .ok (.aload_n 0, 1) := by decide +kernel
theorem d4_1 : decode prog_6_method_1_code 1 = .ok (.invokespecial 3, 3) := by decide +kernel
theorem d4_4 : decode prog_6_method_1_code 4 = .ok (.aload_n 0, 1) := by decide +kernel
theorem d4_5 : decode prog_6_method_1_code 5 = .ok (.aload_n 1, 1) := by decide +kernel
theorem d4_6 : decode prog_6_method_1_code 6 = .ok (.putfield 9, 3) := by decide +kernel
theorem d4_9 : decode prog_6_method_1_code 9 = .ok (.aload_n 0, 1) := by decide +kernel
theorem d4_10 : decode prog_6_method_1_code 10 = .ok (.aload_n 2, 1) := by decide +kernel
theorem d4_11 : decode prog_6_method_1_code 11 = .ok (.putfield 15, 3) := by decide +kernel
theorem d4_14 : decode prog_6_method_1_code 14 = .ok (.return_, 1) := by decide +kernel
noncomputable def T_4 : Nat → Option xF := bn 6 (bn 4 (bn 1 (bl 0 (y_aload 0 1)) (bl 1 (x_obj 4))) (bn 5 (bl 4 (y_aload 0 5)) (bl 5 (y_aload 1 6)))) (bn 10 (bn 9 (bl 6 (y_putf 4 0 2 9)) (bl 9 (y_aload 0 10))) (bn 11 (bl 10 (y_aload 2 11)) (bl 11 (y_putf 4 1 2 14))))
set_option maxRecDepth 100000 in
set_option maxHeartbeats 4000000 in
theorem T_4_ok (G : State → Nat → Nat → Prop) : xTree PX G prog_6_method_1_code "CapitalCase$Press" true T_4 := (xT_n (xT_n (xT_n (xT_l (yS (y_aload_eq _ _) (s_aload_n d4_0))) (xT_l (s_obj d4_1 wd_437 wd_139 wd_obj))) (xT_n (xT_l (yS (y_aload_eq _ _) (s_aload_n d4_4))) (xT_l (yS (y_aload_eq _ _) (s_aload_n d4_5))))) (xT_n (xT_n (xT_l (yS (y_putf_eq _ _ _ _) (s_putF (T := TX4) (N := 2) (ty := tyX4) d4_6 rfl inX4 tyX4_ok nmX4 (by decide) wd_438 (Or.inr (Or.inr ⟨rfl, Or.inl ⟨_, rfl⟩⟩)) rfl rfl rfl))) (xT_l (yS (y_aload_eq _ _) (s_aload_n d4_9)))) (xT_n (xT_l (yS (y_aload_eq _ _) (s_aload_n d4_10))) (xT_l (yS (y_putf_eq _ _ _ _) (s_putF (T := TX4) (N := 2) (ty := tyX4) d4_11 rfl inX4 tyX4_ok nmX4 (by decide) wd_439 (Or.inr (Or.inr ⟨rfl, Or.inl ⟨_, rfl⟩⟩)) rfl rfl rfl))))))
set_option maxRecDepth 100000 in
set_option maxHeartbeats 4000000 in
theorem M_4 : xMeth PX 4 (T_4, 3, [(14, 3)]) := ⟨⟨"CapitalCase$Press", "<init>", "(LCapitalCase$Script;LCapitalCase$Judge;)V"⟩, prog_6_method_1_code, none, rfl, by decide, fun G => T_4_ok G, xrt_ok (xR_c (Or.inr (Or.inr (Or.inl ⟨rfl, d4_14, rfl⟩))) (xR_n))⟩
theorem d5_0 : decode prog_7_method_1_code 0 = .ok (.aload_n 0, 1) := by decide +kernel
theorem d5_1 : decode prog_7_method_1_code 1 = .ok (.invokespecial 3, 3) := by decide +kernel
theorem d5_4 : decode prog_7_method_1_code 4 = .ok (.aload_n 0, 1) := by decide +kernel
theorem d5_5 : decode prog_7_method_1_code 5 = .ok (.bipush 20, 2) := by decide +kernel
theorem d5_7 : decode prog_7_method_1_code 7 = .ok (.newarray .int, 2) := by decide +kernel
theorem d5_9 : decode prog_7_method_1_code 9 = .ok (.putfield 11, 3) := by decide +kernel
theorem d5_12 : decode prog_7_method_1_code 12 = .ok (.aload_n 0, 1) := by decide +kernel
theorem d5_13 : decode prog_7_method_1_code 13 = .ok (.bipush 20, 2) := by decide +kernel
theorem d5_15 : decode prog_7_method_1_code 15 = .ok (.newarray .int, 2) := by decide +kernel
theorem d5_17 : decode prog_7_method_1_code 17 = .ok (.putfield 15, 3) := by decide +kernel
theorem d5_20 : decode prog_7_method_1_code 20 = .ok (.aload_n 0, 1) := by decide +kernel
theorem d5_21 : decode prog_7_method_1_code 21 = .ok (.bipush 20, 2) := by decide +kernel
theorem d5_23 : decode prog_7_method_1_code 23 = .ok (.newarray .boolean, 2) := by decide +kernel
theorem d5_25 : decode prog_7_method_1_code 25 = .ok (.putfield 18, 3) := by decide +kernel
theorem d5_28 : decode prog_7_method_1_code 28 = .ok (.return_, 1) := by decide +kernel
noncomputable def T_5 : Nat → Option xF := bn 13 (bn 5 (bn 1 (bl 0 (y_aload 0 1)) (bn 4 (bl 1 (x_obj 4)) (bl 4 (y_aload 0 5)))) (bn 9 (bn 7 (bl 5 (x_const 2147483668 7)) (bl 7 (x_newa 0 9))) (bn 12 (bl 9 (y_putf 5 0 2 12)) (bl 12 (y_aload 0 13))))) (bn 20 (bn 15 (bl 13 (x_const 2147483668 15)) (bn 17 (bl 15 (x_newa 0 17)) (bl 17 (y_putf 5 1 2 20)))) (bn 23 (bn 21 (bl 20 (y_aload 0 21)) (bl 21 (x_const 2147483668 23))) (bn 25 (bl 23 (x_newa 2 25)) (bl 25 (y_putf 5 2 2 28)))))
set_option maxRecDepth 100000 in
set_option maxHeartbeats 4000000 in
theorem T_5_ok (G : State → Nat → Nat → Prop) : xTree PX G prog_7_method_1_code "CapitalCase$Prints" true T_5 := (xT_n (xT_n (xT_n (xT_l (yS (y_aload_eq _ _) (s_aload_n d5_0))) (xT_n (xT_l (s_obj d5_1 wd_400 wd_139 wd_obj)) (xT_l (yS (y_aload_eq _ _) (s_aload_n d5_4))))) (xT_n (xT_n (xT_l (s_bipush d5_5 (by decide +kernel))) (xT_l (s_newa (ty := .int) d5_7 rfl rfl wd_253 (by decide) (fun _ _ => rfl) (Or.inl ⟨by decide, rfl⟩)))) (xT_n (xT_l (yS (y_putf_eq _ _ _ _) (s_putF (T := TX5) (N := 4) (ty := tyX5) d5_9 rfl inX5 tyX5_ok nmX5 (by decide) wd_401 (Or.inr (Or.inr ⟨rfl, Or.inr ⟨_, rfl⟩⟩)) rfl rfl rfl))) (xT_l (yS (y_aload_eq _ _) (s_aload_n d5_12)))))) (xT_n (xT_n (xT_l (s_bipush d5_13 (by decide +kernel))) (xT_n (xT_l (s_newa (ty := .int) d5_15 rfl rfl wd_253 (by decide) (fun _ _ => rfl) (Or.inl ⟨by decide, rfl⟩))) (xT_l (yS (y_putf_eq _ _ _ _) (s_putF (T := TX5) (N := 4) (ty := tyX5) d5_17 rfl inX5 tyX5_ok nmX5 (by decide) wd_402 (Or.inr (Or.inr ⟨rfl, Or.inr ⟨_, rfl⟩⟩)) rfl rfl rfl))))) (xT_n (xT_n (xT_l (yS (y_aload_eq _ _) (s_aload_n d5_20))) (xT_l (s_bipush d5_21 (by decide +kernel)))) (xT_n (xT_l (s_newa (ty := .boolean) d5_23 rfl rfl wd_415 (by decide) (fun _ _ => rfl) (Or.inl ⟨by decide, rfl⟩))) (xT_l (yS (y_putf_eq _ _ _ _) (s_putF (T := TX5) (N := 4) (ty := tyX5) d5_25 rfl inX5 tyX5_ok nmX5 (by decide) wd_403 (Or.inr (Or.inr ⟨rfl, Or.inr ⟨_, rfl⟩⟩)) rfl rfl rfl)))))))
set_option maxRecDepth 100000 in
set_option maxHeartbeats 4000000 in
theorem M_5 : xMeth PX 5 (T_5, 1, [(28, 3)]) := ⟨⟨"CapitalCase$Prints", "<init>", "()V"⟩, prog_7_method_1_code, none, rfl, by decide, fun G => T_5_ok G, xrt_ok (xR_c (Or.inr (Or.inr (Or.inl ⟨rfl, d5_28, rfl⟩))) (xR_n))⟩
theorem d6_0 : decode prog_8_method_1_code 0 = .ok (.aload_n 0, 1) := by decide +kernel
theorem d6_1 : decode prog_8_method_1_code 1 = .ok (.invokespecial 7, 3) := by decide +kernel
theorem d6_4 : decode prog_8_method_1_code 4 = .ok (.aload_n 0, 1) := by decide +kernel
theorem d6_5 : decode prog_8_method_1_code 5 = .ok (.bipush 40, 2) := by decide +kernel
theorem d6_7 : decode prog_8_method_1_code 7 = .ok (.newarray .int, 2) := by decide +kernel
theorem d6_9 : decode prog_8_method_1_code 9 = .ok (.putfield 13, 3) := by decide +kernel
theorem d6_12 : decode prog_8_method_1_code 12 = .ok (.aload_n 0, 1) := by decide +kernel
theorem d6_13 : decode prog_8_method_1_code 13 = .ok (.bipush 7, 2) := by decide +kernel
theorem d6_15 : decode prog_8_method_1_code 15 = .ok (.newarray .int, 2) := by decide +kernel
theorem d6_17 : decode prog_8_method_1_code 17 = .ok (.putfield 17, 3) := by decide +kernel
theorem d6_20 : decode prog_8_method_1_code 20 = .ok (.aload_n 0, 1) := by decide +kernel
theorem d6_21 : decode prog_8_method_1_code 21 = .ok (.bipush 7, 2) := by decide +kernel
theorem d6_23 : decode prog_8_method_1_code 23 = .ok (.newarray .int, 2) := by decide +kernel
theorem d6_25 : decode prog_8_method_1_code 25 = .ok (.putfield 20, 3) := by decide +kernel
theorem d6_28 : decode prog_8_method_1_code 28 = .ok (.aload_n 0, 1) := by decide +kernel
theorem d6_29 : decode prog_8_method_1_code 29 = .ok (.bipush 7, 2) := by decide +kernel
theorem d6_31 : decode prog_8_method_1_code 31 = .ok (.newarray .int, 2) := by decide +kernel
theorem d6_33 : decode prog_8_method_1_code 33 = .ok (.putfield 23, 3) := by decide +kernel
theorem d6_36 : decode prog_8_method_1_code 36 = .ok (.aload_n 0, 1) := by decide +kernel
theorem d6_37 : decode prog_8_method_1_code 37 = .ok (.bipush 56, 2) := by decide +kernel
theorem d6_39 : decode prog_8_method_1_code 39 = .ok (.newarray .int, 2) := by decide +kernel
theorem d6_41 : decode prog_8_method_1_code 41 = .ok (.putfield 26, 3) := by decide +kernel
theorem d6_44 : decode prog_8_method_1_code 44 = .ok (.aload_n 0, 1) := by decide +kernel
theorem d6_45 : decode prog_8_method_1_code 45 = .ok (.bipush 56, 2) := by decide +kernel
theorem d6_47 : decode prog_8_method_1_code 47 = .ok (.newarray .int, 2) := by decide +kernel
theorem d6_49 : decode prog_8_method_1_code 49 = .ok (.putfield 29, 3) := by decide +kernel
theorem d6_52 : decode prog_8_method_1_code 52 = .ok (.aload_n 0, 1) := by decide +kernel
theorem d6_53 : decode prog_8_method_1_code 53 = .ok (.iconst 4, 1) := by decide +kernel
theorem d6_54 : decode prog_8_method_1_code 54 = .ok (.newarray .int, 2) := by decide +kernel
theorem d6_56 : decode prog_8_method_1_code 56 = .ok (.putfield 32, 3) := by decide +kernel
theorem d6_59 : decode prog_8_method_1_code 59 = .ok (.aload_n 0, 1) := by decide +kernel
theorem d6_60 : decode prog_8_method_1_code 60 = .ok (.sipush 408, 3) := by decide +kernel
theorem d6_63 : decode prog_8_method_1_code 63 = .ok (.newarray .int, 2) := by decide +kernel
theorem d6_65 : decode prog_8_method_1_code 65 = .ok (.putfield 35, 3) := by decide +kernel
theorem d6_68 : decode prog_8_method_1_code 68 = .ok (.aload_n 0, 1) := by decide +kernel
theorem d6_69 : decode prog_8_method_1_code 69 = .ok (.sipush 408, 3) := by decide +kernel
theorem d6_72 : decode prog_8_method_1_code 72 = .ok (.newarray .int, 2) := by decide +kernel
theorem d6_74 : decode prog_8_method_1_code 74 = .ok (.putfield 38, 3) := by decide +kernel
theorem d6_77 : decode prog_8_method_1_code 77 = .ok (.aload_n 0, 1) := by decide +kernel
theorem d6_78 : decode prog_8_method_1_code 78 = .ok (.invokevirtual 41, 3) := by decide +kernel
theorem d6_81 : decode prog_8_method_1_code 81 = .ok (.return_, 1) := by decide +kernel
noncomputable def T_6 : Nat → Option xF := bn 39 (bn 20 (bn 9 (bn 4 (bn 1 (bl 0 (y_aload 0 1)) (bl 1 (x_obj 4))) (bn 5 (bl 4 (y_aload 0 5)) (bn 7 (bl 5 (x_const 2147483688 7)) (bl 7 (x_newa 0 9))))) (bn 13 (bn 12 (bl 9 (y_putf 6 5 2 12)) (bl 12 (y_aload 0 13))) (bn 15 (bl 13 (x_const 2147483655 15)) (bn 17 (bl 15 (x_newa 0 17)) (bl 17 (y_putf 6 6 2 20)))))) (bn 29 (bn 23 (bn 21 (bl 20 (y_aload 0 21)) (bl 21 (x_const 2147483655 23))) (bn 25 (bl 23 (x_newa 0 25)) (bn 28 (bl 25 (y_putf 6 7 2 28)) (bl 28 (y_aload 0 29))))) (bn 33 (bn 31 (bl 29 (x_const 2147483655 31)) (bl 31 (x_newa 0 33))) (bn 36 (bl 33 (y_putf 6 8 2 36)) (bn 37 (bl 36 (y_aload 0 37)) (bl 37 (x_const 2147483704 39))))))) (bn 59 (bn 49 (bn 44 (bn 41 (bl 39 (x_newa 0 41)) (bl 41 (y_putf 6 9 2 44))) (bn 45 (bl 44 (y_aload 0 45)) (bn 47 (bl 45 (x_const 2147483704 47)) (bl 47 (x_newa 0 49))))) (bn 53 (bn 52 (bl 49 (y_putf 6 10 2 52)) (bl 52 (y_aload 0 53))) (bn 54 (bl 53 (x_const 2147483652 54)) (bn 56 (bl 54 (x_newa 0 56)) (bl 56 (y_putf 6 11 2 59)))))) (bn 69 (bn 63 (bn 60 (bl 59 (y_aload 0 60)) (bl 60 (x_const 2147484056 63))) (bn 65 (bl 63 (x_newa 0 65)) (bn 68 (bl 65 (y_putf 6 12 2 68)) (bl 68 (y_aload 0 69))))) (bn 74 (bn 72 (bl 69 (x_const 2147484056 72)) (bl 72 (x_newa 0 74))) (bn 77 (bl 74 (y_putf 6 13 2 77)) (bn 78 (bl 77 (y_aload 0 78)) (bl 78 (y_invV 6 9 1 81)))))))
set_option maxRecDepth 100000 in
set_option maxHeartbeats 4000000 in
theorem T_6_ok (G : State → Nat → Nat → Prop) : xTree PX G prog_8_method_1_code "CapitalCase$Script" true T_6 := (xT_n (xT_n (xT_n (xT_n (xT_n (xT_l (yS (y_aload_eq _ _) (s_aload_n d6_0))) (xT_l (s_obj d6_1 wd_146 wd_139 wd_obj))) (xT_n (xT_l (yS (y_aload_eq _ _) (s_aload_n d6_4))) (xT_n (xT_l (s_bipush d6_5 (by decide +kernel))) (xT_l (s_newa (ty := .int) d6_7 rfl rfl wd_253 (by decide) (fun _ _ => rfl) (Or.inl ⟨by decide, rfl⟩)))))) (xT_n (xT_n (xT_l (yS (y_putf_eq _ _ _ _) (s_putF (T := TX6) (N := 15) (ty := tyX6) d6_9 rfl inX6 tyX6_ok nmX6 (by decide) wd_184 (Or.inr (Or.inr ⟨rfl, Or.inr ⟨_, rfl⟩⟩)) rfl rfl rfl))) (xT_l (yS (y_aload_eq _ _) (s_aload_n d6_12)))) (xT_n (xT_l (s_bipush d6_13 (by decide +kernel))) (xT_n (xT_l (s_newa (ty := .int) d6_15 rfl rfl wd_253 (by decide) (fun _ _ => rfl) (Or.inl ⟨by decide, rfl⟩))) (xT_l (yS (y_putf_eq _ _ _ _) (s_putF (T := TX6) (N := 15) (ty := tyX6) d6_17 rfl inX6 tyX6_ok nmX6 (by decide) wd_187 (Or.inr (Or.inr ⟨rfl, Or.inr ⟨_, rfl⟩⟩)) rfl rfl rfl))))))) (xT_n (xT_n (xT_n (xT_l (yS (y_aload_eq _ _) (s_aload_n d6_20))) (xT_l (s_bipush d6_21 (by decide +kernel)))) (xT_n (xT_l (s_newa (ty := .int) d6_23 rfl rfl wd_253 (by decide) (fun _ _ => rfl) (Or.inl ⟨by decide, rfl⟩))) (xT_n (xT_l (yS (y_putf_eq _ _ _ _) (s_putF (T := TX6) (N := 15) (ty := tyX6) d6_25 rfl inX6 tyX6_ok nmX6 (by decide) wd_191 (Or.inr (Or.inr ⟨rfl, Or.inr ⟨_, rfl⟩⟩)) rfl rfl rfl))) (xT_l (yS (y_aload_eq _ _) (s_aload_n d6_28)))))) (xT_n (xT_n (xT_l (s_bipush d6_29 (by decide +kernel))) (xT_l (s_newa (ty := .int) d6_31 rfl rfl wd_253 (by decide) (fun _ _ => rfl) (Or.inl ⟨by decide, rfl⟩)))) (xT_n (xT_l (yS (y_putf_eq _ _ _ _) (s_putF (T := TX6) (N := 15) (ty := tyX6) d6_33 rfl inX6 tyX6_ok nmX6 (by decide) wd_195 (Or.inr (Or.inr ⟨rfl, Or.inr ⟨_, rfl⟩⟩)) rfl rfl rfl))) (xT_n (xT_l (yS (y_aload_eq _ _) (s_aload_n d6_36))) (xT_l (s_bipush d6_37 (by decide +kernel)))))))) (xT_n (xT_n (xT_n (xT_n (xT_l (s_newa (ty := .int) d6_39 rfl rfl wd_253 (by decide) (fun _ _ => rfl) (Or.inl ⟨by decide, rfl⟩))) (xT_l (yS (y_putf_eq _ _ _ _) (s_putF (T := TX6) (N := 15) (ty := tyX6) d6_41 rfl inX6 tyX6_ok nmX6 (by decide) wd_202 (Or.inr (Or.inr ⟨rfl, Or.inr ⟨_, rfl⟩⟩)) rfl rfl rfl)))) (xT_n (xT_l (yS (y_aload_eq _ _) (s_aload_n d6_44))) (xT_n (xT_l (s_bipush d6_45 (by decide +kernel))) (xT_l (s_newa (ty := .int) d6_47 rfl rfl wd_253 (by decide) (fun _ _ => rfl) (Or.inl ⟨by decide, rfl⟩)))))) (xT_n (xT_n (xT_l (yS (y_putf_eq _ _ _ _) (s_putF (T := TX6) (N := 15) (ty := tyX6) d6_49 rfl inX6 tyX6_ok nmX6 (by decide) wd_207 (Or.inr (Or.inr ⟨rfl, Or.inr ⟨_, rfl⟩⟩)) rfl rfl rfl))) (xT_l (yS (y_aload_eq _ _) (s_aload_n d6_52)))) (xT_n (xT_l (s_iconst d6_53 (by decide +kernel))) (xT_n (xT_l (s_newa (ty := .int) d6_54 rfl rfl wd_253 (by decide) (fun _ _ => rfl) (Or.inl ⟨by decide, rfl⟩))) (xT_l (yS (y_putf_eq _ _ _ _) (s_putF (T := TX6) (N := 15) (ty := tyX6) d6_56 rfl inX6 tyX6_ok nmX6 (by decide) wd_211 (Or.inr (Or.inr ⟨rfl, Or.inr ⟨_, rfl⟩⟩)) rfl rfl rfl))))))) (xT_n (xT_n (xT_n (xT_l (yS (y_aload_eq _ _) (s_aload_n d6_59))) (xT_l (s_sipush d6_60 (by decide +kernel)))) (xT_n (xT_l (s_newa (ty := .int) d6_63 rfl rfl wd_253 (by decide) (fun _ _ => rfl) (Or.inl ⟨by decide, rfl⟩))) (xT_n (xT_l (yS (y_putf_eq _ _ _ _) (s_putF (T := TX6) (N := 15) (ty := tyX6) d6_65 rfl inX6 tyX6_ok nmX6 (by decide) wd_214 (Or.inr (Or.inr ⟨rfl, Or.inr ⟨_, rfl⟩⟩)) rfl rfl rfl))) (xT_l (yS (y_aload_eq _ _) (s_aload_n d6_68)))))) (xT_n (xT_n (xT_l (s_sipush d6_69 (by decide +kernel))) (xT_l (s_newa (ty := .int) d6_72 rfl rfl wd_253 (by decide) (fun _ _ => rfl) (Or.inl ⟨by decide, rfl⟩)))) (xT_n (xT_l (yS (y_putf_eq _ _ _ _) (s_putF (T := TX6) (N := 15) (ty := tyX6) d6_74 rfl inX6 tyX6_ok nmX6 (by decide) wd_216 (Or.inr (Or.inr ⟨rfl, Or.inr ⟨_, rfl⟩⟩)) rfl rfl rfl))) (xT_n (xT_l (yS (y_aload_eq _ _) (s_aload_n d6_77))) (xT_l (yS (y_invV_eq _ _ _ _) (s_invV (T := TX6) d6_78 cal_9 rfl wd_147 wd_148 wd_149)))))))))
set_option maxRecDepth 100000 in
set_option maxHeartbeats 4000000 in
theorem M_6 : xMeth PX 6 (T_6, 1, [(81, 3)]) := ⟨⟨"CapitalCase$Script", "<init>", "()V"⟩, prog_8_method_1_code, none, rfl, by decide, fun G => T_6_ok G, xrt_ok (xR_c (Or.inr (Or.inr (Or.inl ⟨rfl, d6_81, rfl⟩))) (xR_n))⟩
theorem d7_0 : decode prog_8_method_4_code 0 = .ok (.aload_n 0, 1) := by decide +kernel
theorem d7_1 : decode prog_8_method_4_code 1 = .ok (.getfield 66, 3) := by decide +kernel
theorem d7_4 : decode prog_8_method_4_code 4 = .ok (.sipush 408, 3) := by decide +kernel
theorem d7_7 : decode prog_8_method_4_code 7 = .ok (.if_icmp .ge 33, 3) := by decide +kernel
theorem d7_10 : decode prog_8_method_4_code 10 = .ok (.aload_n 0, 1) := by decide +kernel
theorem d7_11 : decode prog_8_method_4_code 11 = .ok (.getfield 35, 3) := by decide +kernel
theorem d7_14 : decode prog_8_method_4_code 14 = .ok (.aload_n 0, 1) := by decide +kernel
theorem d7_15 : decode prog_8_method_4_code 15 = .ok (.getfield 66, 3) := by decide +kernel
theorem d7_18 : decode prog_8_method_4_code 18 = .ok (.iload_n 1, 1) := by decide +kernel
theorem d7_19 : decode prog_8_method_4_code 19 = .ok (.iastore, 1) := by decide +kernel
theorem d7_20 : decode prog_8_method_4_code 20 = .ok (.aload_n 0, 1) := by decide +kernel
theorem d7_21 : decode prog_8_method_4_code 21 = .ok (.getfield 38, 3) := by decide +kernel
theorem d7_24 : decode prog_8_method_4_code 24 = .ok (.aload_n 0, 1) := by decide +kernel
theorem d7_25 : decode prog_8_method_4_code 25 = .ok (.getfield 66, 3) := by decide +kernel
theorem d7_28 : decode prog_8_method_4_code 28 = .ok (.iload_n 2, 1) := by decide +kernel
theorem d7_29 : decode prog_8_method_4_code 29 = .ok (.iastore, 1) := by decide +kernel
theorem d7_30 : decode prog_8_method_4_code 30 = .ok (.aload_n 0, 1) := by decide +kernel
theorem d7_31 : decode prog_8_method_4_code 31 = .ok (.dup, 1) := by decide +kernel
theorem d7_32 : decode prog_8_method_4_code 32 = .ok (.getfield 66, 3) := by decide +kernel
theorem d7_35 : decode prog_8_method_4_code 35 = .ok (.iconst 1, 1) := by decide +kernel
theorem d7_36 : decode prog_8_method_4_code 36 = .ok (.iadd, 1) := by decide +kernel
theorem d7_37 : decode prog_8_method_4_code 37 = .ok (.putfield 66, 3) := by decide +kernel
theorem d7_40 : decode prog_8_method_4_code 40 = .ok (.return_, 1) := by decide +kernel
noncomputable def T_7 : Nat → Option xF := bn 21 (bn 11 (bn 4 (bn 1 (bl 0 (y_aload 0 1)) (bl 1 (y_getf 6 14 4))) (bn 7 (bl 4 (x_const 2147484056 7)) (bn 10 (bl 7 (y_icmp yc3 40 10)) (bl 10 (y_aload 0 11))))) (bn 18 (bn 14 (bl 11 (y_getf 6 12 14)) (bn 15 (bl 14 (y_aload 0 15)) (bl 15 (y_getf 6 14 18)))) (bn 19 (bl 18 (y_iload 1 19)) (bn 20 (bl 19 (y_iast 20)) (bl 20 (y_aload 0 21)))))) (bn 30 (bn 25 (bn 24 (bl 21 (y_getf 6 13 24)) (bl 24 (y_aload 0 25))) (bn 28 (bl 25 (y_getf 6 14 28)) (bn 29 (bl 28 (y_iload 2 29)) (bl 29 (y_iast 30))))) (bn 35 (bn 31 (bl 30 (y_aload 0 31)) (bn 32 (bl 31 (x_dup 32)) (bl 32 (y_getf 6 14 35)))) (bn 36 (bl 35 (x_const 2147483649 36)) (bn 37 (bl 36 (y_bin yadd 37)) (bl 37 (y_putf 6 14 0 40))))))
set_option maxRecDepth 100000 in
set_option maxHeartbeats 4000000 in
theorem T_7_ok (G : State → Nat → Nat → Prop) : xTree PX G prog_8_method_4_code "CapitalCase$Script" false T_7 := (xT_n (xT_n (xT_n (xT_n (xT_l (yS (y_aload_eq _ _) (s_aload_n d7_0))) (xT_l (yS (y_getf_eq _ _ _) (s_getf (T := TX6) (N := 15) d7_1 rfl inX6 (by decide) wd_218)))) (xT_n (xT_l (s_sipush d7_4 (by decide +kernel))) (xT_n (xT_l (yS (y_icmp_eq yc3_eq _ _) (s_icmpge d7_7 (by decide +kernel)))) (xT_l (yS (y_aload_eq _ _) (s_aload_n d7_10)))))) (xT_n (xT_n (xT_l (yS (y_getf_eq _ _ _) (s_getf (T := TX6) (N := 15) d7_11 rfl inX6 (by decide) wd_214))) (xT_n (xT_l (yS (y_aload_eq _ _) (s_aload_n d7_14))) (xT_l (yS (y_getf_eq _ _ _) (s_getf (T := TX6) (N := 15) d7_15 rfl inX6 (by decide) wd_218))))) (xT_n (xT_l (yS (y_iload_eq _ _) (s_iload_n d7_18))) (xT_n (xT_l (yS (y_iast_eq _) (s_iast d7_19))) (xT_l (yS (y_aload_eq _ _) (s_aload_n d7_20))))))) (xT_n (xT_n (xT_n (xT_l (yS (y_getf_eq _ _ _) (s_getf (T := TX6) (N := 15) d7_21 rfl inX6 (by decide) wd_216))) (xT_l (yS (y_aload_eq _ _) (s_aload_n d7_24)))) (xT_n (xT_l (yS (y_getf_eq _ _ _) (s_getf (T := TX6) (N := 15) d7_25 rfl inX6 (by decide) wd_218))) (xT_n (xT_l (yS (y_iload_eq _ _) (s_iload_n d7_28))) (xT_l (yS (y_iast_eq _) (s_iast d7_29)))))) (xT_n (xT_n (xT_l (yS (y_aload_eq _ _) (s_aload_n d7_30))) (xT_n (xT_l (s_dup d7_31)) (xT_l (yS (y_getf_eq _ _ _) (s_getf (T := TX6) (N := 15) d7_32 rfl inX6 (by decide) wd_218))))) (xT_n (xT_l (s_iconst d7_35 (by decide +kernel))) (xT_n (xT_l (yS (y_bin_eq _ _) (s_iadd d7_36))) (xT_l (yS (y_putf_eq _ _ _ _) (s_putf (T := TX6) (N := 15) (ty := tyX6) d7_37 rfl inX6 tyX6_ok nmX6 (by decide) wd_218 (Or.inl ⟨rfl, rfl⟩) rfl))))))))
set_option maxRecDepth 100000 in
set_option maxHeartbeats 4000000 in
theorem M_7 : xMeth PX 7 (T_7, 3, [(40, 3)]) := ⟨⟨"CapitalCase$Script", "add", "(II)V"⟩, prog_8_method_4_code, none, rfl, by decide, fun G => T_7_ok G, xrt_ok (xR_c (Or.inr (Or.inr (Or.inl ⟨rfl, d7_40, rfl⟩))) (xR_n))⟩
theorem d8_0 : decode prog_8_method_3_code 0 = .ok (.aload_n 0, 1) := by decide +kernel
theorem d8_1 : decode prog_8_method_3_code 1 = .ok (.getfield 32, 3) := by decide +kernel
theorem d8_4 : decode prog_8_method_3_code 4 = .ok (.iload_n 1, 1) := by decide +kernel
theorem d8_5 : decode prog_8_method_3_code 5 = .ok (.aload_n 0, 1) := by decide +kernel
theorem d8_6 : decode prog_8_method_3_code 6 = .ok (.getfield 66, 3) := by decide +kernel
theorem d8_9 : decode prog_8_method_3_code 9 = .ok (.iastore, 1) := by decide +kernel
theorem d8_10 : decode prog_8_method_3_code 10 = .ok (.aload_n 0, 1) := by decide +kernel
theorem d8_11 : decode prog_8_method_3_code 11 = .ok (.iload_n 2, 1) := by decide +kernel
theorem d8_12 : decode prog_8_method_3_code 12 = .ok (.iload_n 3, 1) := by decide +kernel
theorem d8_13 : decode prog_8_method_3_code 13 = .ok (.invokevirtual 75, 3) := by decide +kernel
theorem d8_16 : decode prog_8_method_3_code 16 = .ok (.aload_n 0, 1) := by decide +kernel
theorem d8_17 : decode prog_8_method_3_code 17 = .ok (.bipush 7, 2) := by decide +kernel
theorem d8_19 : decode prog_8_method_3_code 19 = .ok (.iconst 0, 1) := by decide +kernel
theorem d8_20 : decode prog_8_method_3_code 20 = .ok (.invokevirtual 75, 3) := by decide +kernel
theorem d8_23 : decode prog_8_method_3_code 23 = .ok (.return_, 1) := by decide +kernel
noncomputable def T_8 : Nat → Option xF := bn 11 (bn 5 (bn 1 (bl 0 (y_aload 0 1)) (bn 4 (bl 1 (y_getf 6 11 4)) (bl 4 (y_iload 1 5)))) (bn 9 (bn 6 (bl 5 (y_aload 0 6)) (bl 6 (y_getf 6 14 9))) (bn 10 (bl 9 (y_iast 10)) (bl 10 (y_aload 0 11))))) (bn 16 (bn 12 (bl 11 (y_iload 2 12)) (bn 13 (bl 12 (y_iload 3 13)) (bl 13 (y_invV 6 7 3 16)))) (bn 19 (bn 17 (bl 16 (y_aload 0 17)) (bl 17 (x_const 2147483655 19))) (bn 20 (bl 19 (x_const 2147483648 20)) (bl 20 (y_invV 6 7 3 23)))))
set_option maxRecDepth 100000 in
set_option maxHeartbeats 4000000 in
theorem T_8_ok (G : State → Nat → Nat → Prop) : xTree PX G prog_8_method_3_code "CapitalCase$Script" false T_8 := (xT_n (xT_n (xT_n (xT_l (yS (y_aload_eq _ _) (s_aload_n d8_0))) (xT_n (xT_l (yS (y_getf_eq _ _ _) (s_getf (T := TX6) (N := 15) d8_1 rfl inX6 (by decide) wd_211))) (xT_l (yS (y_iload_eq _ _) (s_iload_n d8_4))))) (xT_n (xT_n (xT_l (yS (y_aload_eq _ _) (s_aload_n d8_5))) (xT_l (yS (y_getf_eq _ _ _) (s_getf (T := TX6) (N := 15) d8_6 rfl inX6 (by decide) wd_218)))) (xT_n (xT_l (yS (y_iast_eq _) (s_iast d8_9))) (xT_l (yS (y_aload_eq _ _) (s_aload_n d8_10)))))) (xT_n (xT_n (xT_l (yS (y_iload_eq _ _) (s_iload_n d8_11))) (xT_n (xT_l (yS (y_iload_eq _ _) (s_iload_n d8_12))) (xT_l (yS (y_invV_eq _ _ _ _) (s_invV (T := TX6) d8_13 cal_7 rfl wd_158 wd_159 wd_160))))) (xT_n (xT_n (xT_l (yS (y_aload_eq _ _) (s_aload_n d8_16))) (xT_l (s_bipush d8_17 (by decide +kernel)))) (xT_n (xT_l (s_iconst d8_19 (by decide +kernel))) (xT_l (yS (y_invV_eq _ _ _ _) (s_invV (T := TX6) d8_20 cal_7 rfl wd_158 wd_159 wd_160)))))))
set_option maxRecDepth 100000 in
set_option maxHeartbeats 4000000 in
theorem M_8 : xMeth PX 8 (T_8, 4, [(23, 3)]) := ⟨⟨"CapitalCase$Script", "layDown", "(III)V"⟩, prog_8_method_3_code, none, rfl, by decide, fun G => T_8_ok G, xrt_ok (xR_c (Or.inr (Or.inr (Or.inl ⟨rfl, d8_23, rfl⟩))) (xR_n))⟩
theorem d9_0 : decode prog_8_method_2_code 0 = .ok (.aload_n 0, 1) := by decide +kernel
theorem d9_1 : decode prog_8_method_2_code 1 = .ok (.iconst 0, 1) := by decide +kernel
theorem d9_2 : decode prog_8_method_2_code 2 = .ok (.putfield 44, 3) := by decide +kernel
theorem d9_5 : decode prog_8_method_2_code 5 = .ok (.aload_n 0, 1) := by decide +kernel
theorem d9_6 : decode prog_8_method_2_code 6 = .ok (.iconst 0, 1) := by decide +kernel
theorem d9_7 : decode prog_8_method_2_code 7 = .ok (.putfield 48, 3) := by decide +kernel
theorem d9_10 : decode prog_8_method_2_code 10 = .ok (.aload_n 0, 1) := by decide +kernel
theorem d9_11 : decode prog_8_method_2_code 11 = .ok (.bipush 20, 2) := by decide +kernel
theorem d9_13 : decode prog_8_method_2_code 13 = .ok (.putfield 51, 3) := by decide +kernel
theorem d9_16 : decode prog_8_method_2_code 16 = .ok (.aload_n 0, 1) := by decide +kernel
theorem d9_17 : decode prog_8_method_2_code 17 = .ok (.iconst 0, 1) := by decide +kernel
theorem d9_18 : decode prog_8_method_2_code 18 = .ok (.putfield 54, 3) := by decide +kernel
theorem d9_21 : decode prog_8_method_2_code 21 = .ok (.aload_n 0, 1) := by decide +kernel
theorem d9_22 : decode prog_8_method_2_code 22 = .ok (.iconst 0, 1) := by decide +kernel
theorem d9_23 : decode prog_8_method_2_code 23 = .ok (.putfield 57, 3) := by decide +kernel
theorem d9_26 : decode prog_8_method_2_code 26 = .ok (.aload_n 0, 1) := by decide +kernel
theorem d9_27 : decode prog_8_method_2_code 27 = .ok (.getfield 13, 3) := by decide +kernel
theorem d9_30 : decode prog_8_method_2_code 30 = .ok (.iconst 0, 1) := by decide +kernel
theorem d9_31 : decode prog_8_method_2_code 31 = .ok (.invokestatic 60, 3) := by decide +kernel
theorem d9_34 : decode prog_8_method_2_code 34 = .ok (.aload_n 0, 1) := by decide +kernel
theorem d9_35 : decode prog_8_method_2_code 35 = .ok (.getfield 29, 3) := by decide +kernel
theorem d9_38 : decode prog_8_method_2_code 38 = .ok (.iconst 0, 1) := by decide +kernel
theorem d9_39 : decode prog_8_method_2_code 39 = .ok (.invokestatic 60, 3) := by decide +kernel
theorem d9_42 : decode prog_8_method_2_code 42 = .ok (.aload_n 0, 1) := by decide +kernel
theorem d9_43 : decode prog_8_method_2_code 43 = .ok (.iconst 0, 1) := by decide +kernel
theorem d9_44 : decode prog_8_method_2_code 44 = .ok (.putfield 66, 3) := by decide +kernel
theorem d9_47 : decode prog_8_method_2_code 47 = .ok (.aload_n 0, 1) := by decide +kernel
theorem d9_48 : decode prog_8_method_2_code 48 = .ok (.iconst 0, 1) := by decide +kernel
theorem d9_49 : decode prog_8_method_2_code 49 = .ok (.iconst 0, 1) := by decide +kernel
theorem d9_50 : decode prog_8_method_2_code 50 = .ok (.iconst 1, 1) := by decide +kernel
theorem d9_51 : decode prog_8_method_2_code 51 = .ok (.invokevirtual 69, 3) := by decide +kernel
theorem d9_54 : decode prog_8_method_2_code 54 = .ok (.aload_n 0, 1) := by decide +kernel
theorem d9_55 : decode prog_8_method_2_code 55 = .ok (.iconst 1, 1) := by decide +kernel
theorem d9_56 : decode prog_8_method_2_code 56 = .ok (.iconst 0, 1) := by decide +kernel
theorem d9_57 : decode prog_8_method_2_code 57 = .ok (.iconst 0, 1) := by decide +kernel
theorem d9_58 : decode prog_8_method_2_code 58 = .ok (.invokevirtual 69, 3) := by decide +kernel
theorem d9_61 : decode prog_8_method_2_code 61 = .ok (.aload_n 0, 1) := by decide +kernel
theorem d9_62 : decode prog_8_method_2_code 62 = .ok (.iconst 2, 1) := by decide +kernel
theorem d9_63 : decode prog_8_method_2_code 63 = .ok (.iconst 0, 1) := by decide +kernel
theorem d9_64 : decode prog_8_method_2_code 64 = .ok (.iconst 1, 1) := by decide +kernel
theorem d9_65 : decode prog_8_method_2_code 65 = .ok (.invokevirtual 69, 3) := by decide +kernel
theorem d9_68 : decode prog_8_method_2_code 68 = .ok (.aload_n 0, 1) := by decide +kernel
theorem d9_69 : decode prog_8_method_2_code 69 = .ok (.iconst 3, 1) := by decide +kernel
theorem d9_70 : decode prog_8_method_2_code 70 = .ok (.iconst 1, 1) := by decide +kernel
theorem d9_71 : decode prog_8_method_2_code 71 = .ok (.iconst 0, 1) := by decide +kernel
theorem d9_72 : decode prog_8_method_2_code 72 = .ok (.invokevirtual 69, 3) := by decide +kernel
theorem d9_75 : decode prog_8_method_2_code 75 = .ok (.return_, 1) := by decide +kernel
noncomputable def T_9 : Nat → Option xF := bn 42 (bn 18 (bn 7 (bn 2 (bn 1 (bl 0 (y_aload 0 1)) (bl 1 (x_const 2147483648 2))) (bn 5 (bl 2 (y_putf 6 0 0 5)) (bn 6 (bl 5 (y_aload 0 6)) (bl 6 (x_const 2147483648 7))))) (bn 13 (bn 10 (bl 7 (y_putf 6 1 0 10)) (bn 11 (bl 10 (y_aload 0 11)) (bl 11 (x_const 2147483668 13)))) (bn 16 (bl 13 (y_putf 6 4 0 16)) (bn 17 (bl 16 (y_aload 0 17)) (bl 17 (x_const 2147483648 18)))))) (bn 30 (bn 23 (bn 21 (bl 18 (y_putf 6 2 0 21)) (bn 22 (bl 21 (y_aload 0 22)) (bl 22 (x_const 2147483648 23)))) (bn 26 (bl 23 (y_putf 6 3 0 26)) (bn 27 (bl 26 (y_aload 0 27)) (bl 27 (y_getf 6 5 30))))) (bn 35 (bn 31 (bl 30 (x_const 2147483648 31)) (bn 34 (bl 31 (y_inv 21 2 34)) (bl 34 (y_aload 0 35)))) (bn 38 (bl 35 (y_getf 6 10 38)) (bn 39 (bl 38 (x_const 2147483648 39)) (bl 39 (y_inv 21 2 42))))))) (bn 57 (bn 49 (bn 44 (bn 43 (bl 42 (y_aload 0 43)) (bl 43 (x_const 2147483648 44))) (bn 47 (bl 44 (y_putf 6 14 0 47)) (bn 48 (bl 47 (y_aload 0 48)) (bl 48 (x_const 2147483648 49))))) (bn 54 (bn 50 (bl 49 (x_const 2147483648 50)) (bn 51 (bl 50 (x_const 2147483649 51)) (bl 51 (y_invV 6 8 4 54)))) (bn 55 (bl 54 (y_aload 0 55)) (bn 56 (bl 55 (x_const 2147483649 56)) (bl 56 (x_const 2147483648 57)))))) (bn 65 (bn 62 (bn 58 (bl 57 (x_const 2147483648 58)) (bn 61 (bl 58 (y_invV 6 8 4 61)) (bl 61 (y_aload 0 62)))) (bn 63 (bl 62 (x_const 2147483650 63)) (bn 64 (bl 63 (x_const 2147483648 64)) (bl 64 (x_const 2147483649 65))))) (bn 70 (bn 68 (bl 65 (y_invV 6 8 4 68)) (bn 69 (bl 68 (y_aload 0 69)) (bl 69 (x_const 2147483651 70)))) (bn 71 (bl 70 (x_const 2147483649 71)) (bn 72 (bl 71 (x_const 2147483648 72)) (bl 72 (y_invV 6 8 4 75)))))))
set_option maxRecDepth 100000 in
set_option maxHeartbeats 4000000 in
theorem T_9_ok (G : State → Nat → Nat → Prop) : xTree PX G prog_8_method_2_code "CapitalCase$Script" false T_9 := (xT_n (xT_n (xT_n (xT_n (xT_n (xT_l (yS (y_aload_eq _ _) (s_aload_n d9_0))) (xT_l (s_iconst d9_1 (by decide +kernel)))) (xT_n (xT_l (yS (y_putf_eq _ _ _ _) (s_putf (T := TX6) (N := 15) (ty := tyX6) d9_2 rfl inX6 tyX6_ok nmX6 (by decide) wd_162 (Or.inl ⟨rfl, rfl⟩) rfl))) (xT_n (xT_l (yS (y_aload_eq _ _) (s_aload_n d9_5))) (xT_l (s_iconst d9_6 (by decide +kernel)))))) (xT_n (xT_n (xT_l (yS (y_putf_eq _ _ _ _) (s_putf (T := TX6) (N := 15) (ty := tyX6) d9_7 rfl inX6 tyX6_ok nmX6 (by decide) wd_169 (Or.inl ⟨rfl, rfl⟩) rfl))) (xT_n (xT_l (yS (y_aload_eq _ _) (s_aload_n d9_10))) (xT_l (s_bipush d9_11 (by decide +kernel))))) (xT_n (xT_l (yS (y_putf_eq _ _ _ _) (s_putf (T := TX6) (N := 15) (ty := tyX6) d9_13 rfl inX6 tyX6_ok nmX6 (by decide) wd_175 (Or.inl ⟨rfl, rfl⟩) rfl))) (xT_n (xT_l (yS (y_aload_eq _ _) (s_aload_n d9_16))) (xT_l (s_iconst d9_17 (by decide +kernel))))))) (xT_n (xT_n (xT_n (xT_l (yS (y_putf_eq _ _ _ _) (s_putf (T := TX6) (N := 15) (ty := tyX6) d9_18 rfl inX6 tyX6_ok nmX6 (by decide) wd_178 (Or.inl ⟨rfl, rfl⟩) rfl))) (xT_n (xT_l (yS (y_aload_eq _ _) (s_aload_n d9_21))) (xT_l (s_iconst d9_22 (by decide +kernel))))) (xT_n (xT_l (yS (y_putf_eq _ _ _ _) (s_putf (T := TX6) (N := 15) (ty := tyX6) d9_23 rfl inX6 tyX6_ok nmX6 (by decide) wd_181 (Or.inl ⟨rfl, rfl⟩) rfl))) (xT_n (xT_l (yS (y_aload_eq _ _) (s_aload_n d9_26))) (xT_l (yS (y_getf_eq _ _ _) (s_getf (T := TX6) (N := 15) d9_27 rfl inX6 (by decide) wd_184)))))) (xT_n (xT_n (xT_l (s_iconst d9_30 (by decide +kernel))) (xT_n (xT_l (yS (y_inv_eq _ _ _) (s_invS d9_31 cal_21 wd_151 wd_152))) (xT_l (yS (y_aload_eq _ _) (s_aload_n d9_34))))) (xT_n (xT_l (yS (y_getf_eq _ _ _) (s_getf (T := TX6) (N := 15) d9_35 rfl inX6 (by decide) wd_207))) (xT_n (xT_l (s_iconst d9_38 (by decide +kernel))) (xT_l (yS (y_inv_eq _ _ _) (s_invS d9_39 cal_21 wd_151 wd_152)))))))) (xT_n (xT_n (xT_n (xT_n (xT_l (yS (y_aload_eq _ _) (s_aload_n d9_42))) (xT_l (s_iconst d9_43 (by decide +kernel)))) (xT_n (xT_l (yS (y_putf_eq _ _ _ _) (s_putf (T := TX6) (N := 15) (ty := tyX6) d9_44 rfl inX6 tyX6_ok nmX6 (by decide) wd_218 (Or.inl ⟨rfl, rfl⟩) rfl))) (xT_n (xT_l (yS (y_aload_eq _ _) (s_aload_n d9_47))) (xT_l (s_iconst d9_48 (by decide +kernel)))))) (xT_n (xT_n (xT_l (s_iconst d9_49 (by decide +kernel))) (xT_n (xT_l (s_iconst d9_50 (by decide +kernel))) (xT_l (yS (y_invV_eq _ _ _ _) (s_invV (T := TX6) d9_51 cal_8 rfl wd_154 wd_156 wd_0))))) (xT_n (xT_l (yS (y_aload_eq _ _) (s_aload_n d9_54))) (xT_n (xT_l (s_iconst d9_55 (by decide +kernel))) (xT_l (s_iconst d9_56 (by decide +kernel))))))) (xT_n (xT_n (xT_n (xT_l (s_iconst d9_57 (by decide +kernel))) (xT_n (xT_l (yS (y_invV_eq _ _ _ _) (s_invV (T := TX6) d9_58 cal_8 rfl wd_154 wd_156 wd_0))) (xT_l (yS (y_aload_eq _ _) (s_aload_n d9_61))))) (xT_n (xT_l (s_iconst d9_62 (by decide +kernel))) (xT_n (xT_l (s_iconst d9_63 (by decide +kernel))) (xT_l (s_iconst d9_64 (by decide +kernel)))))) (xT_n (xT_n (xT_l (yS (y_invV_eq _ _ _ _) (s_invV (T := TX6) d9_65 cal_8 rfl wd_154 wd_156 wd_0))) (xT_n (xT_l (yS (y_aload_eq _ _) (s_aload_n d9_68))) (xT_l (s_iconst d9_69 (by decide +kernel))))) (xT_n (xT_l (s_iconst d9_70 (by decide +kernel))) (xT_n (xT_l (s_iconst d9_71 (by decide +kernel))) (xT_l (yS (y_invV_eq _ _ _ _) (s_invV (T := TX6) d9_72 cal_8 rfl wd_154 wd_156 wd_0)))))))))
set_option maxRecDepth 100000 in
set_option maxHeartbeats 4000000 in
theorem M_9 : xMeth PX 9 (T_9, 1, [(75, 3)]) := ⟨⟨"CapitalCase$Script", "wipe", "()V"⟩, prog_8_method_2_code, none, rfl, by decide, fun G => T_9_ok G, xrt_ok (xR_c (Or.inr (Or.inr (Or.inl ⟨rfl, d9_75, rfl⟩))) (xR_n))⟩
theorem d10_0 : decode prog_9_method_1_code 0 = .ok (.aload_n 0, 1) := by decide +kernel
theorem d10_1 : decode prog_9_method_1_code 1 = .ok (.invokespecial 3, 3) := by decide +kernel
theorem d10_4 : decode prog_9_method_1_code 4 = .ok (.aload_n 0, 1) := by decide +kernel
theorem d10_5 : decode prog_9_method_1_code 5 = .ok (.sipush 401, 3) := by decide +kernel
theorem d10_8 : decode prog_9_method_1_code 8 = .ok (.newarray .int, 2) := by decide +kernel
theorem d10_10 : decode prog_9_method_1_code 10 = .ok (.putfield 9, 3) := by decide +kernel
theorem d10_13 : decode prog_9_method_1_code 13 = .ok (.aload_n 0, 1) := by decide +kernel
theorem d10_14 : decode prog_9_method_1_code 14 = .ok (.sipush 401, 3) := by decide +kernel
theorem d10_17 : decode prog_9_method_1_code 17 = .ok (.newarray .int, 2) := by decide +kernel
theorem d10_19 : decode prog_9_method_1_code 19 = .ok (.putfield 13, 3) := by decide +kernel
theorem d10_22 : decode prog_9_method_1_code 22 = .ok (.aload_n 0, 1) := by decide +kernel
theorem d10_23 : decode prog_9_method_1_code 23 = .ok (.sipush 401, 3) := by decide +kernel
theorem d10_26 : decode prog_9_method_1_code 26 = .ok (.newarray .int, 2) := by decide +kernel
theorem d10_28 : decode prog_9_method_1_code 28 = .ok (.putfield 16, 3) := by decide +kernel
theorem d10_31 : decode prog_9_method_1_code 31 = .ok (.return_, 1) := by decide +kernel
noncomputable def T_10 : Nat → Option xF := bn 14 (bn 5 (bn 1 (bl 0 (y_aload 0 1)) (bn 4 (bl 1 (x_obj 4)) (bl 4 (y_aload 0 5)))) (bn 10 (bn 8 (bl 5 (x_const 2147484049 8)) (bl 8 (x_newa 0 10))) (bn 13 (bl 10 (y_putf 7 0 2 13)) (bl 13 (y_aload 0 14))))) (bn 22 (bn 17 (bl 14 (x_const 2147484049 17)) (bn 19 (bl 17 (x_newa 0 19)) (bl 19 (y_putf 7 1 2 22)))) (bn 26 (bn 23 (bl 22 (y_aload 0 23)) (bl 23 (x_const 2147484049 26))) (bn 28 (bl 26 (x_newa 0 28)) (bl 28 (y_putf 7 2 2 31)))))
set_option maxRecDepth 100000 in
set_option maxHeartbeats 4000000 in
theorem T_10_ok (G : State → Nat → Nat → Prop) : xTree PX G prog_9_method_1_code "CapitalCase$Tokens" true T_10 := (xT_n (xT_n (xT_n (xT_l (yS (y_aload_eq _ _) (s_aload_n d10_0))) (xT_n (xT_l (s_obj d10_1 wd_267 wd_139 wd_obj)) (xT_l (yS (y_aload_eq _ _) (s_aload_n d10_4))))) (xT_n (xT_n (xT_l (s_sipush d10_5 (by decide +kernel))) (xT_l (s_newa (ty := .int) d10_8 rfl rfl wd_253 (by decide) (fun _ _ => rfl) (Or.inl ⟨by decide, rfl⟩)))) (xT_n (xT_l (yS (y_putf_eq _ _ _ _) (s_putF (T := TX7) (N := 3) (ty := tyX7) d10_10 rfl inX7 tyX7_ok nmX7 (by decide) wd_268 (Or.inr (Or.inr ⟨rfl, Or.inr ⟨_, rfl⟩⟩)) rfl rfl rfl))) (xT_l (yS (y_aload_eq _ _) (s_aload_n d10_13)))))) (xT_n (xT_n (xT_l (s_sipush d10_14 (by decide +kernel))) (xT_n (xT_l (s_newa (ty := .int) d10_17 rfl rfl wd_253 (by decide) (fun _ _ => rfl) (Or.inl ⟨by decide, rfl⟩))) (xT_l (yS (y_putf_eq _ _ _ _) (s_putF (T := TX7) (N := 3) (ty := tyX7) d10_19 rfl inX7 tyX7_ok nmX7 (by decide) wd_270 (Or.inr (Or.inr ⟨rfl, Or.inr ⟨_, rfl⟩⟩)) rfl rfl rfl))))) (xT_n (xT_n (xT_l (yS (y_aload_eq _ _) (s_aload_n d10_22))) (xT_l (s_sipush d10_23 (by decide +kernel)))) (xT_n (xT_l (s_newa (ty := .int) d10_26 rfl rfl wd_253 (by decide) (fun _ _ => rfl) (Or.inl ⟨by decide, rfl⟩))) (xT_l (yS (y_putf_eq _ _ _ _) (s_putF (T := TX7) (N := 3) (ty := tyX7) d10_28 rfl inX7 tyX7_ok nmX7 (by decide) wd_272 (Or.inr (Or.inr ⟨rfl, Or.inr ⟨_, rfl⟩⟩)) rfl rfl rfl)))))))
set_option maxRecDepth 100000 in
set_option maxHeartbeats 4000000 in
theorem M_10 : xMeth PX 10 (T_10, 1, [(31, 3)]) := ⟨⟨"CapitalCase$Tokens", "<init>", "()V"⟩, prog_9_method_1_code, none, rfl, by decide, fun G => T_10_ok G, xrt_ok (xR_c (Or.inr (Or.inr (Or.inl ⟨rfl, d10_31, rfl⟩))) (xR_n))⟩
theorem d11_0 : decode prog_10_method_1_code 0 = .ok (.aload_n 0, 1) := by decide +kernel
theorem d11_1 : decode prog_10_method_1_code 1 = .ok (.invokespecial 3, 3) := by decide +kernel
theorem d11_4 : decode prog_10_method_1_code 4 = .ok (.aload_n 0, 1) := by decide +kernel
theorem d11_5 : decode prog_10_method_1_code 5 = .ok (.bipush 40, 2) := by decide +kernel
theorem d11_7 : decode prog_10_method_1_code 7 = .ok (.newarray .int, 2) := by decide +kernel
theorem d11_9 : decode prog_10_method_1_code 9 = .ok (.putfield 9, 3) := by decide +kernel
theorem d11_12 : decode prog_10_method_1_code 12 = .ok (.aload_n 0, 1) := by decide +kernel
theorem d11_13 : decode prog_10_method_1_code 13 = .ok (.bipush 40, 2) := by decide +kernel
theorem d11_15 : decode prog_10_method_1_code 15 = .ok (.newarray .int, 2) := by decide +kernel
theorem d11_17 : decode prog_10_method_1_code 17 = .ok (.putfield 15, 3) := by decide +kernel
theorem d11_20 : decode prog_10_method_1_code 20 = .ok (.aload_n 0, 1) := by decide +kernel
theorem d11_21 : decode prog_10_method_1_code 21 = .ok (.bipush 40, 2) := by decide +kernel
theorem d11_23 : decode prog_10_method_1_code 23 = .ok (.newarray .int, 2) := by decide +kernel
theorem d11_25 : decode prog_10_method_1_code 25 = .ok (.putfield 18, 3) := by decide +kernel
theorem d11_28 : decode prog_10_method_1_code 28 = .ok (.aload_n 0, 1) := by decide +kernel
theorem d11_29 : decode prog_10_method_1_code 29 = .ok (.sipush 200, 3) := by decide +kernel
theorem d11_32 : decode prog_10_method_1_code 32 = .ok (.newarray .int, 2) := by decide +kernel
theorem d11_34 : decode prog_10_method_1_code 34 = .ok (.putfield 21, 3) := by decide +kernel
theorem d11_37 : decode prog_10_method_1_code 37 = .ok (.aload_n 0, 1) := by decide +kernel
theorem d11_38 : decode prog_10_method_1_code 38 = .ok (.bipush 56, 2) := by decide +kernel
theorem d11_40 : decode prog_10_method_1_code 40 = .ok (.newarray .int, 2) := by decide +kernel
theorem d11_42 : decode prog_10_method_1_code 42 = .ok (.putfield 24, 3) := by decide +kernel
theorem d11_45 : decode prog_10_method_1_code 45 = .ok (.return_, 1) := by decide +kernel
noncomputable def T_11 : Nat → Option xF := bn 21 (bn 9 (bn 4 (bn 1 (bl 0 (y_aload 0 1)) (bl 1 (x_obj 4))) (bn 5 (bl 4 (y_aload 0 5)) (bn 7 (bl 5 (x_const 2147483688 7)) (bl 7 (x_newa 0 9))))) (bn 15 (bn 12 (bl 9 (y_putf 8 0 2 12)) (bn 13 (bl 12 (y_aload 0 13)) (bl 13 (x_const 2147483688 15)))) (bn 17 (bl 15 (x_newa 0 17)) (bn 20 (bl 17 (y_putf 8 1 2 20)) (bl 20 (y_aload 0 21)))))) (bn 32 (bn 25 (bn 23 (bl 21 (x_const 2147483688 23)) (bl 23 (x_newa 0 25))) (bn 28 (bl 25 (y_putf 8 2 2 28)) (bn 29 (bl 28 (y_aload 0 29)) (bl 29 (x_const 2147483848 32))))) (bn 38 (bn 34 (bl 32 (x_newa 0 34)) (bn 37 (bl 34 (y_putf 8 3 2 37)) (bl 37 (y_aload 0 38)))) (bn 40 (bl 38 (x_const 2147483704 40)) (bn 42 (bl 40 (x_newa 0 42)) (bl 42 (y_putf 8 4 2 45))))))
set_option maxRecDepth 100000 in
set_option maxHeartbeats 4000000 in
theorem T_11_ok (G : State → Nat → Nat → Prop) : xTree PX G prog_10_method_1_code "CapitalCase$Town" true T_11 := (xT_n (xT_n (xT_n (xT_n (xT_l (yS (y_aload_eq _ _) (s_aload_n d11_0))) (xT_l (s_obj d11_1 wd_319 wd_139 wd_obj))) (xT_n (xT_l (yS (y_aload_eq _ _) (s_aload_n d11_4))) (xT_n (xT_l (s_bipush d11_5 (by decide +kernel))) (xT_l (s_newa (ty := .int) d11_7 rfl rfl wd_253 (by decide) (fun _ _ => rfl) (Or.inl ⟨by decide, rfl⟩)))))) (xT_n (xT_n (xT_l (yS (y_putf_eq _ _ _ _) (s_putF (T := TX8) (N := 10) (ty := tyX8) d11_9 rfl inX8 tyX8_ok nmX8 (by decide) wd_320 (Or.inr (Or.inr ⟨rfl, Or.inr ⟨_, rfl⟩⟩)) rfl rfl rfl))) (xT_n (xT_l (yS (y_aload_eq _ _) (s_aload_n d11_12))) (xT_l (s_bipush d11_13 (by decide +kernel))))) (xT_n (xT_l (s_newa (ty := .int) d11_15 rfl rfl wd_253 (by decide) (fun _ _ => rfl) (Or.inl ⟨by decide, rfl⟩))) (xT_n (xT_l (yS (y_putf_eq _ _ _ _) (s_putF (T := TX8) (N := 10) (ty := tyX8) d11_17 rfl inX8 tyX8_ok nmX8 (by decide) wd_325 (Or.inr (Or.inr ⟨rfl, Or.inr ⟨_, rfl⟩⟩)) rfl rfl rfl))) (xT_l (yS (y_aload_eq _ _) (s_aload_n d11_20))))))) (xT_n (xT_n (xT_n (xT_l (s_bipush d11_21 (by decide +kernel))) (xT_l (s_newa (ty := .int) d11_23 rfl rfl wd_253 (by decide) (fun _ _ => rfl) (Or.inl ⟨by decide, rfl⟩)))) (xT_n (xT_l (yS (y_putf_eq _ _ _ _) (s_putF (T := TX8) (N := 10) (ty := tyX8) d11_25 rfl inX8 tyX8_ok nmX8 (by decide) wd_329 (Or.inr (Or.inr ⟨rfl, Or.inr ⟨_, rfl⟩⟩)) rfl rfl rfl))) (xT_n (xT_l (yS (y_aload_eq _ _) (s_aload_n d11_28))) (xT_l (s_sipush d11_29 (by decide +kernel)))))) (xT_n (xT_n (xT_l (s_newa (ty := .int) d11_32 rfl rfl wd_253 (by decide) (fun _ _ => rfl) (Or.inl ⟨by decide, rfl⟩))) (xT_n (xT_l (yS (y_putf_eq _ _ _ _) (s_putF (T := TX8) (N := 10) (ty := tyX8) d11_34 rfl inX8 tyX8_ok nmX8 (by decide) wd_334 (Or.inr (Or.inr ⟨rfl, Or.inr ⟨_, rfl⟩⟩)) rfl rfl rfl))) (xT_l (yS (y_aload_eq _ _) (s_aload_n d11_37))))) (xT_n (xT_l (s_bipush d11_38 (by decide +kernel))) (xT_n (xT_l (s_newa (ty := .int) d11_40 rfl rfl wd_253 (by decide) (fun _ _ => rfl) (Or.inl ⟨by decide, rfl⟩))) (xT_l (yS (y_putf_eq _ _ _ _) (s_putF (T := TX8) (N := 10) (ty := tyX8) d11_42 rfl inX8 tyX8_ok nmX8 (by decide) wd_336 (Or.inr (Or.inr ⟨rfl, Or.inr ⟨_, rfl⟩⟩)) rfl rfl rfl))))))))
set_option maxRecDepth 100000 in
set_option maxHeartbeats 4000000 in
theorem M_11 : xMeth PX 11 (T_11, 1, [(45, 3)]) := ⟨⟨"CapitalCase$Town", "<init>", "()V"⟩, prog_10_method_1_code, none, rfl, by decide, fun G => T_11_ok G, xrt_ok (xR_c (Or.inr (Or.inr (Or.inl ⟨rfl, d11_45, rfl⟩))) (xR_n))⟩
theorem d12_0 : decode prog_11_method_1_code 0 = .ok (.aload_n 0, 1) := by decide +kernel
theorem d12_1 : decode prog_11_method_1_code 1 = .ok (.invokespecial 3, 3) := by decide +kernel
theorem d12_4 : decode prog_11_method_1_code 4 = .ok (.aload_n 0, 1) := by decide +kernel
theorem d12_5 : decode prog_11_method_1_code 5 = .ok (.aload_n 1, 1) := by decide +kernel
theorem d12_6 : decode prog_11_method_1_code 6 = .ok (.putfield 9, 3) := by decide +kernel
theorem d12_9 : decode prog_11_method_1_code 9 = .ok (.return_, 1) := by decide +kernel
noncomputable def T_12 : Nat → Option xF := bn 4 (bn 1 (bl 0 (y_aload 0 1)) (bl 1 (x_obj 4))) (bn 5 (bl 4 (y_aload 0 5)) (bn 6 (bl 5 (y_aload 1 6)) (bl 6 (y_putf 9 0 2 9))))
set_option maxRecDepth 100000 in
set_option maxHeartbeats 4000000 in
theorem T_12_ok (G : State → Nat → Nat → Prop) : xTree PX G prog_11_method_1_code "CapitalCase$Trade" true T_12 := (xT_n (xT_n (xT_l (yS (y_aload_eq _ _) (s_aload_n d12_0))) (xT_l (s_obj d12_1 wd_540 wd_139 wd_obj))) (xT_n (xT_l (yS (y_aload_eq _ _) (s_aload_n d12_4))) (xT_n (xT_l (yS (y_aload_eq _ _) (s_aload_n d12_5))) (xT_l (yS (y_putf_eq _ _ _ _) (s_putF (T := TX9) (N := 3) (ty := tyX9) d12_6 rfl inX9 tyX9_ok nmX9 (by decide) wd_541 (Or.inr (Or.inr ⟨rfl, Or.inl ⟨_, rfl⟩⟩)) rfl rfl rfl))))))
set_option maxRecDepth 100000 in
set_option maxHeartbeats 4000000 in
theorem M_12 : xMeth PX 12 (T_12, 2, [(9, 3)]) := ⟨⟨"CapitalCase$Trade", "<init>", "(LCapitalCase$Script;)V"⟩, prog_11_method_1_code, none, rfl, by decide, fun G => T_12_ok G, xrt_ok (xR_c (Or.inr (Or.inr (Or.inl ⟨rfl, d12_9, rfl⟩))) (xR_n))⟩
theorem d13_0 : decode prog_12_method_1_code 0 = .ok (.aload_n 0, 1) := by decide +kernel
theorem d13_1 : decode prog_12_method_1_code 1 = .ok (.invokespecial 3, 3) := by decide +kernel
theorem d13_4 : decode prog_12_method_1_code 4 = .ok (.aload_n 0, 1) := by decide +kernel
theorem d13_5 : decode prog_12_method_1_code 5 = .ok (.new 9, 3) := by decide +kernel
theorem d13_8 : decode prog_12_method_1_code 8 = .ok (.dup, 1) := by decide +kernel
theorem d13_9 : decode prog_12_method_1_code 9 = .ok (.invokespecial 11, 3) := by decide +kernel
theorem d13_12 : decode prog_12_method_1_code 12 = .ok (.putfield 12, 3) := by decide +kernel
theorem d13_15 : decode prog_12_method_1_code 15 = .ok (.aload_n 0, 1) := by decide +kernel
theorem d13_16 : decode prog_12_method_1_code 16 = .ok (.bipush 7, 2) := by decide +kernel
theorem d13_18 : decode prog_12_method_1_code 18 = .ok (.newarray .int, 2) := by decide +kernel
theorem d13_20 : decode prog_12_method_1_code 20 = .ok (.putfield 18, 3) := by decide +kernel
theorem d13_23 : decode prog_12_method_1_code 23 = .ok (.aload_n 0, 1) := by decide +kernel
theorem d13_24 : decode prog_12_method_1_code 24 = .ok (.aload_n 1, 1) := by decide +kernel
theorem d13_25 : decode prog_12_method_1_code 25 = .ok (.putfield 22, 3) := by decide +kernel
theorem d13_28 : decode prog_12_method_1_code 28 = .ok (.aload_n 0, 1) := by decide +kernel
theorem d13_29 : decode prog_12_method_1_code 29 = .ok (.aload_n 2, 1) := by decide +kernel
theorem d13_30 : decode prog_12_method_1_code 30 = .ok (.putfield 26, 3) := by decide +kernel
theorem d13_33 : decode prog_12_method_1_code 33 = .ok (.aload_n 0, 1) := by decide +kernel
theorem d13_34 : decode prog_12_method_1_code 34 = .ok (.aload_n 3, 1) := by decide +kernel
theorem d13_35 : decode prog_12_method_1_code 35 = .ok (.putfield 30, 3) := by decide +kernel
theorem d13_38 : decode prog_12_method_1_code 38 = .ok (.aload_n 0, 1) := by decide +kernel
theorem d13_39 : decode prog_12_method_1_code 39 = .ok (.aload 4, 2) := by decide +kernel
theorem d13_41 : decode prog_12_method_1_code 41 = .ok (.putfield 34, 3) := by decide +kernel
theorem d13_44 : decode prog_12_method_1_code 44 = .ok (.aload_n 0, 1) := by decide +kernel
theorem d13_45 : decode prog_12_method_1_code 45 = .ok (.new 38, 3) := by decide +kernel
theorem d13_48 : decode prog_12_method_1_code 48 = .ok (.dup, 1) := by decide +kernel
theorem d13_49 : decode prog_12_method_1_code 49 = .ok (.aload_n 1, 1) := by decide +kernel
theorem d13_50 : decode prog_12_method_1_code 50 = .ok (.aload_n 2, 1) := by decide +kernel
theorem d13_51 : decode prog_12_method_1_code 51 = .ok (.invokespecial 40, 3) := by decide +kernel
theorem d13_54 : decode prog_12_method_1_code 54 = .ok (.putfield 43, 3) := by decide +kernel
theorem d13_57 : decode prog_12_method_1_code 57 = .ok (.return_, 1) := by decide +kernel
noncomputable def T_13 : Nat → Option xF := bn 29 (bn 15 (bn 5 (bn 1 (bl 0 (y_aload 0 1)) (bn 4 (bl 1 (x_obj 4)) (bl 4 (y_aload 0 5)))) (bn 9 (bn 8 (bl 5 (x_new 8 10 [.inr (.inl none), .inr (.inl none), .inr (.inl none), .inr (.inl none), .inr (.inl none), .inl (2147483648, 2147483648), .inl (2147483648, 2147483648), .inl (2147483648, 2147483648), .inl (2147483648, 2147483648), .inl (2147483648, 2147483648)] 8)) (bl 8 (x_dup 9))) (bn 12 (bl 9 (y_invV 8 11 1 12)) (bl 12 (y_putf 10 5 2 15))))) (bn 23 (bn 18 (bn 16 (bl 15 (y_aload 0 16)) (bl 16 (x_const 2147483655 18))) (bn 20 (bl 18 (x_newa 0 20)) (bl 20 (y_putf 10 8 2 23)))) (bn 25 (bn 24 (bl 23 (y_aload 0 24)) (bl 24 (y_aload 1 25))) (bn 28 (bl 25 (y_putf 10 0 2 28)) (bl 28 (y_aload 0 29)))))) (bn 41 (bn 34 (bn 30 (bl 29 (y_aload 2 30)) (bn 33 (bl 30 (y_putf 10 1 2 33)) (bl 33 (y_aload 0 34)))) (bn 38 (bn 35 (bl 34 (y_aload 3 35)) (bl 35 (y_putf 10 2 2 38))) (bn 39 (bl 38 (y_aload 0 39)) (bl 39 (y_aload 4 41))))) (bn 49 (bn 45 (bn 44 (bl 41 (y_putf 10 3 2 44)) (bl 44 (y_aload 0 45))) (bn 48 (bl 45 (x_new 3 12 [.inr (.inl none), .inr (.inl none), .inr (.inl none), .inr (.inl none), .inr (.inl none), .inl (2147483648, 2147483648), .inl (2147483648, 2147483648), .inl (2147483648, 2147483648), .inl (2147483648, 2147483648), .inr (.inl none), .inr (.inl none), .inr (.inl none)] 48)) (bl 48 (x_dup 49)))) (bn 51 (bn 50 (bl 49 (y_aload 1 50)) (bl 50 (y_aload 2 51))) (bn 54 (bl 51 (y_invV 3 3 3 54)) (bl 54 (y_putf 10 4 2 57))))))
set_option maxRecDepth 100000 in
set_option maxHeartbeats 4000000 in
theorem T_13_ok (G : State → Nat → Nat → Prop) : xTree PX G prog_12_method_1_code "CapitalCase$TwoDays" true T_13 := (xT_n (xT_n (xT_n (xT_n (xT_l (yS (y_aload_eq _ _) (s_aload_n d13_0))) (xT_n (xT_l (s_obj d13_1 wd_500 wd_139 wd_obj)) (xT_l (yS (y_aload_eq _ _) (s_aload_n d13_4))))) (xT_n (xT_n (xT_l (s_new (T := TX8) (ty := tyX8) d13_5 rfl inX8 tyX8_ok (by decide) (by decide) wd_501 wd_315 wd_116)) (xT_l (s_dup d13_8))) (xT_n (xT_l (yS (y_invV_eq _ _ _ _) (s_invIN (host := "CapitalCase") d13_9 cal_11 (by decide +kernel) wd_317 rfl))) (xT_l (yS (y_putf_eq _ _ _ _) (s_putF (T := TX10) (N := 9) (ty := tyX10) d13_12 rfl inX10 tyX10_ok nmX10 (by decide) wd_510 (Or.inr (Or.inr ⟨rfl, Or.inl ⟨_, rfl⟩⟩)) rfl rfl rfl)))))) (xT_n (xT_n (xT_n (xT_l (yS (y_aload_eq _ _) (s_aload_n d13_15))) (xT_l (s_bipush d13_16 (by decide +kernel)))) (xT_n (xT_l (s_newa (ty := .int) d13_18 rfl rfl wd_253 (by decide) (fun _ _ => rfl) (Or.inl ⟨by decide, rfl⟩))) (xT_l (yS (y_putf_eq _ _ _ _) (s_putF (T := TX10) (N := 9) (ty := tyX10) d13_20 rfl inX10 tyX10_ok nmX10 (by decide) wd_515 (Or.inr (Or.inr ⟨rfl, Or.inr ⟨_, rfl⟩⟩)) rfl rfl rfl))))) (xT_n (xT_n (xT_l (yS (y_aload_eq _ _) (s_aload_n d13_23))) (xT_l (yS (y_aload_eq _ _) (s_aload_n d13_24)))) (xT_n (xT_l (yS (y_putf_eq _ _ _ _) (s_putF (T := TX10) (N := 9) (ty := tyX10) d13_25 rfl inX10 tyX10_ok nmX10 (by decide) wd_505 (Or.inr (Or.inr ⟨rfl, Or.inl ⟨_, rfl⟩⟩)) rfl rfl rfl))) (xT_l (yS (y_aload_eq _ _) (s_aload_n d13_28))))))) (xT_n (xT_n (xT_n (xT_l (yS (y_aload_eq _ _) (s_aload_n d13_29))) (xT_n (xT_l (yS (y_putf_eq _ _ _ _) (s_putF (T := TX10) (N := 9) (ty := tyX10) d13_30 rfl inX10 tyX10_ok nmX10 (by decide) wd_506 (Or.inr (Or.inr ⟨rfl, Or.inl ⟨_, rfl⟩⟩)) rfl rfl rfl))) (xT_l (yS (y_aload_eq _ _) (s_aload_n d13_33))))) (xT_n (xT_n (xT_l (yS (y_aload_eq _ _) (s_aload_n d13_34))) (xT_l (yS (y_putf_eq _ _ _ _) (s_putF (T := TX10) (N := 9) (ty := tyX10) d13_35 rfl inX10 tyX10_ok nmX10 (by decide) wd_507 (Or.inr (Or.inr ⟨rfl, Or.inl ⟨_, rfl⟩⟩)) rfl rfl rfl)))) (xT_n (xT_l (yS (y_aload_eq _ _) (s_aload_n d13_38))) (xT_l (yS (y_aload_eq _ _) (s_aload d13_39)))))) (xT_n (xT_n (xT_n (xT_l (yS (y_putf_eq _ _ _ _) (s_putF (T := TX10) (N := 9) (ty := tyX10) d13_41 rfl inX10 tyX10_ok nmX10 (by decide) wd_508 (Or.inr (Or.inr ⟨rfl, Or.inl ⟨_, rfl⟩⟩)) rfl rfl rfl))) (xT_l (yS (y_aload_eq _ _) (s_aload_n d13_44)))) (xT_n (xT_l (s_new (T := TX3) (ty := tyX3) d13_45 rfl inX3 tyX3_ok (by decide) (by decide) wd_503 wd_446 wd_121)) (xT_l (s_dup d13_48)))) (xT_n (xT_n (xT_l (yS (y_aload_eq _ _) (s_aload_n d13_49))) (xT_l (yS (y_aload_eq _ _) (s_aload_n d13_50)))) (xT_n (xT_l (yS (y_invV_eq _ _ _ _) (s_invI d13_51 cal_3 wd_504 wd_448 rfl))) (xT_l (yS (y_putf_eq _ _ _ _) (s_putF (T := TX10) (N := 9) (ty := tyX10) d13_54 rfl inX10 tyX10_ok nmX10 (by decide) wd_509 (Or.inr (Or.inr ⟨rfl, Or.inl ⟨_, rfl⟩⟩)) rfl rfl rfl))))))))
set_option maxRecDepth 100000 in
set_option maxHeartbeats 4000000 in
theorem M_13 : xMeth PX 13 (T_13, 5, [(57, 3)]) := ⟨⟨"CapitalCase$TwoDays", "<init>", "(LCapitalCase$Script;LCapitalCase$Judge;LCapitalCase$Press;LCapitalCase$Planner;)V"⟩, prog_12_method_1_code, none, rfl, by decide, fun G => T_13_ok G, xrt_ok (xR_c (Or.inr (Or.inr (Or.inl ⟨rfl, d13_57, rfl⟩))) (xR_n))⟩
theorem d14_0 : decode prog_1_method_1_code 0 = .ok (.aload_n 0, 1) := by decide +kernel
theorem d14_1 : decode prog_1_method_1_code 1 = .ok (.invokespecial 3, 3) := by decide +kernel
theorem d14_4 : decode prog_1_method_1_code 4 = .ok (.aload_n 0, 1) := by decide +kernel
theorem d14_5 : decode prog_1_method_1_code 5 = .ok (.sipush 2000, 3) := by decide +kernel
theorem d14_8 : decode prog_1_method_1_code 8 = .ok (.newarray .byte, 2) := by decide +kernel
theorem d14_10 : decode prog_1_method_1_code 10 = .ok (.putfield 9, 3) := by decide +kernel
theorem d14_13 : decode prog_1_method_1_code 13 = .ok (.aload_n 0, 1) := by decide +kernel
theorem d14_14 : decode prog_1_method_1_code 14 = .ok (.iconst 0, 1) := by decide +kernel
theorem d14_15 : decode prog_1_method_1_code 15 = .ok (.putfield 13, 3) := by decide +kernel
theorem d14_18 : decode prog_1_method_1_code 18 = .ok (.aload_n 0, 1) := by decide +kernel
theorem d14_19 : decode prog_1_method_1_code 19 = .ok (.iconst (-1), 1) := by decide +kernel
theorem d14_20 : decode prog_1_method_1_code 20 = .ok (.putfield 17, 3) := by decide +kernel
theorem d14_23 : decode prog_1_method_1_code 23 = .ok (.aload_n 0, 1) := by decide +kernel
theorem d14_24 : decode prog_1_method_1_code 24 = .ok (.new 20, 3) := by decide +kernel
theorem d14_27 : decode prog_1_method_1_code 27 = .ok (.dup, 1) := by decide +kernel
theorem d14_28 : decode prog_1_method_1_code 28 = .ok (.invokespecial 22, 3) := by decide +kernel
theorem d14_31 : decode prog_1_method_1_code 31 = .ok (.putfield 23, 3) := by decide +kernel
theorem d14_34 : decode prog_1_method_1_code 34 = .ok (.aload_n 0, 1) := by decide +kernel
theorem d14_35 : decode prog_1_method_1_code 35 = .ok (.new 27, 3) := by decide +kernel
theorem d14_38 : decode prog_1_method_1_code 38 = .ok (.dup, 1) := by decide +kernel
theorem d14_39 : decode prog_1_method_1_code 39 = .ok (.aload_n 0, 1) := by decide +kernel
theorem d14_40 : decode prog_1_method_1_code 40 = .ok (.getfield 9, 3) := by decide +kernel
theorem d14_43 : decode prog_1_method_1_code 43 = .ok (.invokespecial 29, 3) := by decide +kernel
theorem d14_46 : decode prog_1_method_1_code 46 = .ok (.putfield 32, 3) := by decide +kernel
theorem d14_49 : decode prog_1_method_1_code 49 = .ok (.aload_n 0, 1) := by decide +kernel
theorem d14_50 : decode prog_1_method_1_code 50 = .ok (.new 36, 3) := by decide +kernel
theorem d14_53 : decode prog_1_method_1_code 53 = .ok (.dup, 1) := by decide +kernel
theorem d14_54 : decode prog_1_method_1_code 54 = .ok (.invokespecial 38, 3) := by decide +kernel
theorem d14_57 : decode prog_1_method_1_code 57 = .ok (.putfield 39, 3) := by decide +kernel
theorem d14_60 : decode prog_1_method_1_code 60 = .ok (.aload_n 0, 1) := by decide +kernel
theorem d14_61 : decode prog_1_method_1_code 61 = .ok (.new 36, 3) := by decide +kernel
theorem d14_64 : decode prog_1_method_1_code 64 = .ok (.dup, 1) := by decide +kernel
theorem d14_65 : decode prog_1_method_1_code 65 = .ok (.invokespecial 38, 3) := by decide +kernel
theorem d14_68 : decode prog_1_method_1_code 68 = .ok (.putfield 43, 3) := by decide +kernel
theorem d14_71 : decode prog_1_method_1_code 71 = .ok (.aload_n 0, 1) := by decide +kernel
theorem d14_72 : decode prog_1_method_1_code 72 = .ok (.new 46, 3) := by decide +kernel
theorem d14_75 : decode prog_1_method_1_code 75 = .ok (.dup, 1) := by decide +kernel
theorem d14_76 : decode prog_1_method_1_code 76 = .ok (.invokespecial 48, 3) := by decide +kernel
theorem d14_79 : decode prog_1_method_1_code 79 = .ok (.putfield 49, 3) := by decide +kernel
theorem d14_82 : decode prog_1_method_1_code 82 = .ok (.aload_n 0, 1) := by decide +kernel
theorem d14_83 : decode prog_1_method_1_code 83 = .ok (.iconst 3, 1) := by decide +kernel
theorem d14_84 : decode prog_1_method_1_code 84 = .ok (.anewarray 36, 3) := by decide +kernel
theorem d14_87 : decode prog_1_method_1_code 87 = .ok (.putfield 53, 3) := by decide +kernel
theorem d14_90 : decode prog_1_method_1_code 90 = .ok (.aload_n 0, 1) := by decide +kernel
theorem d14_91 : decode prog_1_method_1_code 91 = .ok (.iconst 3, 1) := by decide +kernel
theorem d14_92 : decode prog_1_method_1_code 92 = .ok (.newarray .boolean, 2) := by decide +kernel
theorem d14_94 : decode prog_1_method_1_code 94 = .ok (.putfield 57, 3) := by decide +kernel
theorem d14_97 : decode prog_1_method_1_code 97 = .ok (.aload_n 0, 1) := by decide +kernel
theorem d14_98 : decode prog_1_method_1_code 98 = .ok (.new 61, 3) := by decide +kernel
theorem d14_101 : decode prog_1_method_1_code 101 = .ok (.dup, 1) := by decide +kernel
theorem d14_102 : decode prog_1_method_1_code 102 = .ok (.invokespecial 63, 3) := by decide +kernel
theorem d14_105 : decode prog_1_method_1_code 105 = .ok (.putfield 64, 3) := by decide +kernel
theorem d14_108 : decode prog_1_method_1_code 108 = .ok (.aload_n 0, 1) := by decide +kernel
theorem d14_109 : decode prog_1_method_1_code 109 = .ok (.new 68, 3) := by decide +kernel
theorem d14_112 : decode prog_1_method_1_code 112 = .ok (.dup, 1) := by decide +kernel
theorem d14_113 : decode prog_1_method_1_code 113 = .ok (.aload_n 0, 1) := by decide +kernel
theorem d14_114 : decode prog_1_method_1_code 114 = .ok (.getfield 23, 3) := by decide +kernel
theorem d14_117 : decode prog_1_method_1_code 117 = .ok (.invokespecial 70, 3) := by decide +kernel
theorem d14_120 : decode prog_1_method_1_code 120 = .ok (.putfield 73, 3) := by decide +kernel
theorem d14_123 : decode prog_1_method_1_code 123 = .ok (.aload_n 0, 1) := by decide +kernel
theorem d14_124 : decode prog_1_method_1_code 124 = .ok (.new 77, 3) := by decide +kernel
theorem d14_127 : decode prog_1_method_1_code 127 = .ok (.dup, 1) := by decide +kernel
theorem d14_128 : decode prog_1_method_1_code 128 = .ok (.aload_n 0, 1) := by decide +kernel
theorem d14_129 : decode prog_1_method_1_code 129 = .ok (.getfield 23, 3) := by decide +kernel
theorem d14_132 : decode prog_1_method_1_code 132 = .ok (.aload_n 0, 1) := by decide +kernel
theorem d14_133 : decode prog_1_method_1_code 133 = .ok (.getfield 73, 3) := by decide +kernel
theorem d14_136 : decode prog_1_method_1_code 136 = .ok (.invokespecial 79, 3) := by decide +kernel
theorem d14_139 : decode prog_1_method_1_code 139 = .ok (.putfield 82, 3) := by decide +kernel
theorem d14_142 : decode prog_1_method_1_code 142 = .ok (.aload_n 0, 1) := by decide +kernel
theorem d14_143 : decode prog_1_method_1_code 143 = .ok (.new 86, 3) := by decide +kernel
theorem d14_146 : decode prog_1_method_1_code 146 = .ok (.dup, 1) := by decide +kernel
theorem d14_147 : decode prog_1_method_1_code 147 = .ok (.aload_n 0, 1) := by decide +kernel
theorem d14_148 : decode prog_1_method_1_code 148 = .ok (.getfield 23, 3) := by decide +kernel
theorem d14_151 : decode prog_1_method_1_code 151 = .ok (.aload_n 0, 1) := by decide +kernel
theorem d14_152 : decode prog_1_method_1_code 152 = .ok (.getfield 73, 3) := by decide +kernel
theorem d14_155 : decode prog_1_method_1_code 155 = .ok (.invokespecial 88, 3) := by decide +kernel
theorem d14_158 : decode prog_1_method_1_code 158 = .ok (.putfield 89, 3) := by decide +kernel
theorem d14_161 : decode prog_1_method_1_code 161 = .ok (.aload_n 0, 1) := by decide +kernel
theorem d14_162 : decode prog_1_method_1_code 162 = .ok (.new 93, 3) := by decide +kernel
theorem d14_165 : decode prog_1_method_1_code 165 = .ok (.dup, 1) := by decide +kernel
theorem d14_166 : decode prog_1_method_1_code 166 = .ok (.aload_n 0, 1) := by decide +kernel
theorem d14_167 : decode prog_1_method_1_code 167 = .ok (.getfield 23, 3) := by decide +kernel
theorem d14_170 : decode prog_1_method_1_code 170 = .ok (.aload_n 0, 1) := by decide +kernel
theorem d14_171 : decode prog_1_method_1_code 171 = .ok (.getfield 73, 3) := by decide +kernel
theorem d14_174 : decode prog_1_method_1_code 174 = .ok (.aload_n 0, 1) := by decide +kernel
theorem d14_175 : decode prog_1_method_1_code 175 = .ok (.getfield 82, 3) := by decide +kernel
theorem d14_178 : decode prog_1_method_1_code 178 = .ok (.aload_n 0, 1) := by decide +kernel
theorem d14_179 : decode prog_1_method_1_code 179 = .ok (.getfield 89, 3) := by decide +kernel
theorem d14_182 : decode prog_1_method_1_code 182 = .ok (.invokespecial 95, 3) := by decide +kernel
theorem d14_185 : decode prog_1_method_1_code 185 = .ok (.putfield 98, 3) := by decide +kernel
theorem d14_188 : decode prog_1_method_1_code 188 = .ok (.aload_n 0, 1) := by decide +kernel
theorem d14_189 : decode prog_1_method_1_code 189 = .ok (.new 102, 3) := by decide +kernel
theorem d14_192 : decode prog_1_method_1_code 192 = .ok (.dup, 1) := by decide +kernel
theorem d14_193 : decode prog_1_method_1_code 193 = .ok (.aload_n 0, 1) := by decide +kernel
theorem d14_194 : decode prog_1_method_1_code 194 = .ok (.getfield 23, 3) := by decide +kernel
theorem d14_197 : decode prog_1_method_1_code 197 = .ok (.invokespecial 104, 3) := by decide +kernel
theorem d14_200 : decode prog_1_method_1_code 200 = .ok (.putfield 105, 3) := by decide +kernel
theorem d14_203 : decode prog_1_method_1_code 203 = .ok (.return_, 1) := by decide +kernel
noncomputable def T_14 : Nat → Option xF := bn 98 (bn 49 (bn 23 (bn 13 (bn 5 (bn 1 (bl 0 (y_aload 0 1)) (bn 4 (bl 1 (x_obj 4)) (bl 4 (y_aload 0 5)))) (bn 8 (bl 5 (x_const 2147485648 8)) (bn 10 (bl 8 (x_newa 1 10)) (bl 10 (y_putf 11 7 2 13))))) (bn 18 (bn 14 (bl 13 (y_aload 0 14)) (bn 15 (bl 14 (x_const 2147483648 15)) (bl 15 (y_putf 11 6 0 18)))) (bn 19 (bl 18 (y_aload 0 19)) (bn 20 (bl 19 (x_const 2147483647 20)) (bl 20 (y_putf 11 9 0 23)))))) (bn 35 (bn 28 (bn 24 (bl 23 (y_aload 0 24)) (bn 27 (bl 24 (x_new 6 15 [.inl (2147483648, 2147483648), .inl (2147483648, 2147483648), .inl (2147483648, 2147483648), .inl (2147483648, 2147483648), .inl (2147483648, 2147483648), .inr (.inl none), .inr (.inl none), .inr (.inl none), .inr (.inl none), .inr (.inl none), .inr (.inl none), .inr (.inl none), .inr (.inl none), .inr (.inl none), .inl (2147483648, 2147483648)] 27)) (bl 27 (x_dup 28)))) (bn 31 (bl 28 (y_invV 6 6 1 31)) (bn 34 (bl 31 (y_putf 11 0 2 34)) (bl 34 (y_aload 0 35))))) (bn 40 (bn 38 (bl 35 (x_new 2 10 [.inr (.inl none), .inr (.inl none), .inr (.inl none), .inl (2147483648, 2147483648), .inl (2147483648, 2147483648), .inl (2147483648, 2147483648), .inl (2147483648, 2147483648), .inl (2147483648, 2147483648), .inr (.inl none), .inl (2147483648, 2147483648)] 38)) (bn 39 (bl 38 (x_dup 39)) (bl 39 (y_aload 0 40)))) (bn 43 (bl 40 (y_getf 11 7 43)) (bn 46 (bl 43 (y_invV 2 2 2 46)) (bl 46 (y_putf 11 10 2 49))))))) (bn 75 (bn 61 (bn 54 (bn 50 (bl 49 (y_aload 0 50)) (bn 53 (bl 50 (x_new 8 10 [.inr (.inl none), .inr (.inl none), .inr (.inl none), .inr (.inl none), .inr (.inl none), .inl (2147483648, 2147483648), .inl (2147483648, 2147483648), .inl (2147483648, 2147483648), .inl (2147483648, 2147483648), .inl (2147483648, 2147483648)] 53)) (bl 53 (x_dup 54)))) (bn 57 (bl 54 (y_invV 8 11 1 57)) (bn 60 (bl 57 (y_putf 11 1 2 60)) (bl 60 (y_aload 0 61))))) (bn 68 (bn 64 (bl 61 (x_new 8 10 [.inr (.inl none), .inr (.inl none), .inr (.inl none), .inr (.inl none), .inr (.inl none), .inl (2147483648, 2147483648), .inl (2147483648, 2147483648), .inl (2147483648, 2147483648), .inl (2147483648, 2147483648), .inl (2147483648, 2147483648)] 64)) (bn 65 (bl 64 (x_dup 65)) (bl 65 (y_invV 8 11 1 68)))) (bn 71 (bl 68 (y_putf 11 2 2 71)) (bn 72 (bl 71 (y_aload 0 72)) (bl 72 (x_new 0 3 [.inr (.inl none), .inl (2147483648, 2147483648), .inl (2147483648, 2147483648)] 75)))))) (bn 87 (bn 82 (bn 76 (bl 75 (x_dup 76)) (bn 79 (bl 76 (y_invV 0 0 1 79)) (bl 79 (y_putf 11 8 2 82)))) (bn 83 (bl 82 (y_aload 0 83)) (bn 84 (bl 83 (x_const 2147483651 84)) (bl 84 (x_newq 87))))) (bn 92 (bn 90 (bl 87 (y_putf 11 11 2 90)) (bn 91 (bl 90 (y_aload 0 91)) (bl 91 (x_const 2147483651 92)))) (bn 94 (bl 92 (x_newa 2 94)) (bn 97 (bl 94 (y_putf 11 12 2 97)) (bl 97 (y_aload 0 98)))))))) (bn 148 (bn 124 (bn 112 (bn 105 (bn 101 (bl 98 (x_new 5 4 [.inr (.inl none), .inr (.inl none), .inr (.inl none), .inl (2147483648, 2147483648)] 101)) (bn 102 (bl 101 (x_dup 102)) (bl 102 (y_invV 5 5 1 105)))) (bn 108 (bl 105 (y_putf 11 13 2 108)) (bn 109 (bl 108 (y_aload 0 109)) (bl 109 (x_new 1 3 [.inr (.inl none), .inr (.inl none), .inr (.inl none)] 112))))) (bn 117 (bn 113 (bl 112 (x_dup 113)) (bn 114 (bl 113 (y_aload 0 114)) (bl 114 (y_getf 11 0 117)))) (bn 120 (bl 117 (y_invV 1 1 2 120)) (bn 123 (bl 120 (y_putf 11 5 2 123)) (bl 123 (y_aload 0 124)))))) (bn 136 (bn 129 (bn 127 (bl 124 (x_new 4 2 [.inr (.inl none), .inr (.inl none)] 127)) (bn 128 (bl 127 (x_dup 128)) (bl 128 (y_aload 0 129)))) (bn 132 (bl 129 (y_getf 11 0 132)) (bn 133 (bl 132 (y_aload 0 133)) (bl 133 (y_getf 11 5 136))))) (bn 143 (bn 139 (bl 136 (y_invV 4 4 3 139)) (bn 142 (bl 139 (y_putf 11 3 2 142)) (bl 142 (y_aload 0 143)))) (bn 146 (bl 143 (x_new 3 12 [.inr (.inl none), .inr (.inl none), .inr (.inl none), .inr (.inl none), .inr (.inl none), .inl (2147483648, 2147483648), .inl (2147483648, 2147483648), .inl (2147483648, 2147483648), .inl (2147483648, 2147483648), .inr (.inl none), .inr (.inl none), .inr (.inl none)] 146)) (bn 147 (bl 146 (x_dup 147)) (bl 147 (y_aload 0 148))))))) (bn 174 (bn 162 (bn 155 (bn 151 (bl 148 (y_getf 11 0 151)) (bn 152 (bl 151 (y_aload 0 152)) (bl 152 (y_getf 11 5 155)))) (bn 158 (bl 155 (y_invV 3 3 3 158)) (bn 161 (bl 158 (y_putf 11 4 2 161)) (bl 161 (y_aload 0 162))))) (bn 167 (bn 165 (bl 162 (x_new 10 9 [.inr (.inl none), .inr (.inl none), .inr (.inl none), .inr (.inl none), .inr (.inl none), .inr (.inl none), .inl (2147483648, 2147483648), .inl (2147483648, 2147483648), .inr (.inl none)] 165)) (bn 166 (bl 165 (x_dup 166)) (bl 166 (y_aload 0 167)))) (bn 170 (bl 167 (y_getf 11 0 170)) (bn 171 (bl 170 (y_aload 0 171)) (bl 171 (y_getf 11 5 174)))))) (bn 188 (bn 179 (bn 175 (bl 174 (y_aload 0 175)) (bn 178 (bl 175 (y_getf 11 3 178)) (bl 178 (y_aload 0 179)))) (bn 182 (bl 179 (y_getf 11 4 182)) (bn 185 (bl 182 (y_invV 10 13 5 185)) (bl 185 (y_putf 11 14 2 188))))) (bn 193 (bn 189 (bl 188 (y_aload 0 189)) (bn 192 (bl 189 (x_new 9 3 [.inr (.inl none), .inl (2147483648, 2147483648), .inl (2147483648, 2147483648)] 192)) (bl 192 (x_dup 193)))) (bn 197 (bn 194 (bl 193 (y_aload 0 194)) (bl 194 (y_getf 11 0 197))) (bn 200 (bl 197 (y_invV 9 12 2 200)) (bl 200 (y_putf 11 15 2 203))))))))
set_option maxRecDepth 100000 in
set_option maxHeartbeats 4000000 in
theorem T_14_ok (G : State → Nat → Nat → Prop) : xTree PX G prog_1_method_1_code "CapitalCase" true T_14 := (xT_n (xT_n (xT_n (xT_n (xT_n (xT_n (xT_l (yS (y_aload_eq _ _) (s_aload_n d14_0))) (xT_n (xT_l (s_obj d14_1 wd_138 wd_139 wd_obj)) (xT_l (yS (y_aload_eq _ _) (s_aload_n d14_4))))) (xT_n (xT_l (s_sipush d14_5 (by decide +kernel))) (xT_n (xT_l (s_newa (ty := .byte) d14_8 rfl rfl wd_252 (by decide) (fun _ _ => rfl) (Or.inl ⟨by decide, rfl⟩))) (xT_l (yS (y_putf_eq _ _ _ _) (s_putF (T := TX11) (N := 16) (ty := tyX11) d14_10 rfl inX11 tyX11_ok nmX11 (by decide) wd_553 (Or.inr (Or.inr ⟨rfl, Or.inr ⟨_, rfl⟩⟩)) rfl rfl rfl)))))) (xT_n (xT_n (xT_l (yS (y_aload_eq _ _) (s_aload_n d14_13))) (xT_n (xT_l (s_iconst d14_14 (by decide +kernel))) (xT_l (yS (y_putf_eq _ _ _ _) (s_putf (T := TX11) (N := 16) (ty := tyX11) d14_15 rfl inX11 tyX11_ok nmX11 (by decide) wd_554 (Or.inl ⟨rfl, rfl⟩) rfl))))) (xT_n (xT_l (yS (y_aload_eq _ _) (s_aload_n d14_18))) (xT_n (xT_l (s_iconst d14_19 (by decide +kernel))) (xT_l (yS (y_putf_eq _ _ _ _) (s_putf (T := TX11) (N := 16) (ty := tyX11) d14_20 rfl inX11 tyX11_ok nmX11 (by decide) wd_555 (Or.inl ⟨rfl, rfl⟩) rfl))))))) (xT_n (xT_n (xT_n (xT_l (yS (y_aload_eq _ _) (s_aload_n d14_23))) (xT_n (xT_l (s_new (T := TX6) (ty := tyX6) d14_24 rfl inX6 tyX6_ok (by decide) (by decide) wd_141 wd_142 wd_112)) (xT_l (s_dup d14_27)))) (xT_n (xT_l (yS (y_invV_eq _ _ _ _) (s_invI d14_28 cal_6 wd_143 wd_144 rfl))) (xT_n (xT_l (yS (y_putf_eq _ _ _ _) (s_putF (T := TX11) (N := 16) (ty := tyX11) d14_31 rfl inX11 tyX11_ok nmX11 (by decide) wd_556 (Or.inr (Or.inr ⟨rfl, Or.inl ⟨_, rfl⟩⟩)) rfl rfl rfl))) (xT_l (yS (y_aload_eq _ _) (s_aload_n d14_34)))))) (xT_n (xT_n (xT_l (s_new (T := TX2) (ty := tyX2) d14_35 rfl inX2 tyX2_ok (by decide) (by decide) wd_254 wd_255 wd_114)) (xT_n (xT_l (s_dup d14_38)) (xT_l (yS (y_aload_eq _ _) (s_aload_n d14_39))))) (xT_n (xT_l (yS (y_getf_eq _ _ _) (s_getf (T := TX11) (N := 16) d14_40 rfl inX11 (by decide) wd_553))) (xT_n (xT_l (yS (y_invV_eq _ _ _ _) (s_invI d14_43 cal_2 wd_256 wd_257 rfl))) (xT_l (yS (y_putf_eq _ _ _ _) (s_putF (T := TX11) (N := 16) (ty := tyX11) d14_46 rfl inX11 tyX11_ok nmX11 (by decide) wd_557 (Or.inr (Or.inr ⟨rfl, Or.inl ⟨_, rfl⟩⟩)) rfl rfl rfl)))))))) (xT_n (xT_n (xT_n (xT_n (xT_l (yS (y_aload_eq _ _) (s_aload_n d14_49))) (xT_n (xT_l (s_new (T := TX8) (ty := tyX8) d14_50 rfl inX8 tyX8_ok (by decide) (by decide) wd_314 wd_315 wd_116)) (xT_l (s_dup d14_53)))) (xT_n (xT_l (yS (y_invV_eq _ _ _ _) (s_invIN (host := "CapitalCase") d14_54 cal_11 (by decide +kernel) wd_317 rfl))) (xT_n (xT_l (yS (y_putf_eq _ _ _ _) (s_putF (T := TX11) (N := 16) (ty := tyX11) d14_57 rfl inX11 tyX11_ok nmX11 (by decide) wd_558 (Or.inr (Or.inr ⟨rfl, Or.inl ⟨_, rfl⟩⟩)) rfl rfl rfl))) (xT_l (yS (y_aload_eq _ _) (s_aload_n d14_60)))))) (xT_n (xT_n (xT_l (s_new (T := TX8) (ty := tyX8) d14_61 rfl inX8 tyX8_ok (by decide) (by decide) wd_314 wd_315 wd_116)) (xT_n (xT_l (s_dup d14_64)) (xT_l (yS (y_invV_eq _ _ _ _) (s_invIN (host := "CapitalCase") d14_65 cal_11 (by decide +kernel) wd_317 rfl))))) (xT_n (xT_l (yS (y_putf_eq _ _ _ _) (s_putF (T := TX11) (N := 16) (ty := tyX11) d14_68 rfl inX11 tyX11_ok nmX11 (by decide) wd_559 (Or.inr (Or.inr ⟨rfl, Or.inl ⟨_, rfl⟩⟩)) rfl rfl rfl))) (xT_n (xT_l (yS (y_aload_eq _ _) (s_aload_n d14_71))) (xT_l (s_new (T := TX0) (ty := tyX0) d14_72 rfl inX0 tyX0_ok (by decide) (by decide) wd_376 wd_377 wd_117)))))) (xT_n (xT_n (xT_n (xT_l (s_dup d14_75)) (xT_n (xT_l (yS (y_invV_eq _ _ _ _) (s_invIN (host := "CapitalCase") d14_76 cal_0 (by decide +kernel) wd_379 rfl))) (xT_l (yS (y_putf_eq _ _ _ _) (s_putF (T := TX11) (N := 16) (ty := tyX11) d14_79 rfl inX11 tyX11_ok nmX11 (by decide) wd_560 (Or.inr (Or.inr ⟨rfl, Or.inl ⟨_, rfl⟩⟩)) rfl rfl rfl))))) (xT_n (xT_l (yS (y_aload_eq _ _) (s_aload_n d14_82))) (xT_n (xT_l (s_iconst d14_83 (by decide +kernel))) (xT_l (s_newq d14_84 wd_314))))) (xT_n (xT_n (xT_l (yS (y_putf_eq _ _ _ _) (s_putF (T := TX11) (N := 16) (ty := tyX11) d14_87 rfl inX11 tyX11_ok nmX11 (by decide) wd_561 (Or.inr (Or.inr ⟨rfl, Or.inr ⟨_, rfl⟩⟩)) rfl rfl rfl))) (xT_n (xT_l (yS (y_aload_eq _ _) (s_aload_n d14_90))) (xT_l (s_iconst d14_91 (by decide +kernel))))) (xT_n (xT_l (s_newa (ty := .boolean) d14_92 rfl rfl wd_415 (by decide) (fun _ _ => rfl) (Or.inl ⟨by decide, rfl⟩))) (xT_n (xT_l (yS (y_putf_eq _ _ _ _) (s_putF (T := TX11) (N := 16) (ty := tyX11) d14_94 rfl inX11 tyX11_ok nmX11 (by decide) wd_562 (Or.inr (Or.inr ⟨rfl, Or.inr ⟨_, rfl⟩⟩)) rfl rfl rfl))) (xT_l (yS (y_aload_eq _ _) (s_aload_n d14_97))))))))) (xT_n (xT_n (xT_n (xT_n (xT_n (xT_l (s_new (T := TX5) (ty := tyX5) d14_98 rfl inX5 tyX5_ok (by decide) (by decide) wd_395 wd_396 wd_118)) (xT_n (xT_l (s_dup d14_101)) (xT_l (yS (y_invV_eq _ _ _ _) (s_invIN (host := "CapitalCase") d14_102 cal_5 (by decide +kernel) wd_398 rfl))))) (xT_n (xT_l (yS (y_putf_eq _ _ _ _) (s_putF (T := TX11) (N := 16) (ty := tyX11) d14_105 rfl inX11 tyX11_ok nmX11 (by decide) wd_563 (Or.inr (Or.inr ⟨rfl, Or.inl ⟨_, rfl⟩⟩)) rfl rfl rfl))) (xT_n (xT_l (yS (y_aload_eq _ _) (s_aload_n d14_108))) (xT_l (s_new (T := TX1) (ty := tyX1) d14_109 rfl inX1 tyX1_ok (by decide) (by decide) wd_416 wd_417 wd_119))))) (xT_n (xT_n (xT_l (s_dup d14_112)) (xT_n (xT_l (yS (y_aload_eq _ _) (s_aload_n d14_113))) (xT_l (yS (y_getf_eq _ _ _) (s_getf (T := TX11) (N := 16) d14_114 rfl inX11 (by decide) wd_556))))) (xT_n (xT_l (yS (y_invV_eq _ _ _ _) (s_invI d14_117 cal_1 wd_418 wd_419 rfl))) (xT_n (xT_l (yS (y_putf_eq _ _ _ _) (s_putF (T := TX11) (N := 16) (ty := tyX11) d14_120 rfl inX11 tyX11_ok nmX11 (by decide) wd_564 (Or.inr (Or.inr ⟨rfl, Or.inl ⟨_, rfl⟩⟩)) rfl rfl rfl))) (xT_l (yS (y_aload_eq _ _) (s_aload_n d14_123))))))) (xT_n (xT_n (xT_n (xT_l (s_new (T := TX4) (ty := tyX4) d14_124 rfl inX4 tyX4_ok (by decide) (by decide) wd_432 wd_433 wd_120)) (xT_n (xT_l (s_dup d14_127)) (xT_l (yS (y_aload_eq _ _) (s_aload_n d14_128))))) (xT_n (xT_l (yS (y_getf_eq _ _ _) (s_getf (T := TX11) (N := 16) d14_129 rfl inX11 (by decide) wd_556))) (xT_n (xT_l (yS (y_aload_eq _ _) (s_aload_n d14_132))) (xT_l (yS (y_getf_eq _ _ _) (s_getf (T := TX11) (N := 16) d14_133 rfl inX11 (by decide) wd_564)))))) (xT_n (xT_n (xT_l (yS (y_invV_eq _ _ _ _) (s_invI d14_136 cal_4 wd_434 wd_435 rfl))) (xT_n (xT_l (yS (y_putf_eq _ _ _ _) (s_putF (T := TX11) (N := 16) (ty := tyX11) d14_139 rfl inX11 tyX11_ok nmX11 (by decide) wd_565 (Or.inr (Or.inr ⟨rfl, Or.inl ⟨_, rfl⟩⟩)) rfl rfl rfl))) (xT_l (yS (y_aload_eq _ _) (s_aload_n d14_142))))) (xT_n (xT_l (s_new (T := TX3) (ty := tyX3) d14_143 rfl inX3 tyX3_ok (by decide) (by decide) wd_445 wd_446 wd_121)) (xT_n (xT_l (s_dup d14_146)) (xT_l (yS (y_aload_eq _ _) (s_aload_n d14_147)))))))) (xT_n (xT_n (xT_n (xT_n (xT_l (yS (y_getf_eq _ _ _) (s_getf (T := TX11) (N := 16) d14_148 rfl inX11 (by decide) wd_556))) (xT_n (xT_l (yS (y_aload_eq _ _) (s_aload_n d14_151))) (xT_l (yS (y_getf_eq _ _ _) (s_getf (T := TX11) (N := 16) d14_152 rfl inX11 (by decide) wd_564))))) (xT_n (xT_l (yS (y_invV_eq _ _ _ _) (s_invI d14_155 cal_3 wd_447 wd_448 rfl))) (xT_n (xT_l (yS (y_putf_eq _ _ _ _) (s_putF (T := TX11) (N := 16) (ty := tyX11) d14_158 rfl inX11 tyX11_ok nmX11 (by decide) wd_566 (Or.inr (Or.inr ⟨rfl, Or.inl ⟨_, rfl⟩⟩)) rfl rfl rfl))) (xT_l (yS (y_aload_eq _ _) (s_aload_n d14_161)))))) (xT_n (xT_n (xT_l (s_new (T := TX10) (ty := tyX10) d14_162 rfl inX10 tyX10_ok (by decide) (by decide) wd_495 wd_496 wd_122)) (xT_n (xT_l (s_dup d14_165)) (xT_l (yS (y_aload_eq _ _) (s_aload_n d14_166))))) (xT_n (xT_l (yS (y_getf_eq _ _ _) (s_getf (T := TX11) (N := 16) d14_167 rfl inX11 (by decide) wd_556))) (xT_n (xT_l (yS (y_aload_eq _ _) (s_aload_n d14_170))) (xT_l (yS (y_getf_eq _ _ _) (s_getf (T := TX11) (N := 16) d14_171 rfl inX11 (by decide) wd_564))))))) (xT_n (xT_n (xT_n (xT_l (yS (y_aload_eq _ _) (s_aload_n d14_174))) (xT_n (xT_l (yS (y_getf_eq _ _ _) (s_getf (T := TX11) (N := 16) d14_175 rfl inX11 (by decide) wd_565))) (xT_l (yS (y_aload_eq _ _) (s_aload_n d14_178))))) (xT_n (xT_l (yS (y_getf_eq _ _ _) (s_getf (T := TX11) (N := 16) d14_179 rfl inX11 (by decide) wd_566))) (xT_n (xT_l (yS (y_invV_eq _ _ _ _) (s_invI d14_182 cal_13 wd_497 wd_498 rfl))) (xT_l (yS (y_putf_eq _ _ _ _) (s_putF (T := TX11) (N := 16) (ty := tyX11) d14_185 rfl inX11 tyX11_ok nmX11 (by decide) wd_567 (Or.inr (Or.inr ⟨rfl, Or.inl ⟨_, rfl⟩⟩)) rfl rfl rfl)))))) (xT_n (xT_n (xT_l (yS (y_aload_eq _ _) (s_aload_n d14_188))) (xT_n (xT_l (s_new (T := TX9) (ty := tyX9) d14_189 rfl inX9 tyX9_ok (by decide) (by decide) wd_535 wd_536 wd_123)) (xT_l (s_dup d14_192)))) (xT_n (xT_n (xT_l (yS (y_aload_eq _ _) (s_aload_n d14_193))) (xT_l (yS (y_getf_eq _ _ _) (s_getf (T := TX11) (N := 16) d14_194 rfl inX11 (by decide) wd_556)))) (xT_n (xT_l (yS (y_invV_eq _ _ _ _) (s_invI d14_197 cal_12 wd_537 wd_538 rfl))) (xT_l (yS (y_putf_eq _ _ _ _) (s_putF (T := TX11) (N := 16) (ty := tyX11) d14_200 rfl inX11 tyX11_ok nmX11 (by decide) wd_568 (Or.inr (Or.inr ⟨rfl, Or.inl ⟨_, rfl⟩⟩)) rfl rfl rfl))))))))))
set_option maxRecDepth 100000 in
set_option maxHeartbeats 4000000 in
theorem M_14 : xMeth PX 14 (T_14, 1, [(203, 3)]) := ⟨⟨"CapitalCase", "<init>", "()V"⟩, prog_1_method_1_code, none, rfl, by decide, fun G => T_14_ok G, xrt_ok (xR_c (Or.inr (Or.inr (Or.inl ⟨rfl, d14_203, rfl⟩))) (xR_n))⟩
theorem d15_0 : decode prog_14_method_2_code 0 = .ok (.aload_n 0, 1) := by decide +kernel
theorem d15_1 : decode prog_14_method_2_code 1 = .ok (.invokespecial 7, 3) := by decide +kernel
theorem d15_4 : decode prog_14_method_2_code 4 = .ok (.aload_n 0, 1) := by decide +kernel
theorem d15_5 : decode prog_14_method_2_code 5 = .ok (.sipush 2000, 3) := by decide +kernel
theorem d15_8 : decode prog_14_method_2_code 8 = .ok (.newarray .byte, 2) := by decide +kernel
theorem d15_10 : decode prog_14_method_2_code 10 = .ok (.putfield 13, 3) := by decide +kernel
theorem d15_13 : decode prog_14_method_2_code 13 = .ok (.aload_n 0, 1) := by decide +kernel
theorem d15_14 : decode prog_14_method_2_code 14 = .ok (.sipush 2000, 3) := by decide +kernel
theorem d15_17 : decode prog_14_method_2_code 17 = .ok (.newarray .byte, 2) := by decide +kernel
theorem d15_19 : decode prog_14_method_2_code 19 = .ok (.putfield 17, 3) := by decide +kernel
theorem d15_22 : decode prog_14_method_2_code 22 = .ok (.aload_n 0, 1) := by decide +kernel
theorem d15_23 : decode prog_14_method_2_code 23 = .ok (.sipush 403, 3) := by decide +kernel
theorem d15_26 : decode prog_14_method_2_code 26 = .ok (.newarray .int, 2) := by decide +kernel
theorem d15_28 : decode prog_14_method_2_code 28 = .ok (.putfield 20, 3) := by decide +kernel
theorem d15_31 : decode prog_14_method_2_code 31 = .ok (.aload_n 0, 1) := by decide +kernel
theorem d15_32 : decode prog_14_method_2_code 32 = .ok (.sipush 403, 3) := by decide +kernel
theorem d15_35 : decode prog_14_method_2_code 35 = .ok (.newarray .int, 2) := by decide +kernel
theorem d15_37 : decode prog_14_method_2_code 37 = .ok (.putfield 24, 3) := by decide +kernel
theorem d15_40 : decode prog_14_method_2_code 40 = .ok (.aload_n 0, 1) := by decide +kernel
theorem d15_41 : decode prog_14_method_2_code 41 = .ok (.sipush 403, 3) := by decide +kernel
theorem d15_44 : decode prog_14_method_2_code 44 = .ok (.newarray .int, 2) := by decide +kernel
theorem d15_46 : decode prog_14_method_2_code 46 = .ok (.putfield 27, 3) := by decide +kernel
theorem d15_49 : decode prog_14_method_2_code 49 = .ok (.aload_n 0, 1) := by decide +kernel
theorem d15_50 : decode prog_14_method_2_code 50 = .ok (.sipush 403, 3) := by decide +kernel
theorem d15_53 : decode prog_14_method_2_code 53 = .ok (.newarray .long, 2) := by decide +kernel
theorem d15_55 : decode prog_14_method_2_code 55 = .ok (.putfield 30, 3) := by decide +kernel
theorem d15_58 : decode prog_14_method_2_code 58 = .ok (.aload_n 0, 1) := by decide +kernel
theorem d15_59 : decode prog_14_method_2_code 59 = .ok (.bipush 21, 2) := by decide +kernel
theorem d15_61 : decode prog_14_method_2_code 61 = .ok (.newarray .long, 2) := by decide +kernel
theorem d15_63 : decode prog_14_method_2_code 63 = .ok (.putfield 34, 3) := by decide +kernel
theorem d15_66 : decode prog_14_method_2_code 66 = .ok (.aload_n 0, 1) := by decide +kernel
theorem d15_67 : decode prog_14_method_2_code 67 = .ok (.iconst (-1), 1) := by decide +kernel
theorem d15_68 : decode prog_14_method_2_code 68 = .ok (.putfield 37, 3) := by decide +kernel
theorem d15_71 : decode prog_14_method_2_code 71 = .ok (.aload_n 0, 1) := by decide +kernel
theorem d15_72 : decode prog_14_method_2_code 72 = .ok (.bipush 12, 2) := by decide +kernel
theorem d15_74 : decode prog_14_method_2_code 74 = .ok (.newarray .long, 2) := by decide +kernel
theorem d15_76 : decode prog_14_method_2_code 76 = .ok (.putfield 40, 3) := by decide +kernel
theorem d15_79 : decode prog_14_method_2_code 79 = .ok (.aload_n 0, 1) := by decide +kernel
theorem d15_80 : decode prog_14_method_2_code 80 = .ok (.iconst 2, 1) := by decide +kernel
theorem d15_81 : decode prog_14_method_2_code 81 = .ok (.newarray .int, 2) := by decide +kernel
theorem d15_83 : decode prog_14_method_2_code 83 = .ok (.putfield 43, 3) := by decide +kernel
theorem d15_86 : decode prog_14_method_2_code 86 = .ok (.aload_n 0, 1) := by decide +kernel
theorem d15_87 : decode prog_14_method_2_code 87 = .ok (.bipush 80, 2) := by decide +kernel
theorem d15_89 : decode prog_14_method_2_code 89 = .ok (.newarray .int, 2) := by decide +kernel
theorem d15_91 : decode prog_14_method_2_code 91 = .ok (.putfield 46, 3) := by decide +kernel
theorem d15_94 : decode prog_14_method_2_code 94 = .ok (.aload_n 0, 1) := by decide +kernel
theorem d15_95 : decode prog_14_method_2_code 95 = .ok (.iconst 2, 1) := by decide +kernel
theorem d15_96 : decode prog_14_method_2_code 96 = .ok (.newarray .int, 2) := by decide +kernel
theorem d15_98 : decode prog_14_method_2_code 98 = .ok (.putfield 49, 3) := by decide +kernel
theorem d15_101 : decode prog_14_method_2_code 101 = .ok (.aload_n 0, 1) := by decide +kernel
theorem d15_102 : decode prog_14_method_2_code 102 = .ok (.bipush 14, 2) := by decide +kernel
theorem d15_104 : decode prog_14_method_2_code 104 = .ok (.newarray .int, 2) := by decide +kernel
theorem d15_106 : decode prog_14_method_2_code 106 = .ok (.putfield 52, 3) := by decide +kernel
theorem d15_109 : decode prog_14_method_2_code 109 = .ok (.aload_n 0, 1) := by decide +kernel
theorem d15_110 : decode prog_14_method_2_code 110 = .ok (.bipush 112, 2) := by decide +kernel
theorem d15_112 : decode prog_14_method_2_code 112 = .ok (.newarray .int, 2) := by decide +kernel
theorem d15_114 : decode prog_14_method_2_code 114 = .ok (.putfield 55, 3) := by decide +kernel
theorem d15_117 : decode prog_14_method_2_code 117 = .ok (.aload_n 0, 1) := by decide +kernel
theorem d15_118 : decode prog_14_method_2_code 118 = .ok (.bipush 14, 2) := by decide +kernel
theorem d15_120 : decode prog_14_method_2_code 120 = .ok (.newarray .int, 2) := by decide +kernel
theorem d15_122 : decode prog_14_method_2_code 122 = .ok (.putfield 58, 3) := by decide +kernel
theorem d15_125 : decode prog_14_method_2_code 125 = .ok (.aload_n 0, 1) := by decide +kernel
theorem d15_126 : decode prog_14_method_2_code 126 = .ok (.bipush 14, 2) := by decide +kernel
theorem d15_128 : decode prog_14_method_2_code 128 = .ok (.newarray .int, 2) := by decide +kernel
theorem d15_130 : decode prog_14_method_2_code 130 = .ok (.putfield 61, 3) := by decide +kernel
theorem d15_133 : decode prog_14_method_2_code 133 = .ok (.aload_n 0, 1) := by decide +kernel
theorem d15_134 : decode prog_14_method_2_code 134 = .ok (.iconst 2, 1) := by decide +kernel
theorem d15_135 : decode prog_14_method_2_code 135 = .ok (.newarray .int, 2) := by decide +kernel
theorem d15_137 : decode prog_14_method_2_code 137 = .ok (.putfield 64, 3) := by decide +kernel
theorem d15_140 : decode prog_14_method_2_code 140 = .ok (.aload_n 0, 1) := by decide +kernel
theorem d15_141 : decode prog_14_method_2_code 141 = .ok (.iconst 2, 1) := by decide +kernel
theorem d15_142 : decode prog_14_method_2_code 142 = .ok (.newarray .int, 2) := by decide +kernel
theorem d15_144 : decode prog_14_method_2_code 144 = .ok (.putfield 67, 3) := by decide +kernel
theorem d15_147 : decode prog_14_method_2_code 147 = .ok (.aload_n 0, 1) := by decide +kernel
theorem d15_148 : decode prog_14_method_2_code 148 = .ok (.iconst 2, 1) := by decide +kernel
theorem d15_149 : decode prog_14_method_2_code 149 = .ok (.newarray .int, 2) := by decide +kernel
theorem d15_151 : decode prog_14_method_2_code 151 = .ok (.putfield 70, 3) := by decide +kernel
theorem d15_154 : decode prog_14_method_2_code 154 = .ok (.aload_n 0, 1) := by decide +kernel
theorem d15_155 : decode prog_14_method_2_code 155 = .ok (.bipush 8, 2) := by decide +kernel
theorem d15_157 : decode prog_14_method_2_code 157 = .ok (.newarray .int, 2) := by decide +kernel
theorem d15_159 : decode prog_14_method_2_code 159 = .ok (.putfield 73, 3) := by decide +kernel
theorem d15_162 : decode prog_14_method_2_code 162 = .ok (.aload_n 0, 1) := by decide +kernel
theorem d15_163 : decode prog_14_method_2_code 163 = .ok (.bipush 8, 2) := by decide +kernel
theorem d15_165 : decode prog_14_method_2_code 165 = .ok (.newarray .int, 2) := by decide +kernel
theorem d15_167 : decode prog_14_method_2_code 167 = .ok (.putfield 76, 3) := by decide +kernel
theorem d15_170 : decode prog_14_method_2_code 170 = .ok (.aload_n 0, 1) := by decide +kernel
theorem d15_171 : decode prog_14_method_2_code 171 = .ok (.sipush 260, 3) := by decide +kernel
theorem d15_174 : decode prog_14_method_2_code 174 = .ok (.newarray .boolean, 2) := by decide +kernel
theorem d15_176 : decode prog_14_method_2_code 176 = .ok (.putfield 79, 3) := by decide +kernel
theorem d15_179 : decode prog_14_method_2_code 179 = .ok (.aload_n 0, 1) := by decide +kernel
theorem d15_180 : decode prog_14_method_2_code 180 = .ok (.sipush 260, 3) := by decide +kernel
theorem d15_183 : decode prog_14_method_2_code 183 = .ok (.newarray .int, 2) := by decide +kernel
theorem d15_185 : decode prog_14_method_2_code 185 = .ok (.putfield 83, 3) := by decide +kernel
theorem d15_188 : decode prog_14_method_2_code 188 = .ok (.aload_n 0, 1) := by decide +kernel
theorem d15_189 : decode prog_14_method_2_code 189 = .ok (.sipush 260, 3) := by decide +kernel
theorem d15_192 : decode prog_14_method_2_code 192 = .ok (.newarray .int, 2) := by decide +kernel
theorem d15_194 : decode prog_14_method_2_code 194 = .ok (.putfield 86, 3) := by decide +kernel
theorem d15_197 : decode prog_14_method_2_code 197 = .ok (.aload_n 0, 1) := by decide +kernel
theorem d15_198 : decode prog_14_method_2_code 198 = .ok (.sipush 260, 3) := by decide +kernel
theorem d15_201 : decode prog_14_method_2_code 201 = .ok (.newarray .int, 2) := by decide +kernel
theorem d15_203 : decode prog_14_method_2_code 203 = .ok (.putfield 89, 3) := by decide +kernel
theorem d15_206 : decode prog_14_method_2_code 206 = .ok (.aload_n 0, 1) := by decide +kernel
theorem d15_207 : decode prog_14_method_2_code 207 = .ok (.sipush 260, 3) := by decide +kernel
theorem d15_210 : decode prog_14_method_2_code 210 = .ok (.newarray .int, 2) := by decide +kernel
theorem d15_212 : decode prog_14_method_2_code 212 = .ok (.putfield 92, 3) := by decide +kernel
theorem d15_215 : decode prog_14_method_2_code 215 = .ok (.aload_n 0, 1) := by decide +kernel
theorem d15_216 : decode prog_14_method_2_code 216 = .ok (.sipush 840, 3) := by decide +kernel
theorem d15_219 : decode prog_14_method_2_code 219 = .ok (.newarray .int, 2) := by decide +kernel
theorem d15_221 : decode prog_14_method_2_code 221 = .ok (.putfield 95, 3) := by decide +kernel
theorem d15_224 : decode prog_14_method_2_code 224 = .ok (.aload_n 0, 1) := by decide +kernel
theorem d15_225 : decode prog_14_method_2_code 225 = .ok (.sipush 840, 3) := by decide +kernel
theorem d15_228 : decode prog_14_method_2_code 228 = .ok (.newarray .int, 2) := by decide +kernel
theorem d15_230 : decode prog_14_method_2_code 230 = .ok (.putfield 98, 3) := by decide +kernel
theorem d15_233 : decode prog_14_method_2_code 233 = .ok (.aload_n 0, 1) := by decide +kernel
theorem d15_234 : decode prog_14_method_2_code 234 = .ok (.bipush 8, 2) := by decide +kernel
theorem d15_236 : decode prog_14_method_2_code 236 = .ok (.newarray .int, 2) := by decide +kernel
theorem d15_238 : decode prog_14_method_2_code 238 = .ok (.putfield 101, 3) := by decide +kernel
theorem d15_241 : decode prog_14_method_2_code 241 = .ok (.aload_n 0, 1) := by decide +kernel
theorem d15_242 : decode prog_14_method_2_code 242 = .ok (.bipush 64, 2) := by decide +kernel
theorem d15_244 : decode prog_14_method_2_code 244 = .ok (.newarray .int, 2) := by decide +kernel
theorem d15_246 : decode prog_14_method_2_code 246 = .ok (.putfield 104, 3) := by decide +kernel
theorem d15_249 : decode prog_14_method_2_code 249 = .ok (.aload_n 0, 1) := by decide +kernel
theorem d15_250 : decode prog_14_method_2_code 250 = .ok (.bipush 9, 2) := by decide +kernel
theorem d15_252 : decode prog_14_method_2_code 252 = .ok (.newarray .int, 2) := by decide +kernel
theorem d15_254 : decode prog_14_method_2_code 254 = .ok (.putfield 107, 3) := by decide +kernel
theorem d15_257 : decode prog_14_method_2_code 257 = .ok (.aload_n 0, 1) := by decide +kernel
theorem d15_258 : decode prog_14_method_2_code 258 = .ok (.sipush 400, 3) := by decide +kernel
theorem d15_261 : decode prog_14_method_2_code 261 = .ok (.newarray .int, 2) := by decide +kernel
theorem d15_263 : decode prog_14_method_2_code 263 = .ok (.putfield 110, 3) := by decide +kernel
theorem d15_266 : decode prog_14_method_2_code 266 = .ok (.aload_n 0, 1) := by decide +kernel
theorem d15_267 : decode prog_14_method_2_code 267 = .ok (.sipush 390, 3) := by decide +kernel
theorem d15_270 : decode prog_14_method_2_code 270 = .ok (.newarray .int, 2) := by decide +kernel
theorem d15_272 : decode prog_14_method_2_code 272 = .ok (.putfield 113, 3) := by decide +kernel
theorem d15_275 : decode prog_14_method_2_code 275 = .ok (.aload_n 0, 1) := by decide +kernel
theorem d15_276 : decode prog_14_method_2_code 276 = .ok (.sipush 390, 3) := by decide +kernel
theorem d15_279 : decode prog_14_method_2_code 279 = .ok (.newarray .int, 2) := by decide +kernel
theorem d15_281 : decode prog_14_method_2_code 281 = .ok (.putfield 116, 3) := by decide +kernel
theorem d15_284 : decode prog_14_method_2_code 284 = .ok (.aload_n 0, 1) := by decide +kernel
theorem d15_285 : decode prog_14_method_2_code 285 = .ok (.bipush 40, 2) := by decide +kernel
theorem d15_287 : decode prog_14_method_2_code 287 = .ok (.newarray .boolean, 2) := by decide +kernel
theorem d15_289 : decode prog_14_method_2_code 289 = .ok (.putfield 119, 3) := by decide +kernel
theorem d15_292 : decode prog_14_method_2_code 292 = .ok (.aload_n 0, 1) := by decide +kernel
theorem d15_293 : decode prog_14_method_2_code 293 = .ok (.bipush 40, 2) := by decide +kernel
theorem d15_295 : decode prog_14_method_2_code 295 = .ok (.newarray .int, 2) := by decide +kernel
theorem d15_297 : decode prog_14_method_2_code 297 = .ok (.putfield 122, 3) := by decide +kernel
theorem d15_300 : decode prog_14_method_2_code 300 = .ok (.aload_n 0, 1) := by decide +kernel
theorem d15_301 : decode prog_14_method_2_code 301 = .ok (.bipush 7, 2) := by decide +kernel
theorem d15_303 : decode prog_14_method_2_code 303 = .ok (.newarray .int, 2) := by decide +kernel
theorem d15_305 : decode prog_14_method_2_code 305 = .ok (.putfield 125, 3) := by decide +kernel
theorem d15_308 : decode prog_14_method_2_code 308 = .ok (.aload_n 0, 1) := by decide +kernel
theorem d15_309 : decode prog_14_method_2_code 309 = .ok (.sipush 11700, 3) := by decide +kernel
theorem d15_312 : decode prog_14_method_2_code 312 = .ok (.newarray .int, 2) := by decide +kernel
theorem d15_314 : decode prog_14_method_2_code 314 = .ok (.putfield 128, 3) := by decide +kernel
theorem d15_317 : decode prog_14_method_2_code 317 = .ok (.aload_n 0, 1) := by decide +kernel
theorem d15_318 : decode prog_14_method_2_code 318 = .ok (.sipush 390, 3) := by decide +kernel
theorem d15_321 : decode prog_14_method_2_code 321 = .ok (.newarray .int, 2) := by decide +kernel
theorem d15_323 : decode prog_14_method_2_code 323 = .ok (.putfield 131, 3) := by decide +kernel
theorem d15_326 : decode prog_14_method_2_code 326 = .ok (.aload_n 0, 1) := by decide +kernel
theorem d15_327 : decode prog_14_method_2_code 327 = .ok (.bipush 20, 2) := by decide +kernel
theorem d15_329 : decode prog_14_method_2_code 329 = .ok (.newarray .int, 2) := by decide +kernel
theorem d15_331 : decode prog_14_method_2_code 331 = .ok (.putfield 134, 3) := by decide +kernel
theorem d15_334 : decode prog_14_method_2_code 334 = .ok (.aload_n 0, 1) := by decide +kernel
theorem d15_335 : decode prog_14_method_2_code 335 = .ok (.bipush 20, 2) := by decide +kernel
theorem d15_337 : decode prog_14_method_2_code 337 = .ok (.newarray .int, 2) := by decide +kernel
theorem d15_339 : decode prog_14_method_2_code 339 = .ok (.putfield 137, 3) := by decide +kernel
theorem d15_342 : decode prog_14_method_2_code 342 = .ok (.aload_n 0, 1) := by decide +kernel
theorem d15_343 : decode prog_14_method_2_code 343 = .ok (.bipush 20, 2) := by decide +kernel
theorem d15_345 : decode prog_14_method_2_code 345 = .ok (.newarray .boolean, 2) := by decide +kernel
theorem d15_347 : decode prog_14_method_2_code 347 = .ok (.putfield 140, 3) := by decide +kernel
theorem d15_350 : decode prog_14_method_2_code 350 = .ok (.aload_n 0, 1) := by decide +kernel
theorem d15_351 : decode prog_14_method_2_code 351 = .ok (.iconst 3, 1) := by decide +kernel
theorem d15_352 : decode prog_14_method_2_code 352 = .ok (.newarray .boolean, 2) := by decide +kernel
theorem d15_354 : decode prog_14_method_2_code 354 = .ok (.putfield 143, 3) := by decide +kernel
theorem d15_357 : decode prog_14_method_2_code 357 = .ok (.aload_n 0, 1) := by decide +kernel
theorem d15_358 : decode prog_14_method_2_code 358 = .ok (.sipush 1170, 3) := by decide +kernel
theorem d15_361 : decode prog_14_method_2_code 361 = .ok (.newarray .int, 2) := by decide +kernel
theorem d15_363 : decode prog_14_method_2_code 363 = .ok (.putfield 146, 3) := by decide +kernel
theorem d15_366 : decode prog_14_method_2_code 366 = .ok (.aload_n 0, 1) := by decide +kernel
theorem d15_367 : decode prog_14_method_2_code 367 = .ok (.iconst 0, 1) := by decide +kernel
theorem d15_368 : decode prog_14_method_2_code 368 = .ok (.invokevirtual 149, 3) := by decide +kernel
theorem d15_371 : decode prog_14_method_2_code 371 = .ok (.aload_n 0, 1) := by decide +kernel
theorem d15_372 : decode prog_14_method_2_code 372 = .ok (.getfield 34, 3) := by decide +kernel
theorem d15_375 : decode prog_14_method_2_code 375 = .ok (.iconst 0, 1) := by decide +kernel
theorem d15_376 : decode prog_14_method_2_code 376 = .ok (.bipush 104, 2) := by decide +kernel
theorem d15_378 : decode prog_14_method_2_code 378 = .ok (.bipush 111, 2) := by decide +kernel
theorem d15_380 : decode prog_14_method_2_code 380 = .ok (.bipush 117, 2) := by decide +kernel
theorem d15_382 : decode prog_14_method_2_code 382 = .ok (.bipush 115, 2) := by decide +kernel
theorem d15_384 : decode prog_14_method_2_code 384 = .ok (.bipush 101, 2) := by decide +kernel
theorem d15_386 : decode prog_14_method_2_code 386 = .ok (.iconst 0, 1) := by decide +kernel
theorem d15_387 : decode prog_14_method_2_code 387 = .ok (.iconst 0, 1) := by decide +kernel
theorem d15_388 : decode prog_14_method_2_code 388 = .ok (.invokestatic 153, 3) := by decide +kernel
theorem d15_391 : decode prog_14_method_2_code 391 = .ok (.lastore, 1) := by decide +kernel
theorem d15_392 : decode prog_14_method_2_code 392 = .ok (.aload_n 0, 1) := by decide +kernel
theorem d15_393 : decode prog_14_method_2_code 393 = .ok (.getfield 34, 3) := by decide +kernel
theorem d15_396 : decode prog_14_method_2_code 396 = .ok (.iconst 1, 1) := by decide +kernel
theorem d15_397 : decode prog_14_method_2_code 397 = .ok (.bipush 118, 2) := by decide +kernel
theorem d15_399 : decode prog_14_method_2_code 399 = .ok (.bipush 101, 2) := by decide +kernel
theorem d15_401 : decode prog_14_method_2_code 401 = .ok (.bipush 114, 2) := by decide +kernel
theorem d15_403 : decode prog_14_method_2_code 403 = .ok (.bipush 115, 2) := by decide +kernel
theorem d15_405 : decode prog_14_method_2_code 405 = .ok (.bipush 101, 2) := by decide +kernel
theorem d15_407 : decode prog_14_method_2_code 407 = .ok (.iconst 0, 1) := by decide +kernel
theorem d15_408 : decode prog_14_method_2_code 408 = .ok (.iconst 0, 1) := by decide +kernel
theorem d15_409 : decode prog_14_method_2_code 409 = .ok (.invokestatic 153, 3) := by decide +kernel
theorem d15_412 : decode prog_14_method_2_code 412 = .ok (.lastore, 1) := by decide +kernel
theorem d15_413 : decode prog_14_method_2_code 413 = .ok (.aload_n 0, 1) := by decide +kernel
theorem d15_414 : decode prog_14_method_2_code 414 = .ok (.getfield 34, 3) := by decide +kernel
theorem d15_417 : decode prog_14_method_2_code 417 = .ok (.iconst 2, 1) := by decide +kernel
theorem d15_418 : decode prog_14_method_2_code 418 = .ok (.bipush 108, 2) := by decide +kernel
theorem d15_420 : decode prog_14_method_2_code 420 = .ok (.bipush 101, 2) := by decide +kernel
theorem d15_422 : decode prog_14_method_2_code 422 = .ok (.bipush 97, 2) := by decide +kernel
theorem d15_424 : decode prog_14_method_2_code 424 = .ok (.bipush 118, 2) := by decide +kernel
theorem d15_426 : decode prog_14_method_2_code 426 = .ok (.bipush 101, 2) := by decide +kernel
theorem d15_428 : decode prog_14_method_2_code 428 = .ok (.iconst 0, 1) := by decide +kernel
theorem d15_429 : decode prog_14_method_2_code 429 = .ok (.iconst 0, 1) := by decide +kernel
theorem d15_430 : decode prog_14_method_2_code 430 = .ok (.invokestatic 153, 3) := by decide +kernel
theorem d15_433 : decode prog_14_method_2_code 433 = .ok (.lastore, 1) := by decide +kernel
theorem d15_434 : decode prog_14_method_2_code 434 = .ok (.aload_n 0, 1) := by decide +kernel
theorem d15_435 : decode prog_14_method_2_code 435 = .ok (.getfield 34, 3) := by decide +kernel
theorem d15_438 : decode prog_14_method_2_code 438 = .ok (.iconst 3, 1) := by decide +kernel
theorem d15_439 : decode prog_14_method_2_code 439 = .ok (.bipush 114, 2) := by decide +kernel
theorem d15_441 : decode prog_14_method_2_code 441 = .ok (.bipush 97, 2) := by decide +kernel
theorem d15_443 : decode prog_14_method_2_code 443 = .ok (.bipush 110, 2) := by decide +kernel
theorem d15_445 : decode prog_14_method_2_code 445 = .ok (.bipush 107, 2) := by decide +kernel
theorem d15_447 : decode prog_14_method_2_code 447 = .ok (.iconst 0, 1) := by decide +kernel
theorem d15_448 : decode prog_14_method_2_code 448 = .ok (.iconst 0, 1) := by decide +kernel
theorem d15_449 : decode prog_14_method_2_code 449 = .ok (.iconst 0, 1) := by decide +kernel
theorem d15_450 : decode prog_14_method_2_code 450 = .ok (.invokestatic 153, 3) := by decide +kernel
theorem d15_453 : decode prog_14_method_2_code 453 = .ok (.lastore, 1) := by decide +kernel
theorem d15_454 : decode prog_14_method_2_code 454 = .ok (.aload_n 0, 1) := by decide +kernel
theorem d15_455 : decode prog_14_method_2_code 455 = .ok (.getfield 34, 3) := by decide +kernel
theorem d15_458 : decode prog_14_method_2_code 458 = .ok (.iconst 4, 1) := by decide +kernel
theorem d15_459 : decode prog_14_method_2_code 459 = .ok (.bipush 119, 2) := by decide +kernel
theorem d15_461 : decode prog_14_method_2_code 461 = .ok (.bipush 101, 2) := by decide +kernel
theorem d15_463 : decode prog_14_method_2_code 463 = .ok (.bipush 97, 2) := by decide +kernel
theorem d15_465 : decode prog_14_method_2_code 465 = .ok (.bipush 114, 2) := by decide +kernel
theorem d15_467 : decode prog_14_method_2_code 467 = .ok (.bipush 115, 2) := by decide +kernel
theorem d15_469 : decode prog_14_method_2_code 469 = .ok (.iconst 0, 1) := by decide +kernel
theorem d15_470 : decode prog_14_method_2_code 470 = .ok (.iconst 0, 1) := by decide +kernel
theorem d15_471 : decode prog_14_method_2_code 471 = .ok (.invokestatic 153, 3) := by decide +kernel
theorem d15_474 : decode prog_14_method_2_code 474 = .ok (.lastore, 1) := by decide +kernel
theorem d15_475 : decode prog_14_method_2_code 475 = .ok (.aload_n 0, 1) := by decide +kernel
theorem d15_476 : decode prog_14_method_2_code 476 = .ok (.getfield 34, 3) := by decide +kernel
theorem d15_479 : decode prog_14_method_2_code 479 = .ok (.iconst 5, 1) := by decide +kernel
theorem d15_480 : decode prog_14_method_2_code 480 = .ok (.bipush 112, 2) := by decide +kernel
theorem d15_482 : decode prog_14_method_2_code 482 = .ok (.bipush 97, 2) := by decide +kernel
theorem d15_484 : decode prog_14_method_2_code 484 = .ok (.bipush 121, 2) := by decide +kernel
theorem d15_486 : decode prog_14_method_2_code 486 = .ok (.bipush 115, 2) := by decide +kernel
theorem d15_488 : decode prog_14_method_2_code 488 = .ok (.iconst 0, 1) := by decide +kernel
theorem d15_489 : decode prog_14_method_2_code 489 = .ok (.iconst 0, 1) := by decide +kernel
theorem d15_490 : decode prog_14_method_2_code 490 = .ok (.iconst 0, 1) := by decide +kernel
theorem d15_491 : decode prog_14_method_2_code 491 = .ok (.invokestatic 153, 3) := by decide +kernel
theorem d15_494 : decode prog_14_method_2_code 494 = .ok (.lastore, 1) := by decide +kernel
theorem d15_495 : decode prog_14_method_2_code 495 = .ok (.aload_n 0, 1) := by decide +kernel
theorem d15_496 : decode prog_14_method_2_code 496 = .ok (.getfield 34, 3) := by decide +kernel
theorem d15_499 : decode prog_14_method_2_code 499 = .ok (.bipush 6, 2) := by decide +kernel
theorem d15_501 : decode prog_14_method_2_code 501 = .ok (.bipush 115, 2) := by decide +kernel
theorem d15_503 : decode prog_14_method_2_code 503 = .ok (.bipush 112, 2) := by decide +kernel
theorem d15_505 : decode prog_14_method_2_code 505 = .ok (.bipush 111, 2) := by decide +kernel
theorem d15_507 : decode prog_14_method_2_code 507 = .ok (.bipush 105, 2) := by decide +kernel
theorem d15_509 : decode prog_14_method_2_code 509 = .ok (.bipush 108, 2) := by decide +kernel
theorem d15_511 : decode prog_14_method_2_code 511 = .ok (.bipush 115, 2) := by decide +kernel
theorem d15_513 : decode prog_14_method_2_code 513 = .ok (.iconst 0, 1) := by decide +kernel
theorem d15_514 : decode prog_14_method_2_code 514 = .ok (.invokestatic 153, 3) := by decide +kernel
theorem d15_517 : decode prog_14_method_2_code 517 = .ok (.lastore, 1) := by decide +kernel
theorem d15_518 : decode prog_14_method_2_code 518 = .ok (.aload_n 0, 1) := by decide +kernel
theorem d15_519 : decode prog_14_method_2_code 519 = .ok (.getfield 34, 3) := by decide +kernel
theorem d15_522 : decode prog_14_method_2_code 522 = .ok (.bipush 7, 2) := by decide +kernel
theorem d15_524 : decode prog_14_method_2_code 524 = .ok (.bipush 116, 2) := by decide +kernel
theorem d15_526 : decode prog_14_method_2_code 526 = .ok (.bipush 104, 2) := by decide +kernel
theorem d15_528 : decode prog_14_method_2_code 528 = .ok (.bipush 105, 2) := by decide +kernel
theorem d15_530 : decode prog_14_method_2_code 530 = .ok (.bipush 101, 2) := by decide +kernel
theorem d15_532 : decode prog_14_method_2_code 532 = .ok (.bipush 118, 2) := by decide +kernel
theorem d15_534 : decode prog_14_method_2_code 534 = .ok (.bipush 101, 2) := by decide +kernel
theorem d15_536 : decode prog_14_method_2_code 536 = .ok (.bipush 115, 2) := by decide +kernel
theorem d15_538 : decode prog_14_method_2_code 538 = .ok (.invokestatic 153, 3) := by decide +kernel
theorem d15_541 : decode prog_14_method_2_code 541 = .ok (.lastore, 1) := by decide +kernel
theorem d15_542 : decode prog_14_method_2_code 542 = .ok (.aload_n 0, 1) := by decide +kernel
theorem d15_543 : decode prog_14_method_2_code 543 = .ok (.getfield 34, 3) := by decide +kernel
theorem d15_546 : decode prog_14_method_2_code 546 = .ok (.bipush 8, 2) := by decide +kernel
theorem d15_548 : decode prog_14_method_2_code 548 = .ok (.bipush 115, 2) := by decide +kernel
theorem d15_550 : decode prog_14_method_2_code 550 = .ok (.bipush 101, 2) := by decide +kernel
theorem d15_552 : decode prog_14_method_2_code 552 = .ok (.bipush 101, 2) := by decide +kernel
theorem d15_554 : decode prog_14_method_2_code 554 = .ok (.bipush 100, 2) := by decide +kernel
theorem d15_556 : decode prog_14_method_2_code 556 = .ok (.iconst 0, 1) := by decide +kernel
theorem d15_557 : decode prog_14_method_2_code 557 = .ok (.iconst 0, 1) := by decide +kernel
theorem d15_558 : decode prog_14_method_2_code 558 = .ok (.iconst 0, 1) := by decide +kernel
theorem d15_559 : decode prog_14_method_2_code 559 = .ok (.invokestatic 153, 3) := by decide +kernel
theorem d15_562 : decode prog_14_method_2_code 562 = .ok (.lastore, 1) := by decide +kernel
theorem d15_563 : decode prog_14_method_2_code 563 = .ok (.aload_n 0, 1) := by decide +kernel
theorem d15_564 : decode prog_14_method_2_code 564 = .ok (.getfield 34, 3) := by decide +kernel
theorem d15_567 : decode prog_14_method_2_code 567 = .ok (.bipush 9, 2) := by decide +kernel
theorem d15_569 : decode prog_14_method_2_code 569 = .ok (.bipush 105, 2) := by decide +kernel
theorem d15_571 : decode prog_14_method_2_code 571 = .ok (.bipush 102, 2) := by decide +kernel
theorem d15_573 : decode prog_14_method_2_code 573 = .ok (.iconst 0, 1) := by decide +kernel
theorem d15_574 : decode prog_14_method_2_code 574 = .ok (.iconst 0, 1) := by decide +kernel
theorem d15_575 : decode prog_14_method_2_code 575 = .ok (.iconst 0, 1) := by decide +kernel
theorem d15_576 : decode prog_14_method_2_code 576 = .ok (.iconst 0, 1) := by decide +kernel
theorem d15_577 : decode prog_14_method_2_code 577 = .ok (.iconst 0, 1) := by decide +kernel
theorem d15_578 : decode prog_14_method_2_code 578 = .ok (.invokestatic 153, 3) := by decide +kernel
theorem d15_581 : decode prog_14_method_2_code 581 = .ok (.lastore, 1) := by decide +kernel
theorem d15_582 : decode prog_14_method_2_code 582 = .ok (.aload_n 0, 1) := by decide +kernel
theorem d15_583 : decode prog_14_method_2_code 583 = .ok (.getfield 34, 3) := by decide +kernel
theorem d15_586 : decode prog_14_method_2_code 586 = .ok (.bipush 10, 2) := by decide +kernel
theorem d15_588 : decode prog_14_method_2_code 588 = .ok (.bipush 116, 2) := by decide +kernel
theorem d15_590 : decode prog_14_method_2_code 590 = .ok (.bipush 104, 2) := by decide +kernel
theorem d15_592 : decode prog_14_method_2_code 592 = .ok (.bipush 101, 2) := by decide +kernel
theorem d15_594 : decode prog_14_method_2_code 594 = .ok (.bipush 110, 2) := by decide +kernel
theorem d15_596 : decode prog_14_method_2_code 596 = .ok (.iconst 0, 1) := by decide +kernel
theorem d15_597 : decode prog_14_method_2_code 597 = .ok (.iconst 0, 1) := by decide +kernel
theorem d15_598 : decode prog_14_method_2_code 598 = .ok (.iconst 0, 1) := by decide +kernel
theorem d15_599 : decode prog_14_method_2_code 599 = .ok (.invokestatic 153, 3) := by decide +kernel
theorem d15_602 : decode prog_14_method_2_code 602 = .ok (.lastore, 1) := by decide +kernel
theorem d15_603 : decode prog_14_method_2_code 603 = .ok (.aload_n 0, 1) := by decide +kernel
theorem d15_604 : decode prog_14_method_2_code 604 = .ok (.getfield 34, 3) := by decide +kernel
theorem d15_607 : decode prog_14_method_2_code 607 = .ok (.bipush 11, 2) := by decide +kernel
theorem d15_609 : decode prog_14_method_2_code 609 = .ok (.bipush 101, 2) := by decide +kernel
theorem d15_611 : decode prog_14_method_2_code 611 = .ok (.bipush 108, 2) := by decide +kernel
theorem d15_613 : decode prog_14_method_2_code 613 = .ok (.bipush 115, 2) := by decide +kernel
theorem d15_615 : decode prog_14_method_2_code 615 = .ok (.bipush 101, 2) := by decide +kernel
theorem d15_617 : decode prog_14_method_2_code 617 = .ok (.iconst 0, 1) := by decide +kernel
theorem d15_618 : decode prog_14_method_2_code 618 = .ok (.iconst 0, 1) := by decide +kernel
theorem d15_619 : decode prog_14_method_2_code 619 = .ok (.iconst 0, 1) := by decide +kernel
theorem d15_620 : decode prog_14_method_2_code 620 = .ok (.invokestatic 153, 3) := by decide +kernel
theorem d15_623 : decode prog_14_method_2_code 623 = .ok (.lastore, 1) := by decide +kernel
theorem d15_624 : decode prog_14_method_2_code 624 = .ok (.aload_n 0, 1) := by decide +kernel
theorem d15_625 : decode prog_14_method_2_code 625 = .ok (.getfield 34, 3) := by decide +kernel
theorem d15_628 : decode prog_14_method_2_code 628 = .ok (.bipush 12, 2) := by decide +kernel
theorem d15_630 : decode prog_14_method_2_code 630 = .ok (.bipush 118, 2) := by decide +kernel
theorem d15_632 : decode prog_14_method_2_code 632 = .ok (.bipush 97, 2) := by decide +kernel
theorem d15_634 : decode prog_14_method_2_code 634 = .ok (.bipush 108, 2) := by decide +kernel
theorem d15_636 : decode prog_14_method_2_code 636 = .ok (.bipush 117, 2) := by decide +kernel
theorem d15_638 : decode prog_14_method_2_code 638 = .ok (.bipush 101, 2) := by decide +kernel
theorem d15_640 : decode prog_14_method_2_code 640 = .ok (.iconst 0, 1) := by decide +kernel
theorem d15_641 : decode prog_14_method_2_code 641 = .ok (.iconst 0, 1) := by decide +kernel
theorem d15_642 : decode prog_14_method_2_code 642 = .ok (.invokestatic 153, 3) := by decide +kernel
theorem d15_645 : decode prog_14_method_2_code 645 = .ok (.lastore, 1) := by decide +kernel
theorem d15_646 : decode prog_14_method_2_code 646 = .ok (.aload_n 0, 1) := by decide +kernel
theorem d15_647 : decode prog_14_method_2_code 647 = .ok (.getfield 34, 3) := by decide +kernel
theorem d15_650 : decode prog_14_method_2_code 650 = .ok (.bipush 13, 2) := by decide +kernel
theorem d15_652 : decode prog_14_method_2_code 652 = .ok (.bipush 100, 2) := by decide +kernel
theorem d15_654 : decode prog_14_method_2_code 654 = .ok (.bipush 117, 2) := by decide +kernel
theorem d15_656 : decode prog_14_method_2_code 656 = .ok (.bipush 101, 2) := by decide +kernel
theorem d15_658 : decode prog_14_method_2_code 658 = .ok (.iconst 0, 1) := by decide +kernel
theorem d15_659 : decode prog_14_method_2_code 659 = .ok (.iconst 0, 1) := by decide +kernel
theorem d15_660 : decode prog_14_method_2_code 660 = .ok (.iconst 0, 1) := by decide +kernel
theorem d15_661 : decode prog_14_method_2_code 661 = .ok (.iconst 0, 1) := by decide +kernel
theorem d15_662 : decode prog_14_method_2_code 662 = .ok (.invokestatic 153, 3) := by decide +kernel
theorem d15_665 : decode prog_14_method_2_code 665 = .ok (.lastore, 1) := by decide +kernel
theorem d15_666 : decode prog_14_method_2_code 666 = .ok (.aload_n 0, 1) := by decide +kernel
theorem d15_667 : decode prog_14_method_2_code 667 = .ok (.getfield 34, 3) := by decide +kernel
theorem d15_670 : decode prog_14_method_2_code 670 = .ok (.bipush 14, 2) := by decide +kernel
theorem d15_672 : decode prog_14_method_2_code 672 = .ok (.bipush 100, 2) := by decide +kernel
theorem d15_674 : decode prog_14_method_2_code 674 = .ok (.bipush 97, 2) := by decide +kernel
theorem d15_676 : decode prog_14_method_2_code 676 = .ok (.bipush 121, 2) := by decide +kernel
theorem d15_678 : decode prog_14_method_2_code 678 = .ok (.iconst 0, 1) := by decide +kernel
theorem d15_679 : decode prog_14_method_2_code 679 = .ok (.iconst 0, 1) := by decide +kernel
theorem d15_680 : decode prog_14_method_2_code 680 = .ok (.iconst 0, 1) := by decide +kernel
theorem d15_681 : decode prog_14_method_2_code 681 = .ok (.iconst 0, 1) := by decide +kernel
theorem d15_682 : decode prog_14_method_2_code 682 = .ok (.invokestatic 153, 3) := by decide +kernel
theorem d15_685 : decode prog_14_method_2_code 685 = .ok (.lastore, 1) := by decide +kernel
theorem d15_686 : decode prog_14_method_2_code 686 = .ok (.aload_n 0, 1) := by decide +kernel
theorem d15_687 : decode prog_14_method_2_code 687 = .ok (.getfield 34, 3) := by decide +kernel
theorem d15_690 : decode prog_14_method_2_code 690 = .ok (.bipush 15, 2) := by decide +kernel
theorem d15_692 : decode prog_14_method_2_code 692 = .ok (.bipush 119, 2) := by decide +kernel
theorem d15_694 : decode prog_14_method_2_code 694 = .ok (.bipush 111, 2) := by decide +kernel
theorem d15_696 : decode prog_14_method_2_code 696 = .ok (.bipush 114, 2) := by decide +kernel
theorem d15_698 : decode prog_14_method_2_code 698 = .ok (.bipush 110, 2) := by decide +kernel
theorem d15_700 : decode prog_14_method_2_code 700 = .ok (.iconst 0, 1) := by decide +kernel
theorem d15_701 : decode prog_14_method_2_code 701 = .ok (.iconst 0, 1) := by decide +kernel
theorem d15_702 : decode prog_14_method_2_code 702 = .ok (.iconst 0, 1) := by decide +kernel
theorem d15_703 : decode prog_14_method_2_code 703 = .ok (.invokestatic 153, 3) := by decide +kernel
theorem d15_706 : decode prog_14_method_2_code 706 = .ok (.lastore, 1) := by decide +kernel
theorem d15_707 : decode prog_14_method_2_code 707 = .ok (.aload_n 0, 1) := by decide +kernel
theorem d15_708 : decode prog_14_method_2_code 708 = .ok (.getfield 34, 3) := by decide +kernel
theorem d15_711 : decode prog_14_method_2_code 711 = .ok (.bipush 16, 2) := by decide +kernel
theorem d15_713 : decode prog_14_method_2_code 713 = .ok (.bipush 104, 2) := by decide +kernel
theorem d15_715 : decode prog_14_method_2_code 715 = .ok (.bipush 97, 2) := by decide +kernel
theorem d15_717 : decode prog_14_method_2_code 717 = .ok (.bipush 115, 2) := by decide +kernel
theorem d15_719 : decode prog_14_method_2_code 719 = .ok (.iconst 0, 1) := by decide +kernel
theorem d15_720 : decode prog_14_method_2_code 720 = .ok (.iconst 0, 1) := by decide +kernel
theorem d15_721 : decode prog_14_method_2_code 721 = .ok (.iconst 0, 1) := by decide +kernel
theorem d15_722 : decode prog_14_method_2_code 722 = .ok (.iconst 0, 1) := by decide +kernel
theorem d15_723 : decode prog_14_method_2_code 723 = .ok (.invokestatic 153, 3) := by decide +kernel
theorem d15_726 : decode prog_14_method_2_code 726 = .ok (.lastore, 1) := by decide +kernel
theorem d15_727 : decode prog_14_method_2_code 727 = .ok (.aload_n 0, 1) := by decide +kernel
theorem d15_728 : decode prog_14_method_2_code 728 = .ok (.getfield 34, 3) := by decide +kernel
theorem d15_731 : decode prog_14_method_2_code 731 = .ok (.bipush 17, 2) := by decide +kernel
theorem d15_733 : decode prog_14_method_2_code 733 = .ok (.bipush 119, 2) := by decide +kernel
theorem d15_735 : decode prog_14_method_2_code 735 = .ok (.bipush 104, 2) := by decide +kernel
theorem d15_737 : decode prog_14_method_2_code 737 = .ok (.bipush 105, 2) := by decide +kernel
theorem d15_739 : decode prog_14_method_2_code 739 = .ok (.bipush 99, 2) := by decide +kernel
theorem d15_741 : decode prog_14_method_2_code 741 = .ok (.bipush 104, 2) := by decide +kernel
theorem d15_743 : decode prog_14_method_2_code 743 = .ok (.iconst 0, 1) := by decide +kernel
theorem d15_744 : decode prog_14_method_2_code 744 = .ok (.iconst 0, 1) := by decide +kernel
theorem d15_745 : decode prog_14_method_2_code 745 = .ok (.invokestatic 153, 3) := by decide +kernel
theorem d15_748 : decode prog_14_method_2_code 748 = .ok (.lastore, 1) := by decide +kernel
theorem d15_749 : decode prog_14_method_2_code 749 = .ok (.aload_n 0, 1) := by decide +kernel
theorem d15_750 : decode prog_14_method_2_code 750 = .ok (.getfield 34, 3) := by decide +kernel
theorem d15_753 : decode prog_14_method_2_code 753 = .ok (.bipush 18, 2) := by decide +kernel
theorem d15_755 : decode prog_14_method_2_code 755 = .ok (.bipush 108, 2) := by decide +kernel
theorem d15_757 : decode prog_14_method_2_code 757 = .ok (.bipush 101, 2) := by decide +kernel
theorem d15_759 : decode prog_14_method_2_code 759 = .ok (.bipush 116, 2) := by decide +kernel
theorem d15_761 : decode prog_14_method_2_code 761 = .ok (.bipush 116, 2) := by decide +kernel
theorem d15_763 : decode prog_14_method_2_code 763 = .ok (.bipush 101, 2) := by decide +kernel
theorem d15_765 : decode prog_14_method_2_code 765 = .ok (.bipush 114, 2) := by decide +kernel
theorem d15_767 : decode prog_14_method_2_code 767 = .ok (.iconst 0, 1) := by decide +kernel
theorem d15_768 : decode prog_14_method_2_code 768 = .ok (.invokestatic 153, 3) := by decide +kernel
theorem d15_771 : decode prog_14_method_2_code 771 = .ok (.lastore, 1) := by decide +kernel
theorem d15_772 : decode prog_14_method_2_code 772 = .ok (.aload_n 0, 1) := by decide +kernel
theorem d15_773 : decode prog_14_method_2_code 773 = .ok (.getfield 34, 3) := by decide +kernel
theorem d15_776 : decode prog_14_method_2_code 776 = .ok (.bipush 19, 2) := by decide +kernel
theorem d15_778 : decode prog_14_method_2_code 778 = .ok (.bipush 108, 2) := by decide +kernel
theorem d15_780 : decode prog_14_method_2_code 780 = .ok (.bipush 111, 2) := by decide +kernel
theorem d15_782 : decode prog_14_method_2_code 782 = .ok (.bipush 110, 2) := by decide +kernel
theorem d15_784 : decode prog_14_method_2_code 784 = .ok (.bipush 103, 2) := by decide +kernel
theorem d15_786 : decode prog_14_method_2_code 786 = .ok (.iconst 0, 1) := by decide +kernel
theorem d15_787 : decode prog_14_method_2_code 787 = .ok (.iconst 0, 1) := by decide +kernel
theorem d15_788 : decode prog_14_method_2_code 788 = .ok (.iconst 0, 1) := by decide +kernel
theorem d15_789 : decode prog_14_method_2_code 789 = .ok (.invokestatic 153, 3) := by decide +kernel
theorem d15_792 : decode prog_14_method_2_code 792 = .ok (.lastore, 1) := by decide +kernel
theorem d15_793 : decode prog_14_method_2_code 793 = .ok (.aload_n 0, 1) := by decide +kernel
theorem d15_794 : decode prog_14_method_2_code 794 = .ok (.getfield 34, 3) := by decide +kernel
theorem d15_797 : decode prog_14_method_2_code 797 = .ok (.bipush 20, 2) := by decide +kernel
theorem d15_799 : decode prog_14_method_2_code 799 = .ok (.bipush 108, 2) := by decide +kernel
theorem d15_801 : decode prog_14_method_2_code 801 = .ok (.bipush 101, 2) := by decide +kernel
theorem d15_803 : decode prog_14_method_2_code 803 = .ok (.bipush 110, 2) := by decide +kernel
theorem d15_805 : decode prog_14_method_2_code 805 = .ok (.bipush 116, 2) := by decide +kernel
theorem d15_807 : decode prog_14_method_2_code 807 = .ok (.iconst 0, 1) := by decide +kernel
theorem d15_808 : decode prog_14_method_2_code 808 = .ok (.iconst 0, 1) := by decide +kernel
theorem d15_809 : decode prog_14_method_2_code 809 = .ok (.iconst 0, 1) := by decide +kernel
theorem d15_810 : decode prog_14_method_2_code 810 = .ok (.invokestatic 153, 3) := by decide +kernel
theorem d15_813 : decode prog_14_method_2_code 813 = .ok (.lastore, 1) := by decide +kernel
theorem d15_814 : decode prog_14_method_2_code 814 = .ok (.aload_n 0, 1) := by decide +kernel
theorem d15_815 : decode prog_14_method_2_code 815 = .ok (.invokevirtual 157, 3) := by decide +kernel
theorem d15_818 : decode prog_14_method_2_code 818 = .ok (.aload_n 0, 1) := by decide +kernel
theorem d15_819 : decode prog_14_method_2_code 819 = .ok (.invokevirtual 160, 3) := by decide +kernel
theorem d15_822 : decode prog_14_method_2_code 822 = .ok (.return_, 1) := by decide +kernel
noncomputable def T_15 : Nat → Option xF := bn 438 (bn 224 (bn 110 (bn 59 (bn 28 (bn 13 (bn 5 (bn 1 (bl 0 (y_aload 0 1)) (bn 4 (bl 1 (x_obj 4)) (bl 4 (y_aload 0 5)))) (bn 8 (bl 5 (x_const 2147485648 8)) (bn 10 (bl 8 (x_newa 1 10)) (bl 10 (y_putf 12 13 2 13))))) (bn 19 (bn 14 (bl 13 (y_aload 0 14)) (bn 17 (bl 14 (x_const 2147485648 17)) (bl 17 (x_newa 1 19)))) (bn 23 (bn 22 (bl 19 (y_putf 12 17 2 22)) (bl 22 (y_aload 0 23))) (bn 26 (bl 23 (x_const 2147484051 26)) (bl 26 (x_newa 0 28)))))) (bn 44 (bn 35 (bn 31 (bl 28 (y_putf 12 19 2 31)) (bn 32 (bl 31 (y_aload 0 32)) (bl 32 (x_const 2147484051 35)))) (bn 40 (bn 37 (bl 35 (x_newa 0 37)) (bl 37 (y_putf 12 20 2 40))) (bn 41 (bl 40 (y_aload 0 41)) (bl 41 (x_const 2147484051 44))))) (bn 50 (bn 46 (bl 44 (x_newa 0 46)) (bn 49 (bl 46 (y_putf 12 21 2 49)) (bl 49 (y_aload 0 50)))) (bn 55 (bn 53 (bl 50 (x_const 2147484051 53)) (bl 53 (x_newa 3 55))) (bn 58 (bl 55 (y_putf 12 22 2 58)) (bl 58 (y_aload 0 59))))))) (bn 83 (bn 71 (bn 66 (bn 61 (bl 59 (x_const 2147483669 61)) (bn 63 (bl 61 (x_newa 3 63)) (bl 63 (y_putf 12 23 2 66)))) (bn 67 (bl 66 (y_aload 0 67)) (bn 68 (bl 67 (x_const 2147483647 68)) (bl 68 (y_putf 12 31 0 71))))) (bn 76 (bn 72 (bl 71 (y_aload 0 72)) (bn 74 (bl 72 (x_const 2147483660 74)) (bl 74 (x_newa 3 76)))) (bn 80 (bn 79 (bl 76 (y_putf 12 34 2 79)) (bl 79 (y_aload 0 80))) (bn 81 (bl 80 (x_const 2147483650 81)) (bl 81 (x_newa 0 83)))))) (bn 96 (bn 89 (bn 86 (bl 83 (y_putf 12 3 2 86)) (bn 87 (bl 86 (y_aload 0 87)) (bl 87 (x_const 2147483728 89)))) (bn 94 (bn 91 (bl 89 (x_newa 0 91)) (bl 91 (y_putf 12 35 2 94))) (bn 95 (bl 94 (y_aload 0 95)) (bl 95 (x_const 2147483650 96))))) (bn 102 (bn 98 (bl 96 (x_newa 0 98)) (bn 101 (bl 98 (y_putf 12 4 2 101)) (bl 101 (y_aload 0 102)))) (bn 106 (bn 104 (bl 102 (x_const 2147483662 104)) (bl 104 (x_newa 0 106))) (bn 109 (bl 106 (y_putf 12 36 2 109)) (bl 109 (y_aload 0 110)))))))) (bn 162 (bn 135 (bn 122 (bn 117 (bn 112 (bl 110 (x_const 2147483760 112)) (bn 114 (bl 112 (x_newa 0 114)) (bl 114 (y_putf 12 37 2 117)))) (bn 118 (bl 117 (y_aload 0 118)) (bn 120 (bl 118 (x_const 2147483662 120)) (bl 120 (x_newa 0 122))))) (bn 128 (bn 125 (bl 122 (y_putf 12 38 2 125)) (bn 126 (bl 125 (y_aload 0 126)) (bl 126 (x_const 2147483662 128)))) (bn 133 (bn 130 (bl 128 (x_newa 0 130)) (bl 130 (y_putf 12 39 2 133))) (bn 134 (bl 133 (y_aload 0 134)) (bl 134 (x_const 2147483650 135)))))) (bn 148 (bn 141 (bn 137 (bl 135 (x_newa 0 137)) (bn 140 (bl 137 (y_putf 12 40 2 140)) (bl 140 (y_aload 0 141)))) (bn 144 (bn 142 (bl 141 (x_const 2147483650 142)) (bl 142 (x_newa 0 144))) (bn 147 (bl 144 (y_putf 12 9 2 147)) (bl 147 (y_aload 0 148))))) (bn 154 (bn 149 (bl 148 (x_const 2147483650 149)) (bn 151 (bl 149 (x_newa 0 151)) (bl 151 (y_putf 12 5 2 154)))) (bn 157 (bn 155 (bl 154 (y_aload 0 155)) (bl 155 (x_const 2147483656 157))) (bn 159 (bl 157 (x_newa 0 159)) (bl 159 (y_putf 12 41 2 162))))))) (bn 192 (bn 176 (bn 167 (bn 163 (bl 162 (y_aload 0 163)) (bn 165 (bl 163 (x_const 2147483656 165)) (bl 165 (x_newa 0 167)))) (bn 171 (bn 170 (bl 167 (y_putf 12 42 2 170)) (bl 170 (y_aload 0 171))) (bn 174 (bl 171 (x_const 2147483908 174)) (bl 174 (x_newa 2 176))))) (bn 183 (bn 179 (bl 176 (y_putf 12 44 2 179)) (bn 180 (bl 179 (y_aload 0 180)) (bl 180 (x_const 2147483908 183)))) (bn 188 (bn 185 (bl 183 (x_newa 0 185)) (bl 185 (y_putf 12 45 2 188))) (bn 189 (bl 188 (y_aload 0 189)) (bl 189 (x_const 2147483908 192)))))) (bn 207 (bn 198 (bn 194 (bl 192 (x_newa 0 194)) (bn 197 (bl 194 (y_putf 12 46 2 197)) (bl 197 (y_aload 0 198)))) (bn 203 (bn 201 (bl 198 (x_const 2147483908 201)) (bl 201 (x_newa 0 203))) (bn 206 (bl 203 (y_putf 12 47 2 206)) (bl 206 (y_aload 0 207))))) (bn 215 (bn 210 (bl 207 (x_const 2147483908 210)) (bn 212 (bl 210 (x_newa 0 212)) (bl 212 (y_putf 12 48 2 215)))) (bn 219 (bn 216 (bl 215 (y_aload 0 216)) (bl 216 (x_const 2147484488 219))) (bn 221 (bl 219 (x_newa 0 221)) (bl 221 (y_putf 12 50 2 224))))))))) (bn 337 (bn 281 (bn 250 (bn 236 (bn 230 (bn 225 (bl 224 (y_aload 0 225)) (bn 228 (bl 225 (x_const 2147484488 228)) (bl 228 (x_newa 0 230)))) (bn 233 (bl 230 (y_putf 12 51 2 233)) (bn 234 (bl 233 (y_aload 0 234)) (bl 234 (x_const 2147483656 236))))) (bn 242 (bn 238 (bl 236 (x_newa 0 238)) (bn 241 (bl 238 (y_putf 12 52 2 241)) (bl 241 (y_aload 0 242)))) (bn 246 (bn 244 (bl 242 (x_const 2147483712 244)) (bl 244 (x_newa 0 246))) (bn 249 (bl 246 (y_putf 12 54 2 249)) (bl 249 (y_aload 0 250)))))) (bn 266 (bn 257 (bn 252 (bl 250 (x_const 2147483657 252)) (bn 254 (bl 252 (x_newa 0 254)) (bl 254 (y_putf 12 56 2 257)))) (bn 261 (bn 258 (bl 257 (y_aload 0 258)) (bl 258 (x_const 2147484048 261))) (bn 263 (bl 261 (x_newa 0 263)) (bl 263 (y_putf 12 57 2 266))))) (bn 272 (bn 267 (bl 266 (y_aload 0 267)) (bn 270 (bl 267 (x_const 2147484038 270)) (bl 270 (x_newa 0 272)))) (bn 276 (bn 275 (bl 272 (y_putf 12 1 2 275)) (bl 275 (y_aload 0 276))) (bn 279 (bl 276 (x_const 2147484038 279)) (bl 279 (x_newa 0 281))))))) (bn 308 (bn 293 (bn 287 (bn 284 (bl 281 (y_putf 12 0 2 284)) (bn 285 (bl 284 (y_aload 0 285)) (bl 285 (x_const 2147483688 287)))) (bn 289 (bl 287 (x_newa 2 289)) (bn 292 (bl 289 (y_putf 12 60 2 292)) (bl 292 (y_aload 0 293))))) (bn 300 (bn 295 (bl 293 (x_const 2147483688 295)) (bn 297 (bl 295 (x_newa 0 297)) (bl 297 (y_putf 12 15 2 300)))) (bn 303 (bn 301 (bl 300 (y_aload 0 301)) (bl 301 (x_const 2147483655 303))) (bn 305 (bl 303 (x_newa 0 305)) (bl 305 (y_putf 12 14 2 308)))))) (bn 323 (bn 314 (bn 309 (bl 308 (y_aload 0 309)) (bn 312 (bl 309 (x_const 2147495348 312)) (bl 312 (x_newa 0 314)))) (bn 318 (bn 317 (bl 314 (y_putf 12 11 2 317)) (bl 317 (y_aload 0 318))) (bn 321 (bl 318 (x_const 2147484038 321)) (bl 321 (x_newa 0 323))))) (bn 329 (bn 326 (bl 323 (y_putf 12 61 2 326)) (bn 327 (bl 326 (y_aload 0 327)) (bl 327 (x_const 2147483668 329)))) (bn 334 (bn 331 (bl 329 (x_newa 0 331)) (bl 331 (y_putf 12 65 2 334))) (bn 335 (bl 334 (y_aload 0 335)) (bl 335 (x_const 2147483668 337)))))))) (bn 388 (bn 363 (bn 350 (bn 343 (bn 339 (bl 337 (x_newa 0 339)) (bn 342 (bl 339 (y_putf 12 66 2 342)) (bl 342 (y_aload 0 343)))) (bn 345 (bl 343 (x_const 2147483668 345)) (bn 347 (bl 345 (x_newa 2 347)) (bl 347 (y_putf 12 67 2 350))))) (bn 354 (bn 351 (bl 350 (y_aload 0 351)) (bn 352 (bl 351 (x_const 2147483651 352)) (bl 352 (x_newa 2 354)))) (bn 358 (bn 357 (bl 354 (y_putf 12 68 2 357)) (bl 357 (y_aload 0 358))) (bn 361 (bl 358 (x_const 2147484818 361)) (bl 361 (x_newa 0 363)))))) (bn 376 (bn 368 (bn 366 (bl 363 (y_putf 12 69 2 366)) (bn 367 (bl 366 (y_aload 0 367)) (bl 367 (x_const 2147483648 368)))) (bn 372 (bn 371 (bl 368 (y_invV 12 19 2 371)) (bl 371 (y_aload 0 372))) (bn 375 (bl 372 (y_getf 12 23 375)) (bl 375 (x_const 2147483648 376))))) (bn 382 (bn 378 (bl 376 (x_const 2147483752 378)) (bn 380 (bl 378 (x_const 2147483759 380)) (bl 380 (x_const 2147483765 382)))) (bn 386 (bn 384 (bl 382 (x_const 2147483763 384)) (bl 384 (x_const 2147483749 386))) (bn 387 (bl 386 (x_const 2147483648 387)) (bl 387 (x_const 2147483648 388))))))) (bn 413 (bn 401 (bn 393 (bn 391 (bl 388 (y_inv 20 7 391)) (bn 392 (bl 391 (x_last 392)) (bl 392 (y_aload 0 393)))) (bn 397 (bn 396 (bl 393 (y_getf 12 23 396)) (bl 396 (x_const 2147483649 397))) (bn 399 (bl 397 (x_const 2147483766 399)) (bl 399 (x_const 2147483749 401))))) (bn 407 (bn 403 (bl 401 (x_const 2147483762 403)) (bn 405 (bl 403 (x_const 2147483763 405)) (bl 405 (x_const 2147483749 407)))) (bn 409 (bn 408 (bl 407 (x_const 2147483648 408)) (bl 408 (x_const 2147483648 409))) (bn 412 (bl 409 (y_inv 20 7 412)) (bl 412 (x_last 413)))))) (bn 426 (bn 418 (bn 414 (bl 413 (y_aload 0 414)) (bn 417 (bl 414 (y_getf 12 23 417)) (bl 417 (x_const 2147483650 418)))) (bn 422 (bn 420 (bl 418 (x_const 2147483756 420)) (bl 420 (x_const 2147483749 422))) (bn 424 (bl 422 (x_const 2147483745 424)) (bl 424 (x_const 2147483766 426))))) (bn 430 (bn 428 (bl 426 (x_const 2147483749 428)) (bn 429 (bl 428 (x_const 2147483648 429)) (bl 429 (x_const 2147483648 430)))) (bn 434 (bn 433 (bl 430 (y_inv 20 7 433)) (bl 433 (x_last 434))) (bn 435 (bl 434 (y_aload 0 435)) (bl 435 (y_getf 12 23 438)))))))))) (bn 630 (bn 534 (bn 484 (bn 459 (bn 448 (bn 443 (bn 439 (bl 438 (x_const 2147483651 439)) (bn 441 (bl 439 (x_const 2147483762 441)) (bl 441 (x_const 2147483745 443)))) (bn 445 (bl 443 (x_const 2147483758 445)) (bn 447 (bl 445 (x_const 2147483755 447)) (bl 447 (x_const 2147483648 448))))) (bn 453 (bn 449 (bl 448 (x_const 2147483648 449)) (bn 450 (bl 449 (x_const 2147483648 450)) (bl 450 (y_inv 20 7 453)))) (bn 455 (bn 454 (bl 453 (x_last 454)) (bl 454 (y_aload 0 455))) (bn 458 (bl 455 (y_getf 12 23 458)) (bl 458 (x_const 2147483652 459)))))) (bn 471 (bn 465 (bn 461 (bl 459 (x_const 2147483767 461)) (bn 463 (bl 461 (x_const 2147483749 463)) (bl 463 (x_const 2147483745 465)))) (bn 469 (bn 467 (bl 465 (x_const 2147483762 467)) (bl 467 (x_const 2147483763 469))) (bn 470 (bl 469 (x_const 2147483648 470)) (bl 470 (x_const 2147483648 471))))) (bn 476 (bn 474 (bl 471 (y_inv 20 7 474)) (bn 475 (bl 474 (x_last 475)) (bl 475 (y_aload 0 476)))) (bn 480 (bn 479 (bl 476 (y_getf 12 23 479)) (bl 479 (x_const 2147483653 480))) (bn 482 (bl 480 (x_const 2147483760 482)) (bl 482 (x_const 2147483745 484))))))) (bn 507 (bn 494 (bn 489 (bn 486 (bl 484 (x_const 2147483769 486)) (bn 488 (bl 486 (x_const 2147483763 488)) (bl 488 (x_const 2147483648 489)))) (bn 490 (bl 489 (x_const 2147483648 490)) (bn 491 (bl 490 (x_const 2147483648 491)) (bl 491 (y_inv 20 7 494))))) (bn 499 (bn 495 (bl 494 (x_last 495)) (bn 496 (bl 495 (y_aload 0 496)) (bl 496 (y_getf 12 23 499)))) (bn 503 (bn 501 (bl 499 (x_const 2147483654 501)) (bl 501 (x_const 2147483763 503))) (bn 505 (bl 503 (x_const 2147483760 505)) (bl 505 (x_const 2147483759 507)))))) (bn 519 (bn 513 (bn 509 (bl 507 (x_const 2147483753 509)) (bn 511 (bl 509 (x_const 2147483756 511)) (bl 511 (x_const 2147483763 513)))) (bn 517 (bn 514 (bl 513 (x_const 2147483648 514)) (bl 514 (y_inv 20 7 517))) (bn 518 (bl 517 (x_last 518)) (bl 518 (y_aload 0 519))))) (bn 526 (bn 522 (bl 519 (y_getf 12 23 522)) (bn 524 (bl 522 (x_const 2147483655 524)) (bl 524 (x_const 2147483764 526)))) (bn 530 (bn 528 (bl 526 (x_const 2147483752 528)) (bl 528 (x_const 2147483753 530))) (bn 532 (bl 530 (x_const 2147483749 532)) (bl 532 (x_const 2147483766 534)))))))) (bn 581 (bn 558 (bn 546 (bn 541 (bn 536 (bl 534 (x_const 2147483749 536)) (bn 538 (bl 536 (x_const 2147483763 538)) (bl 538 (y_inv 20 7 541)))) (bn 542 (bl 541 (x_last 542)) (bn 543 (bl 542 (y_aload 0 543)) (bl 543 (y_getf 12 23 546))))) (bn 552 (bn 548 (bl 546 (x_const 2147483656 548)) (bn 550 (bl 548 (x_const 2147483763 550)) (bl 550 (x_const 2147483749 552)))) (bn 556 (bn 554 (bl 552 (x_const 2147483749 554)) (bl 554 (x_const 2147483748 556))) (bn 557 (bl 556 (x_const 2147483648 557)) (bl 557 (x_const 2147483648 558)))))) (bn 571 (bn 563 (bn 559 (bl 558 (x_const 2147483648 559)) (bn 562 (bl 559 (y_inv 20 7 562)) (bl 562 (x_last 563)))) (bn 567 (bn 564 (bl 563 (y_aload 0 564)) (bl 564 (y_getf 12 23 567))) (bn 569 (bl 567 (x_const 2147483657 569)) (bl 569 (x_const 2147483753 571))))) (bn 575 (bn 573 (bl 571 (x_const 2147483750 573)) (bn 574 (bl 573 (x_const 2147483648 574)) (bl 574 (x_const 2147483648 575)))) (bn 577 (bn 576 (bl 575 (x_const 2147483648 576)) (bl 576 (x_const 2147483648 577))) (bn 578 (bl 577 (x_const 2147483648 578)) (bl 578 (y_inv 20 7 581))))))) (bn 604 (bn 594 (bn 586 (bn 582 (bl 581 (x_last 582)) (bn 583 (bl 582 (y_aload 0 583)) (bl 583 (y_getf 12 23 586)))) (bn 590 (bn 588 (bl 586 (x_const 2147483658 588)) (bl 588 (x_const 2147483764 590))) (bn 592 (bl 590 (x_const 2147483752 592)) (bl 592 (x_const 2147483749 594))))) (bn 598 (bn 596 (bl 594 (x_const 2147483758 596)) (bn 597 (bl 596 (x_const 2147483648 597)) (bl 597 (x_const 2147483648 598)))) (bn 602 (bn 599 (bl 598 (x_const 2147483648 599)) (bl 599 (y_inv 20 7 602))) (bn 603 (bl 602 (x_last 603)) (bl 603 (y_aload 0 604)))))) (bn 618 (bn 611 (bn 607 (bl 604 (y_getf 12 23 607)) (bn 609 (bl 607 (x_const 2147483659 609)) (bl 609 (x_const 2147483749 611)))) (bn 615 (bn 613 (bl 611 (x_const 2147483756 613)) (bl 613 (x_const 2147483763 615))) (bn 617 (bl 615 (x_const 2147483749 617)) (bl 617 (x_const 2147483648 618))))) (bn 623 (bn 619 (bl 618 (x_const 2147483648 619)) (bn 620 (bl 619 (x_const 2147483648 620)) (bl 620 (y_inv 20 7 623)))) (bn 625 (bn 624 (bl 623 (x_last 624)) (bl 624 (y_aload 0 625))) (bn 628 (bl 625 (y_getf 12 23 628)) (bl 628 (x_const 2147483660 630))))))))) (bn 722 (bn 678 (bn 654 (bn 641 (bn 636 (bn 632 (bl 630 (x_const 2147483766 632)) (bn 634 (bl 632 (x_const 2147483745 634)) (bl 634 (x_const 2147483756 636)))) (bn 638 (bl 636 (x_const 2147483765 638)) (bn 640 (bl 638 (x_const 2147483749 640)) (bl 640 (x_const 2147483648 641))))) (bn 646 (bn 642 (bl 641 (x_const 2147483648 642)) (bn 645 (bl 642 (y_inv 20 7 645)) (bl 645 (x_last 646)))) (bn 650 (bn 647 (bl 646 (y_aload 0 647)) (bl 647 (y_getf 12 23 650))) (bn 652 (bl 650 (x_const 2147483661 652)) (bl 652 (x_const 2147483748 654)))))) (bn 665 (bn 659 (bn 656 (bl 654 (x_const 2147483765 656)) (bn 658 (bl 656 (x_const 2147483749 658)) (bl 658 (x_const 2147483648 659)))) (bn 661 (bn 660 (bl 659 (x_const 2147483648 660)) (bl 660 (x_const 2147483648 661))) (bn 662 (bl 661 (x_const 2147483648 662)) (bl 662 (y_inv 20 7 665))))) (bn 670 (bn 666 (bl 665 (x_last 666)) (bn 667 (bl 666 (y_aload 0 667)) (bl 667 (y_getf 12 23 670)))) (bn 674 (bn 672 (bl 670 (x_const 2147483662 672)) (bl 672 (x_const 2147483748 674))) (bn 676 (bl 674 (x_const 2147483745 676)) (bl 676 (x_const 2147483769 678))))))) (bn 700 (bn 686 (bn 681 (bn 679 (bl 678 (x_const 2147483648 679)) (bn 680 (bl 679 (x_const 2147483648 680)) (bl 680 (x_const 2147483648 681)))) (bn 682 (bl 681 (x_const 2147483648 682)) (bn 685 (bl 682 (y_inv 20 7 685)) (bl 685 (x_last 686))))) (bn 692 (bn 687 (bl 686 (y_aload 0 687)) (bn 690 (bl 687 (y_getf 12 23 690)) (bl 690 (x_const 2147483663 692)))) (bn 696 (bn 694 (bl 692 (x_const 2147483767 694)) (bl 694 (x_const 2147483759 696))) (bn 698 (bl 696 (x_const 2147483762 698)) (bl 698 (x_const 2147483758 700)))))) (bn 711 (bn 703 (bn 701 (bl 700 (x_const 2147483648 701)) (bn 702 (bl 701 (x_const 2147483648 702)) (bl 702 (x_const 2147483648 703)))) (bn 707 (bn 706 (bl 703 (y_inv 20 7 706)) (bl 706 (x_last 707))) (bn 708 (bl 707 (y_aload 0 708)) (bl 708 (y_getf 12 23 711))))) (bn 717 (bn 713 (bl 711 (x_const 2147483664 713)) (bn 715 (bl 713 (x_const 2147483752 715)) (bl 715 (x_const 2147483745 717)))) (bn 720 (bn 719 (bl 717 (x_const 2147483763 719)) (bl 719 (x_const 2147483648 720))) (bn 721 (bl 720 (x_const 2147483648 721)) (bl 721 (x_const 2147483648 722)))))))) (bn 772 (bn 745 (bn 733 (bn 727 (bn 723 (bl 722 (x_const 2147483648 723)) (bn 726 (bl 723 (y_inv 20 7 726)) (bl 726 (x_last 727)))) (bn 728 (bl 727 (y_aload 0 728)) (bn 731 (bl 728 (y_getf 12 23 731)) (bl 731 (x_const 2147483665 733))))) (bn 739 (bn 735 (bl 733 (x_const 2147483767 735)) (bn 737 (bl 735 (x_const 2147483752 737)) (bl 737 (x_const 2147483753 739)))) (bn 743 (bn 741 (bl 739 (x_const 2147483747 741)) (bl 741 (x_const 2147483752 743))) (bn 744 (bl 743 (x_const 2147483648 744)) (bl 744 (x_const 2147483648 745)))))) (bn 759 (bn 750 (bn 748 (bl 745 (y_inv 20 7 748)) (bn 749 (bl 748 (x_last 749)) (bl 749 (y_aload 0 750)))) (bn 755 (bn 753 (bl 750 (y_getf 12 23 753)) (bl 753 (x_const 2147483666 755))) (bn 757 (bl 755 (x_const 2147483756 757)) (bl 757 (x_const 2147483749 759))))) (bn 765 (bn 761 (bl 759 (x_const 2147483764 761)) (bn 763 (bl 761 (x_const 2147483764 763)) (bl 763 (x_const 2147483749 765)))) (bn 768 (bn 767 (bl 765 (x_const 2147483762 767)) (bl 767 (x_const 2147483648 768))) (bn 771 (bl 768 (y_inv 20 7 771)) (bl 771 (x_last 772))))))) (bn 797 (bn 786 (bn 778 (bn 773 (bl 772 (y_aload 0 773)) (bn 776 (bl 773 (y_getf 12 23 776)) (bl 776 (x_const 2147483667 778)))) (bn 782 (bn 780 (bl 778 (x_const 2147483756 780)) (bl 780 (x_const 2147483759 782))) (bn 784 (bl 782 (x_const 2147483758 784)) (bl 784 (x_const 2147483751 786))))) (bn 789 (bn 787 (bl 786 (x_const 2147483648 787)) (bn 788 (bl 787 (x_const 2147483648 788)) (bl 788 (x_const 2147483648 789)))) (bn 793 (bn 792 (bl 789 (y_inv 20 7 792)) (bl 792 (x_last 793))) (bn 794 (bl 793 (y_aload 0 794)) (bl 794 (y_getf 12 23 797)))))) (bn 809 (bn 803 (bn 799 (bl 797 (x_const 2147483668 799)) (bn 801 (bl 799 (x_const 2147483756 801)) (bl 801 (x_const 2147483749 803)))) (bn 807 (bn 805 (bl 803 (x_const 2147483758 805)) (bl 805 (x_const 2147483764 807))) (bn 808 (bl 807 (x_const 2147483648 808)) (bl 808 (x_const 2147483648 809))))) (bn 814 (bn 810 (bl 809 (x_const 2147483648 810)) (bn 813 (bl 810 (y_inv 20 7 813)) (bl 813 (x_last 814)))) (bn 818 (bn 815 (bl 814 (y_aload 0 815)) (bl 815 (y_invV 12 17 1 818))) (bn 819 (bl 818 (y_aload 0 819)) (bl 819 (y_invV 12 18 1 822))))))))))
set_option maxRecDepth 100000 in
set_option maxHeartbeats 4000000 in
theorem T_15_ok (G : State → Nat → Nat → Prop) : xTree PX G prog_14_method_2_code "CapitalCaseModel" true T_15 := (xT_n (xT_n (xT_n (xT_n (xT_n (xT_n (xT_n (xT_n (xT_l (yS (y_aload_eq _ _) (s_aload_n d15_0))) (xT_n (xT_l (s_obj d15_1 wd_1262 wd_139 wd_obj)) (xT_l (yS (y_aload_eq _ _) (s_aload_n d15_4))))) (xT_n (xT_l (s_sipush d15_5 (by decide +kernel))) (xT_n (xT_l (s_newa (ty := .byte) d15_8 rfl rfl wd_252 (by decide) (fun _ _ => rfl) (Or.inl ⟨by decide, rfl⟩))) (xT_l (yS (y_putf_eq _ _ _ _) (s_putF (T := TX12) (N := 70) (ty := tyX12) d15_10 rfl inX12 tyX12_ok nmX12 (by decide) wd_1282 (Or.inr (Or.inr ⟨rfl, Or.inr ⟨_, rfl⟩⟩)) rfl rfl rfl)))))) (xT_n (xT_n (xT_l (yS (y_aload_eq _ _) (s_aload_n d15_13))) (xT_n (xT_l (s_sipush d15_14 (by decide +kernel))) (xT_l (s_newa (ty := .byte) d15_17 rfl rfl wd_252 (by decide) (fun _ _ => rfl) (Or.inl ⟨by decide, rfl⟩))))) (xT_n (xT_n (xT_l (yS (y_putf_eq _ _ _ _) (s_putF (T := TX12) (N := 70) (ty := tyX12) d15_19 rfl inX12 tyX12_ok nmX12 (by decide) wd_1284 (Or.inr (Or.inr ⟨rfl, Or.inr ⟨_, rfl⟩⟩)) rfl rfl rfl))) (xT_l (yS (y_aload_eq _ _) (s_aload_n d15_22)))) (xT_n (xT_l (s_sipush d15_23 (by decide +kernel))) (xT_l (s_newa (ty := .int) d15_26 rfl rfl wd_253 (by decide) (fun _ _ => rfl) (Or.inl ⟨by decide, rfl⟩))))))) (xT_n (xT_n (xT_n (xT_l (yS (y_putf_eq _ _ _ _) (s_putF (T := TX12) (N := 70) (ty := tyX12) d15_28 rfl inX12 tyX12_ok nmX12 (by decide) wd_1286 (Or.inr (Or.inr ⟨rfl, Or.inr ⟨_, rfl⟩⟩)) rfl rfl rfl))) (xT_n (xT_l (yS (y_aload_eq _ _) (s_aload_n d15_31))) (xT_l (s_sipush d15_32 (by decide +kernel))))) (xT_n (xT_n (xT_l (s_newa (ty := .int) d15_35 rfl rfl wd_253 (by decide) (fun _ _ => rfl) (Or.inl ⟨by decide, rfl⟩))) (xT_l (yS (y_putf_eq _ _ _ _) (s_putF (T := TX12) (N := 70) (ty := tyX12) d15_37 rfl inX12 tyX12_ok nmX12 (by decide) wd_1287 (Or.inr (Or.inr ⟨rfl, Or.inr ⟨_, rfl⟩⟩)) rfl rfl rfl)))) (xT_n (xT_l (yS (y_aload_eq _ _) (s_aload_n d15_40))) (xT_l (s_sipush d15_41 (by decide +kernel)))))) (xT_n (xT_n (xT_l (s_newa (ty := .int) d15_44 rfl rfl wd_253 (by decide) (fun _ _ => rfl) (Or.inl ⟨by decide, rfl⟩))) (xT_n (xT_l (yS (y_putf_eq _ _ _ _) (s_putF (T := TX12) (N := 70) (ty := tyX12) d15_46 rfl inX12 tyX12_ok nmX12 (by decide) wd_1288 (Or.inr (Or.inr ⟨rfl, Or.inr ⟨_, rfl⟩⟩)) rfl rfl rfl))) (xT_l (yS (y_aload_eq _ _) (s_aload_n d15_49))))) (xT_n (xT_n (xT_l (s_sipush d15_50 (by decide +kernel))) (xT_l (s_newa (ty := .long) d15_53 rfl rfl wd_1492 (by decide) (fun _ _ => rfl) (Or.inr ⟨by decide, rfl⟩)))) (xT_n (xT_l (yS (y_putf_eq _ _ _ _) (s_putF (T := TX12) (N := 70) (ty := tyX12) d15_55 rfl inX12 tyX12_ok nmX12 (by decide) wd_1289 (Or.inr (Or.inr ⟨rfl, Or.inr ⟨_, rfl⟩⟩)) rfl rfl rfl))) (xT_l (yS (y_aload_eq _ _) (s_aload_n d15_58)))))))) (xT_n (xT_n (xT_n (xT_n (xT_l (s_bipush d15_59 (by decide +kernel))) (xT_n (xT_l (s_newa (ty := .long) d15_61 rfl rfl wd_1492 (by decide) (fun _ _ => rfl) (Or.inr ⟨by decide, rfl⟩))) (xT_l (yS (y_putf_eq _ _ _ _) (s_putF (T := TX12) (N := 70) (ty := tyX12) d15_63 rfl inX12 tyX12_ok nmX12 (by decide) wd_1290 (Or.inr (Or.inr ⟨rfl, Or.inr ⟨_, rfl⟩⟩)) rfl rfl rfl))))) (xT_n (xT_l (yS (y_aload_eq _ _) (s_aload_n d15_66))) (xT_n (xT_l (s_iconst d15_67 (by decide +kernel))) (xT_l (yS (y_putf_eq _ _ _ _) (s_putf (T := TX12) (N := 70) (ty := tyX12) d15_68 rfl inX12 tyX12_ok nmX12 (by decide) wd_1298 (Or.inl ⟨rfl, rfl⟩) rfl)))))) (xT_n (xT_n (xT_l (yS (y_aload_eq _ _) (s_aload_n d15_71))) (xT_n (xT_l (s_bipush d15_72 (by decide +kernel))) (xT_l (s_newa (ty := .long) d15_74 rfl rfl wd_1492 (by decide) (fun _ _ => rfl) (Or.inr ⟨by decide, rfl⟩))))) (xT_n (xT_n (xT_l (yS (y_putf_eq _ _ _ _) (s_putF (T := TX12) (N := 70) (ty := tyX12) d15_76 rfl inX12 tyX12_ok nmX12 (by decide) wd_1302 (Or.inr (Or.inr ⟨rfl, Or.inr ⟨_, rfl⟩⟩)) rfl rfl rfl))) (xT_l (yS (y_aload_eq _ _) (s_aload_n d15_79)))) (xT_n (xT_l (s_iconst d15_80 (by decide +kernel))) (xT_l (s_newa (ty := .int) d15_81 rfl rfl wd_253 (by decide) (fun _ _ => rfl) (Or.inl ⟨by decide, rfl⟩))))))) (xT_n (xT_n (xT_n (xT_l (yS (y_putf_eq _ _ _ _) (s_putF (T := TX12) (N := 70) (ty := tyX12) d15_83 rfl inX12 tyX12_ok nmX12 (by decide) wd_1303 (Or.inr (Or.inr ⟨rfl, Or.inr ⟨_, rfl⟩⟩)) rfl rfl rfl))) (xT_n (xT_l (yS (y_aload_eq _ _) (s_aload_n d15_86))) (xT_l (s_bipush d15_87 (by decide +kernel))))) (xT_n (xT_n (xT_l (s_newa (ty := .int) d15_89 rfl rfl wd_253 (by decide) (fun _ _ => rfl) (Or.inl ⟨by decide, rfl⟩))) (xT_l (yS (y_putf_eq _ _ _ _) (s_putF (T := TX12) (N := 70) (ty := tyX12) d15_91 rfl inX12 tyX12_ok nmX12 (by decide) wd_1304 (Or.inr (Or.inr ⟨rfl, Or.inr ⟨_, rfl⟩⟩)) rfl rfl rfl)))) (xT_n (xT_l (yS (y_aload_eq _ _) (s_aload_n d15_94))) (xT_l (s_iconst d15_95 (by decide +kernel)))))) (xT_n (xT_n (xT_l (s_newa (ty := .int) d15_96 rfl rfl wd_253 (by decide) (fun _ _ => rfl) (Or.inl ⟨by decide, rfl⟩))) (xT_n (xT_l (yS (y_putf_eq _ _ _ _) (s_putF (T := TX12) (N := 70) (ty := tyX12) d15_98 rfl inX12 tyX12_ok nmX12 (by decide) wd_1305 (Or.inr (Or.inr ⟨rfl, Or.inr ⟨_, rfl⟩⟩)) rfl rfl rfl))) (xT_l (yS (y_aload_eq _ _) (s_aload_n d15_101))))) (xT_n (xT_n (xT_l (s_bipush d15_102 (by decide +kernel))) (xT_l (s_newa (ty := .int) d15_104 rfl rfl wd_253 (by decide) (fun _ _ => rfl) (Or.inl ⟨by decide, rfl⟩)))) (xT_n (xT_l (yS (y_putf_eq _ _ _ _) (s_putF (T := TX12) (N := 70) (ty := tyX12) d15_106 rfl inX12 tyX12_ok nmX12 (by decide) wd_1306 (Or.inr (Or.inr ⟨rfl, Or.inr ⟨_, rfl⟩⟩)) rfl rfl rfl))) (xT_l (yS (y_aload_eq _ _) (s_aload_n d15_109))))))))) (xT_n (xT_n (xT_n (xT_n (xT_n (xT_l (s_bipush d15_110 (by decide +kernel))) (xT_n (xT_l (s_newa (ty := .int) d15_112 rfl rfl wd_253 (by decide) (fun _ _ => rfl) (Or.inl ⟨by decide, rfl⟩))) (xT_l (yS (y_putf_eq _ _ _ _) (s_putF (T := TX12) (N := 70) (ty := tyX12) d15_114 rfl inX12 tyX12_ok nmX12 (by decide) wd_1307 (Or.inr (Or.inr ⟨rfl, Or.inr ⟨_, rfl⟩⟩)) rfl rfl rfl))))) (xT_n (xT_l (yS (y_aload_eq _ _) (s_aload_n d15_117))) (xT_n (xT_l (s_bipush d15_118 (by decide +kernel))) (xT_l (s_newa (ty := .int) d15_120 rfl rfl wd_253 (by decide) (fun _ _ => rfl) (Or.inl ⟨by decide, rfl⟩)))))) (xT_n (xT_n (xT_l (yS (y_putf_eq _ _ _ _) (s_putF (T := TX12) (N := 70) (ty := tyX12) d15_122 rfl inX12 tyX12_ok nmX12 (by decide) wd_1308 (Or.inr (Or.inr ⟨rfl, Or.inr ⟨_, rfl⟩⟩)) rfl rfl rfl))) (xT_n (xT_l (yS (y_aload_eq _ _) (s_aload_n d15_125))) (xT_l (s_bipush d15_126 (by decide +kernel))))) (xT_n (xT_n (xT_l (s_newa (ty := .int) d15_128 rfl rfl wd_253 (by decide) (fun _ _ => rfl) (Or.inl ⟨by decide, rfl⟩))) (xT_l (yS (y_putf_eq _ _ _ _) (s_putF (T := TX12) (N := 70) (ty := tyX12) d15_130 rfl inX12 tyX12_ok nmX12 (by decide) wd_1309 (Or.inr (Or.inr ⟨rfl, Or.inr ⟨_, rfl⟩⟩)) rfl rfl rfl)))) (xT_n (xT_l (yS (y_aload_eq _ _) (s_aload_n d15_133))) (xT_l (s_iconst d15_134 (by decide +kernel))))))) (xT_n (xT_n (xT_n (xT_l (s_newa (ty := .int) d15_135 rfl rfl wd_253 (by decide) (fun _ _ => rfl) (Or.inl ⟨by decide, rfl⟩))) (xT_n (xT_l (yS (y_putf_eq _ _ _ _) (s_putF (T := TX12) (N := 70) (ty := tyX12) d15_137 rfl inX12 tyX12_ok nmX12 (by decide) wd_1310 (Or.inr (Or.inr ⟨rfl, Or.inr ⟨_, rfl⟩⟩)) rfl rfl rfl))) (xT_l (yS (y_aload_eq _ _) (s_aload_n d15_140))))) (xT_n (xT_n (xT_l (s_iconst d15_141 (by decide +kernel))) (xT_l (s_newa (ty := .int) d15_142 rfl rfl wd_253 (by decide) (fun _ _ => rfl) (Or.inl ⟨by decide, rfl⟩)))) (xT_n (xT_l (yS (y_putf_eq _ _ _ _) (s_putF (T := TX12) (N := 70) (ty := tyX12) d15_144 rfl inX12 tyX12_ok nmX12 (by decide) wd_1311 (Or.inr (Or.inr ⟨rfl, Or.inr ⟨_, rfl⟩⟩)) rfl rfl rfl))) (xT_l (yS (y_aload_eq _ _) (s_aload_n d15_147)))))) (xT_n (xT_n (xT_l (s_iconst d15_148 (by decide +kernel))) (xT_n (xT_l (s_newa (ty := .int) d15_149 rfl rfl wd_253 (by decide) (fun _ _ => rfl) (Or.inl ⟨by decide, rfl⟩))) (xT_l (yS (y_putf_eq _ _ _ _) (s_putF (T := TX12) (N := 70) (ty := tyX12) d15_151 rfl inX12 tyX12_ok nmX12 (by decide) wd_1312 (Or.inr (Or.inr ⟨rfl, Or.inr ⟨_, rfl⟩⟩)) rfl rfl rfl))))) (xT_n (xT_n (xT_l (yS (y_aload_eq _ _) (s_aload_n d15_154))) (xT_l (s_bipush d15_155 (by decide +kernel)))) (xT_n (xT_l (s_newa (ty := .int) d15_157 rfl rfl wd_253 (by decide) (fun _ _ => rfl) (Or.inl ⟨by decide, rfl⟩))) (xT_l (yS (y_putf_eq _ _ _ _) (s_putF (T := TX12) (N := 70) (ty := tyX12) d15_159 rfl inX12 tyX12_ok nmX12 (by decide) wd_1313 (Or.inr (Or.inr ⟨rfl, Or.inr ⟨_, rfl⟩⟩)) rfl rfl rfl)))))))) (xT_n (xT_n (xT_n (xT_n (xT_l (yS (y_aload_eq _ _) (s_aload_n d15_162))) (xT_n (xT_l (s_bipush d15_163 (by decide +kernel))) (xT_l (s_newa (ty := .int) d15_165 rfl rfl wd_253 (by decide) (fun _ _ => rfl) (Or.inl ⟨by decide, rfl⟩))))) (xT_n (xT_n (xT_l (yS (y_putf_eq _ _ _ _) (s_putF (T := TX12) (N := 70) (ty := tyX12) d15_167 rfl inX12 tyX12_ok nmX12 (by decide) wd_1314 (Or.inr (Or.inr ⟨rfl, Or.inr ⟨_, rfl⟩⟩)) rfl rfl rfl))) (xT_l (yS (y_aload_eq _ _) (s_aload_n d15_170)))) (xT_n (xT_l (s_sipush d15_171 (by decide +kernel))) (xT_l (s_newa (ty := .boolean) d15_174 rfl rfl wd_415 (by decide) (fun _ _ => rfl) (Or.inl ⟨by decide, rfl⟩)))))) (xT_n (xT_n (xT_l (yS (y_putf_eq _ _ _ _) (s_putF (T := TX12) (N := 70) (ty := tyX12) d15_176 rfl inX12 tyX12_ok nmX12 (by decide) wd_1316 (Or.inr (Or.inr ⟨rfl, Or.inr ⟨_, rfl⟩⟩)) rfl rfl rfl))) (xT_n (xT_l (yS (y_aload_eq _ _) (s_aload_n d15_179))) (xT_l (s_sipush d15_180 (by decide +kernel))))) (xT_n (xT_n (xT_l (s_newa (ty := .int) d15_183 rfl rfl wd_253 (by decide) (fun _ _ => rfl) (Or.inl ⟨by decide, rfl⟩))) (xT_l (yS (y_putf_eq _ _ _ _) (s_putF (T := TX12) (N := 70) (ty := tyX12) d15_185 rfl inX12 tyX12_ok nmX12 (by decide) wd_1317 (Or.inr (Or.inr ⟨rfl, Or.inr ⟨_, rfl⟩⟩)) rfl rfl rfl)))) (xT_n (xT_l (yS (y_aload_eq _ _) (s_aload_n d15_188))) (xT_l (s_sipush d15_189 (by decide +kernel))))))) (xT_n (xT_n (xT_n (xT_l (s_newa (ty := .int) d15_192 rfl rfl wd_253 (by decide) (fun _ _ => rfl) (Or.inl ⟨by decide, rfl⟩))) (xT_n (xT_l (yS (y_putf_eq _ _ _ _) (s_putF (T := TX12) (N := 70) (ty := tyX12) d15_194 rfl inX12 tyX12_ok nmX12 (by decide) wd_1318 (Or.inr (Or.inr ⟨rfl, Or.inr ⟨_, rfl⟩⟩)) rfl rfl rfl))) (xT_l (yS (y_aload_eq _ _) (s_aload_n d15_197))))) (xT_n (xT_n (xT_l (s_sipush d15_198 (by decide +kernel))) (xT_l (s_newa (ty := .int) d15_201 rfl rfl wd_253 (by decide) (fun _ _ => rfl) (Or.inl ⟨by decide, rfl⟩)))) (xT_n (xT_l (yS (y_putf_eq _ _ _ _) (s_putF (T := TX12) (N := 70) (ty := tyX12) d15_203 rfl inX12 tyX12_ok nmX12 (by decide) wd_1319 (Or.inr (Or.inr ⟨rfl, Or.inr ⟨_, rfl⟩⟩)) rfl rfl rfl))) (xT_l (yS (y_aload_eq _ _) (s_aload_n d15_206)))))) (xT_n (xT_n (xT_l (s_sipush d15_207 (by decide +kernel))) (xT_n (xT_l (s_newa (ty := .int) d15_210 rfl rfl wd_253 (by decide) (fun _ _ => rfl) (Or.inl ⟨by decide, rfl⟩))) (xT_l (yS (y_putf_eq _ _ _ _) (s_putF (T := TX12) (N := 70) (ty := tyX12) d15_212 rfl inX12 tyX12_ok nmX12 (by decide) wd_1320 (Or.inr (Or.inr ⟨rfl, Or.inr ⟨_, rfl⟩⟩)) rfl rfl rfl))))) (xT_n (xT_n (xT_l (yS (y_aload_eq _ _) (s_aload_n d15_215))) (xT_l (s_sipush d15_216 (by decide +kernel)))) (xT_n (xT_l (s_newa (ty := .int) d15_219 rfl rfl wd_253 (by decide) (fun _ _ => rfl) (Or.inl ⟨by decide, rfl⟩))) (xT_l (yS (y_putf_eq _ _ _ _) (s_putF (T := TX12) (N := 70) (ty := tyX12) d15_221 rfl inX12 tyX12_ok nmX12 (by decide) wd_1322 (Or.inr (Or.inr ⟨rfl, Or.inr ⟨_, rfl⟩⟩)) rfl rfl rfl)))))))))) (xT_n (xT_n (xT_n (xT_n (xT_n (xT_n (xT_l (yS (y_aload_eq _ _) (s_aload_n d15_224))) (xT_n (xT_l (s_sipush d15_225 (by decide +kernel))) (xT_l (s_newa (ty := .int) d15_228 rfl rfl wd_253 (by decide) (fun _ _ => rfl) (Or.inl ⟨by decide, rfl⟩))))) (xT_n (xT_l (yS (y_putf_eq _ _ _ _) (s_putF (T := TX12) (N := 70) (ty := tyX12) d15_230 rfl inX12 tyX12_ok nmX12 (by decide) wd_1323 (Or.inr (Or.inr ⟨rfl, Or.inr ⟨_, rfl⟩⟩)) rfl rfl rfl))) (xT_n (xT_l (yS (y_aload_eq _ _) (s_aload_n d15_233))) (xT_l (s_bipush d15_234 (by decide +kernel)))))) (xT_n (xT_n (xT_l (s_newa (ty := .int) d15_236 rfl rfl wd_253 (by decide) (fun _ _ => rfl) (Or.inl ⟨by decide, rfl⟩))) (xT_n (xT_l (yS (y_putf_eq _ _ _ _) (s_putF (T := TX12) (N := 70) (ty := tyX12) d15_238 rfl inX12 tyX12_ok nmX12 (by decide) wd_1324 (Or.inr (Or.inr ⟨rfl, Or.inr ⟨_, rfl⟩⟩)) rfl rfl rfl))) (xT_l (yS (y_aload_eq _ _) (s_aload_n d15_241))))) (xT_n (xT_n (xT_l (s_bipush d15_242 (by decide +kernel))) (xT_l (s_newa (ty := .int) d15_244 rfl rfl wd_253 (by decide) (fun _ _ => rfl) (Or.inl ⟨by decide, rfl⟩)))) (xT_n (xT_l (yS (y_putf_eq _ _ _ _) (s_putF (T := TX12) (N := 70) (ty := tyX12) d15_246 rfl inX12 tyX12_ok nmX12 (by decide) wd_1326 (Or.inr (Or.inr ⟨rfl, Or.inr ⟨_, rfl⟩⟩)) rfl rfl rfl))) (xT_l (yS (y_aload_eq _ _) (s_aload_n d15_249))))))) (xT_n (xT_n (xT_n (xT_l (s_bipush d15_250 (by decide +kernel))) (xT_n (xT_l (s_newa (ty := .int) d15_252 rfl rfl wd_253 (by decide) (fun _ _ => rfl) (Or.inl ⟨by decide, rfl⟩))) (xT_l (yS (y_putf_eq _ _ _ _) (s_putF (T := TX12) (N := 70) (ty := tyX12) d15_254 rfl inX12 tyX12_ok nmX12 (by decide) wd_1328 (Or.inr (Or.inr ⟨rfl, Or.inr ⟨_, rfl⟩⟩)) rfl rfl rfl))))) (xT_n (xT_n (xT_l (yS (y_aload_eq _ _) (s_aload_n d15_257))) (xT_l (s_sipush d15_258 (by decide +kernel)))) (xT_n (xT_l (s_newa (ty := .int) d15_261 rfl rfl wd_253 (by decide) (fun _ _ => rfl) (Or.inl ⟨by decide, rfl⟩))) (xT_l (yS (y_putf_eq _ _ _ _) (s_putF (T := TX12) (N := 70) (ty := tyX12) d15_263 rfl inX12 tyX12_ok nmX12 (by decide) wd_1329 (Or.inr (Or.inr ⟨rfl, Or.inr ⟨_, rfl⟩⟩)) rfl rfl rfl)))))) (xT_n (xT_n (xT_l (yS (y_aload_eq _ _) (s_aload_n d15_266))) (xT_n (xT_l (s_sipush d15_267 (by decide +kernel))) (xT_l (s_newa (ty := .int) d15_270 rfl rfl wd_253 (by decide) (fun _ _ => rfl) (Or.inl ⟨by decide, rfl⟩))))) (xT_n (xT_n (xT_l (yS (y_putf_eq _ _ _ _) (s_putF (T := TX12) (N := 70) (ty := tyX12) d15_272 rfl inX12 tyX12_ok nmX12 (by decide) wd_1331 (Or.inr (Or.inr ⟨rfl, Or.inr ⟨_, rfl⟩⟩)) rfl rfl rfl))) (xT_l (yS (y_aload_eq _ _) (s_aload_n d15_275)))) (xT_n (xT_l (s_sipush d15_276 (by decide +kernel))) (xT_l (s_newa (ty := .int) d15_279 rfl rfl wd_253 (by decide) (fun _ _ => rfl) (Or.inl ⟨by decide, rfl⟩)))))))) (xT_n (xT_n (xT_n (xT_n (xT_l (yS (y_putf_eq _ _ _ _) (s_putF (T := TX12) (N := 70) (ty := tyX12) d15_281 rfl inX12 tyX12_ok nmX12 (by decide) wd_1332 (Or.inr (Or.inr ⟨rfl, Or.inr ⟨_, rfl⟩⟩)) rfl rfl rfl))) (xT_n (xT_l (yS (y_aload_eq _ _) (s_aload_n d15_284))) (xT_l (s_bipush d15_285 (by decide +kernel))))) (xT_n (xT_l (s_newa (ty := .boolean) d15_287 rfl rfl wd_415 (by decide) (fun _ _ => rfl) (Or.inl ⟨by decide, rfl⟩))) (xT_n (xT_l (yS (y_putf_eq _ _ _ _) (s_putF (T := TX12) (N := 70) (ty := tyX12) d15_289 rfl inX12 tyX12_ok nmX12 (by decide) wd_1337 (Or.inr (Or.inr ⟨rfl, Or.inr ⟨_, rfl⟩⟩)) rfl rfl rfl))) (xT_l (yS (y_aload_eq _ _) (s_aload_n d15_292)))))) (xT_n (xT_n (xT_l (s_bipush d15_293 (by decide +kernel))) (xT_n (xT_l (s_newa (ty := .int) d15_295 rfl rfl wd_253 (by decide) (fun _ _ => rfl) (Or.inl ⟨by decide, rfl⟩))) (xT_l (yS (y_putf_eq _ _ _ _) (s_putF (T := TX12) (N := 70) (ty := tyX12) d15_297 rfl inX12 tyX12_ok nmX12 (by decide) wd_1338 (Or.inr (Or.inr ⟨rfl, Or.inr ⟨_, rfl⟩⟩)) rfl rfl rfl))))) (xT_n (xT_n (xT_l (yS (y_aload_eq _ _) (s_aload_n d15_300))) (xT_l (s_bipush d15_301 (by decide +kernel)))) (xT_n (xT_l (s_newa (ty := .int) d15_303 rfl rfl wd_253 (by decide) (fun _ _ => rfl) (Or.inl ⟨by decide, rfl⟩))) (xT_l (yS (y_putf_eq _ _ _ _) (s_putF (T := TX12) (N := 70) (ty := tyX12) d15_305 rfl inX12 tyX12_ok nmX12 (by decide) wd_1339 (Or.inr (Or.inr ⟨rfl, Or.inr ⟨_, rfl⟩⟩)) rfl rfl rfl))))))) (xT_n (xT_n (xT_n (xT_l (yS (y_aload_eq _ _) (s_aload_n d15_308))) (xT_n (xT_l (s_sipush d15_309 (by decide +kernel))) (xT_l (s_newa (ty := .int) d15_312 rfl rfl wd_253 (by decide) (fun _ _ => rfl) (Or.inl ⟨by decide, rfl⟩))))) (xT_n (xT_n (xT_l (yS (y_putf_eq _ _ _ _) (s_putF (T := TX12) (N := 70) (ty := tyX12) d15_314 rfl inX12 tyX12_ok nmX12 (by decide) wd_1341 (Or.inr (Or.inr ⟨rfl, Or.inr ⟨_, rfl⟩⟩)) rfl rfl rfl))) (xT_l (yS (y_aload_eq _ _) (s_aload_n d15_317)))) (xT_n (xT_l (s_sipush d15_318 (by decide +kernel))) (xT_l (s_newa (ty := .int) d15_321 rfl rfl wd_253 (by decide) (fun _ _ => rfl) (Or.inl ⟨by decide, rfl⟩)))))) (xT_n (xT_n (xT_l (yS (y_putf_eq _ _ _ _) (s_putF (T := TX12) (N := 70) (ty := tyX12) d15_323 rfl inX12 tyX12_ok nmX12 (by decide) wd_1342 (Or.inr (Or.inr ⟨rfl, Or.inr ⟨_, rfl⟩⟩)) rfl rfl rfl))) (xT_n (xT_l (yS (y_aload_eq _ _) (s_aload_n d15_326))) (xT_l (s_bipush d15_327 (by decide +kernel))))) (xT_n (xT_n (xT_l (s_newa (ty := .int) d15_329 rfl rfl wd_253 (by decide) (fun _ _ => rfl) (Or.inl ⟨by decide, rfl⟩))) (xT_l (yS (y_putf_eq _ _ _ _) (s_putF (T := TX12) (N := 70) (ty := tyX12) d15_331 rfl inX12 tyX12_ok nmX12 (by decide) wd_1346 (Or.inr (Or.inr ⟨rfl, Or.inr ⟨_, rfl⟩⟩)) rfl rfl rfl)))) (xT_n (xT_l (yS (y_aload_eq _ _) (s_aload_n d15_334))) (xT_l (s_bipush d15_335 (by decide +kernel))))))))) (xT_n (xT_n (xT_n (xT_n (xT_n (xT_l (s_newa (ty := .int) d15_337 rfl rfl wd_253 (by decide) (fun _ _ => rfl) (Or.inl ⟨by decide, rfl⟩))) (xT_n (xT_l (yS (y_putf_eq _ _ _ _) (s_putF (T := TX12) (N := 70) (ty := tyX12) d15_339 rfl inX12 tyX12_ok nmX12 (by decide) wd_1347 (Or.inr (Or.inr ⟨rfl, Or.inr ⟨_, rfl⟩⟩)) rfl rfl rfl))) (xT_l (yS (y_aload_eq _ _) (s_aload_n d15_342))))) (xT_n (xT_l (s_bipush d15_343 (by decide +kernel))) (xT_n (xT_l (s_newa (ty := .boolean) d15_345 rfl rfl wd_415 (by decide) (fun _ _ => rfl) (Or.inl ⟨by decide, rfl⟩))) (xT_l (yS (y_putf_eq _ _ _ _) (s_putF (T := TX12) (N := 70) (ty := tyX12) d15_347 rfl inX12 tyX12_ok nmX12 (by decide) wd_1348 (Or.inr (Or.inr ⟨rfl, Or.inr ⟨_, rfl⟩⟩)) rfl rfl rfl)))))) (xT_n (xT_n (xT_l (yS (y_aload_eq _ _) (s_aload_n d15_350))) (xT_n (xT_l (s_iconst d15_351 (by decide +kernel))) (xT_l (s_newa (ty := .boolean) d15_352 rfl rfl wd_415 (by decide) (fun _ _ => rfl) (Or.inl ⟨by decide, rfl⟩))))) (xT_n (xT_n (xT_l (yS (y_putf_eq _ _ _ _) (s_putF (T := TX12) (N := 70) (ty := tyX12) d15_354 rfl inX12 tyX12_ok nmX12 (by decide) wd_1349 (Or.inr (Or.inr ⟨rfl, Or.inr ⟨_, rfl⟩⟩)) rfl rfl rfl))) (xT_l (yS (y_aload_eq _ _) (s_aload_n d15_357)))) (xT_n (xT_l (s_sipush d15_358 (by decide +kernel))) (xT_l (s_newa (ty := .int) d15_361 rfl rfl wd_253 (by decide) (fun _ _ => rfl) (Or.inl ⟨by decide, rfl⟩))))))) (xT_n (xT_n (xT_n (xT_l (yS (y_putf_eq _ _ _ _) (s_putF (T := TX12) (N := 70) (ty := tyX12) d15_363 rfl inX12 tyX12_ok nmX12 (by decide) wd_1350 (Or.inr (Or.inr ⟨rfl, Or.inr ⟨_, rfl⟩⟩)) rfl rfl rfl))) (xT_n (xT_l (yS (y_aload_eq _ _) (s_aload_n d15_366))) (xT_l (s_iconst d15_367 (by decide +kernel))))) (xT_n (xT_n (xT_l (yS (y_invV_eq _ _ _ _) (s_invV (T := TX12) d15_368 cal_19 rfl wd_1263 wd_1265 wd_44))) (xT_l (yS (y_aload_eq _ _) (s_aload_n d15_371)))) (xT_n (xT_l (yS (y_getf_eq _ _ _) (s_getf (T := TX12) (N := 70) d15_372 rfl inX12 (by decide) wd_1290))) (xT_l (s_iconst d15_375 (by decide +kernel)))))) (xT_n (xT_n (xT_l (s_bipush d15_376 (by decide +kernel))) (xT_n (xT_l (s_bipush d15_378 (by decide +kernel))) (xT_l (s_bipush d15_380 (by decide +kernel))))) (xT_n (xT_n (xT_l (s_bipush d15_382 (by decide +kernel))) (xT_l (s_bipush d15_384 (by decide +kernel)))) (xT_n (xT_l (s_iconst d15_386 (by decide +kernel))) (xT_l (s_iconst d15_387 (by decide +kernel)))))))) (xT_n (xT_n (xT_n (xT_n (xT_l (yS (y_inv_eq _ _ _) (s_invS d15_388 cal_20 wd_1267 wd_1268))) (xT_n (xT_l (s_last d15_391)) (xT_l (yS (y_aload_eq _ _) (s_aload_n d15_392))))) (xT_n (xT_n (xT_l (yS (y_getf_eq _ _ _) (s_getf (T := TX12) (N := 70) d15_393 rfl inX12 (by decide) wd_1290))) (xT_l (s_iconst d15_396 (by decide +kernel)))) (xT_n (xT_l (s_bipush d15_397 (by decide +kernel))) (xT_l (s_bipush d15_399 (by decide +kernel)))))) (xT_n (xT_n (xT_l (s_bipush d15_401 (by decide +kernel))) (xT_n (xT_l (s_bipush d15_403 (by decide +kernel))) (xT_l (s_bipush d15_405 (by decide +kernel))))) (xT_n (xT_n (xT_l (s_iconst d15_407 (by decide +kernel))) (xT_l (s_iconst d15_408 (by decide +kernel)))) (xT_n (xT_l (yS (y_inv_eq _ _ _) (s_invS d15_409 cal_20 wd_1267 wd_1268))) (xT_l (s_last d15_412)))))) (xT_n (xT_n (xT_n (xT_l (yS (y_aload_eq _ _) (s_aload_n d15_413))) (xT_n (xT_l (yS (y_getf_eq _ _ _) (s_getf (T := TX12) (N := 70) d15_414 rfl inX12 (by decide) wd_1290))) (xT_l (s_iconst d15_417 (by decide +kernel))))) (xT_n (xT_n (xT_l (s_bipush d15_418 (by decide +kernel))) (xT_l (s_bipush d15_420 (by decide +kernel)))) (xT_n (xT_l (s_bipush d15_422 (by decide +kernel))) (xT_l (s_bipush d15_424 (by decide +kernel)))))) (xT_n (xT_n (xT_l (s_bipush d15_426 (by decide +kernel))) (xT_n (xT_l (s_iconst d15_428 (by decide +kernel))) (xT_l (s_iconst d15_429 (by decide +kernel))))) (xT_n (xT_n (xT_l (yS (y_inv_eq _ _ _) (s_invS d15_430 cal_20 wd_1267 wd_1268))) (xT_l (s_last d15_433))) (xT_n (xT_l (yS (y_aload_eq _ _) (s_aload_n d15_434))) (xT_l (yS (y_getf_eq _ _ _) (s_getf (T := TX12) (N := 70) d15_435 rfl inX12 (by decide) wd_1290))))))))))) (xT_n (xT_n (xT_n (xT_n (xT_n (xT_n (xT_n (xT_l (s_iconst d15_438 (by decide +kernel))) (xT_n (xT_l (s_bipush d15_439 (by decide +kernel))) (xT_l (s_bipush d15_441 (by decide +kernel))))) (xT_n (xT_l (s_bipush d15_443 (by decide +kernel))) (xT_n (xT_l (s_bipush d15_445 (by decide +kernel))) (xT_l (s_iconst d15_447 (by decide +kernel)))))) (xT_n (xT_n (xT_l (s_iconst d15_448 (by decide +kernel))) (xT_n (xT_l (s_iconst d15_449 (by decide +kernel))) (xT_l (yS (y_inv_eq _ _ _) (s_invS d15_450 cal_20 wd_1267 wd_1268))))) (xT_n (xT_n (xT_l (s_last d15_453)) (xT_l (yS (y_aload_eq _ _) (s_aload_n d15_454)))) (xT_n (xT_l (yS (y_getf_eq _ _ _) (s_getf (T := TX12) (N := 70) d15_455 rfl inX12 (by decide) wd_1290))) (xT_l (s_iconst d15_458 (by decide +kernel))))))) (xT_n (xT_n (xT_n (xT_l (s_bipush d15_459 (by decide +kernel))) (xT_n (xT_l (s_bipush d15_461 (by decide +kernel))) (xT_l (s_bipush d15_463 (by decide +kernel))))) (xT_n (xT_n (xT_l (s_bipush d15_465 (by decide +kernel))) (xT_l (s_bipush d15_467 (by decide +kernel)))) (xT_n (xT_l (s_iconst d15_469 (by decide +kernel))) (xT_l (s_iconst d15_470 (by decide +kernel)))))) (xT_n (xT_n (xT_l (yS (y_inv_eq _ _ _) (s_invS d15_471 cal_20 wd_1267 wd_1268))) (xT_n (xT_l (s_last d15_474)) (xT_l (yS (y_aload_eq _ _) (s_aload_n d15_475))))) (xT_n (xT_n (xT_l (yS (y_getf_eq _ _ _) (s_getf (T := TX12) (N := 70) d15_476 rfl inX12 (by decide) wd_1290))) (xT_l (s_iconst d15_479 (by decide +kernel)))) (xT_n (xT_l (s_bipush d15_480 (by decide +kernel))) (xT_l (s_bipush d15_482 (by decide +kernel)))))))) (xT_n (xT_n (xT_n (xT_n (xT_l (s_bipush d15_484 (by decide +kernel))) (xT_n (xT_l (s_bipush d15_486 (by decide +kernel))) (xT_l (s_iconst d15_488 (by decide +kernel))))) (xT_n (xT_l (s_iconst d15_489 (by decide +kernel))) (xT_n (xT_l (s_iconst d15_490 (by decide +kernel))) (xT_l (yS (y_inv_eq _ _ _) (s_invS d15_491 cal_20 wd_1267 wd_1268)))))) (xT_n (xT_n (xT_l (s_last d15_494)) (xT_n (xT_l (yS (y_aload_eq _ _) (s_aload_n d15_495))) (xT_l (yS (y_getf_eq _ _ _) (s_getf (T := TX12) (N := 70) d15_496 rfl inX12 (by decide) wd_1290))))) (xT_n (xT_n (xT_l (s_bipush d15_499 (by decide +kernel))) (xT_l (s_bipush d15_501 (by decide +kernel)))) (xT_n (xT_l (s_bipush d15_503 (by decide +kernel))) (xT_l (s_bipush d15_505 (by decide +kernel))))))) (xT_n (xT_n (xT_n (xT_l (s_bipush d15_507 (by decide +kernel))) (xT_n (xT_l (s_bipush d15_509 (by decide +kernel))) (xT_l (s_bipush d15_511 (by decide +kernel))))) (xT_n (xT_n (xT_l (s_iconst d15_513 (by decide +kernel))) (xT_l (yS (y_inv_eq _ _ _) (s_invS d15_514 cal_20 wd_1267 wd_1268)))) (xT_n (xT_l (s_last d15_517)) (xT_l (yS (y_aload_eq _ _) (s_aload_n d15_518)))))) (xT_n (xT_n (xT_l (yS (y_getf_eq _ _ _) (s_getf (T := TX12) (N := 70) d15_519 rfl inX12 (by decide) wd_1290))) (xT_n (xT_l (s_bipush d15_522 (by decide +kernel))) (xT_l (s_bipush d15_524 (by decide +kernel))))) (xT_n (xT_n (xT_l (s_bipush d15_526 (by decide +kernel))) (xT_l (s_bipush d15_528 (by decide +kernel)))) (xT_n (xT_l (s_bipush d15_530 (by decide +kernel))) (xT_l (s_bipush d15_532 (by decide +kernel))))))))) (xT_n (xT_n (xT_n (xT_n (xT_n (xT_l (s_bipush d15_534 (by decide +kernel))) (xT_n (xT_l (s_bipush d15_536 (by decide +kernel))) (xT_l (yS (y_inv_eq _ _ _) (s_invS d15_538 cal_20 wd_1267 wd_1268))))) (xT_n (xT_l (s_last d15_541)) (xT_n (xT_l (yS (y_aload_eq _ _) (s_aload_n d15_542))) (xT_l (yS (y_getf_eq _ _ _) (s_getf (T := TX12) (N := 70) d15_543 rfl inX12 (by decide) wd_1290)))))) (xT_n (xT_n (xT_l (s_bipush d15_546 (by decide +kernel))) (xT_n (xT_l (s_bipush d15_548 (by decide +kernel))) (xT_l (s_bipush d15_550 (by decide +kernel))))) (xT_n (xT_n (xT_l (s_bipush d15_552 (by decide +kernel))) (xT_l (s_bipush d15_554 (by decide +kernel)))) (xT_n (xT_l (s_iconst d15_556 (by decide +kernel))) (xT_l (s_iconst d15_557 (by decide +kernel))))))) (xT_n (xT_n (xT_n (xT_l (s_iconst d15_558 (by decide +kernel))) (xT_n (xT_l (yS (y_inv_eq _ _ _) (s_invS d15_559 cal_20 wd_1267 wd_1268))) (xT_l (s_last d15_562)))) (xT_n (xT_n (xT_l (yS (y_aload_eq _ _) (s_aload_n d15_563))) (xT_l (yS (y_getf_eq _ _ _) (s_getf (T := TX12) (N := 70) d15_564 rfl inX12 (by decide) wd_1290)))) (xT_n (xT_l (s_bipush d15_567 (by decide +kernel))) (xT_l (s_bipush d15_569 (by decide +kernel)))))) (xT_n (xT_n (xT_l (s_bipush d15_571 (by decide +kernel))) (xT_n (xT_l (s_iconst d15_573 (by decide +kernel))) (xT_l (s_iconst d15_574 (by decide +kernel))))) (xT_n (xT_n (xT_l (s_iconst d15_575 (by decide +kernel))) (xT_l (s_iconst d15_576 (by decide +kernel)))) (xT_n (xT_l (s_iconst d15_577 (by decide +kernel))) (xT_l (yS (y_inv_eq _ _ _) (s_invS d15_578 cal_20 wd_1267 wd_1268)))))))) (xT_n (xT_n (xT_n (xT_n (xT_l (s_last d15_581)) (xT_n (xT_l (yS (y_aload_eq _ _) (s_aload_n d15_582))) (xT_l (yS (y_getf_eq _ _ _) (s_getf (T := TX12) (N := 70) d15_583 rfl inX12 (by decide) wd_1290))))) (xT_n (xT_n (xT_l (s_bipush d15_586 (by decide +kernel))) (xT_l (s_bipush d15_588 (by decide +kernel)))) (xT_n (xT_l (s_bipush d15_590 (by decide +kernel))) (xT_l (s_bipush d15_592 (by decide +kernel)))))) (xT_n (xT_n (xT_l (s_bipush d15_594 (by decide +kernel))) (xT_n (xT_l (s_iconst d15_596 (by decide +kernel))) (xT_l (s_iconst d15_597 (by decide +kernel))))) (xT_n (xT_n (xT_l (s_iconst d15_598 (by decide +kernel))) (xT_l (yS (y_inv_eq _ _ _) (s_invS d15_599 cal_20 wd_1267 wd_1268)))) (xT_n (xT_l (s_last d15_602)) (xT_l (yS (y_aload_eq _ _) (s_aload_n d15_603))))))) (xT_n (xT_n (xT_n (xT_l (yS (y_getf_eq _ _ _) (s_getf (T := TX12) (N := 70) d15_604 rfl inX12 (by decide) wd_1290))) (xT_n (xT_l (s_bipush d15_607 (by decide +kernel))) (xT_l (s_bipush d15_609 (by decide +kernel))))) (xT_n (xT_n (xT_l (s_bipush d15_611 (by decide +kernel))) (xT_l (s_bipush d15_613 (by decide +kernel)))) (xT_n (xT_l (s_bipush d15_615 (by decide +kernel))) (xT_l (s_iconst d15_617 (by decide +kernel)))))) (xT_n (xT_n (xT_l (s_iconst d15_618 (by decide +kernel))) (xT_n (xT_l (s_iconst d15_619 (by decide +kernel))) (xT_l (yS (y_inv_eq _ _ _) (s_invS d15_620 cal_20 wd_1267 wd_1268))))) (xT_n (xT_n (xT_l (s_last d15_623)) (xT_l (yS (y_aload_eq _ _) (s_aload_n d15_624)))) (xT_n (xT_l (yS (y_getf_eq _ _ _) (s_getf (T := TX12) (N := 70) d15_625 rfl inX12 (by decide) wd_1290))) (xT_l (s_bipush d15_628 (by decide +kernel)))))))))) (xT_n (xT_n (xT_n (xT_n (xT_n (xT_n (xT_l (s_bipush d15_630 (by decide +kernel))) (xT_n (xT_l (s_bipush d15_632 (by decide +kernel))) (xT_l (s_bipush d15_634 (by decide +kernel))))) (xT_n (xT_l (s_bipush d15_636 (by decide +kernel))) (xT_n (xT_l (s_bipush d15_638 (by decide +kernel))) (xT_l (s_iconst d15_640 (by decide +kernel)))))) (xT_n (xT_n (xT_l (s_iconst d15_641 (by decide +kernel))) (xT_n (xT_l (yS (y_inv_eq _ _ _) (s_invS d15_642 cal_20 wd_1267 wd_1268))) (xT_l (s_last d15_645)))) (xT_n (xT_n (xT_l (yS (y_aload_eq _ _) (s_aload_n d15_646))) (xT_l (yS (y_getf_eq _ _ _) (s_getf (T := TX12) (N := 70) d15_647 rfl inX12 (by decide) wd_1290)))) (xT_n (xT_l (s_bipush d15_650 (by decide +kernel))) (xT_l (s_bipush d15_652 (by decide +kernel))))))) (xT_n (xT_n (xT_n (xT_l (s_bipush d15_654 (by decide +kernel))) (xT_n (xT_l (s_bipush d15_656 (by decide +kernel))) (xT_l (s_iconst d15_658 (by decide +kernel))))) (xT_n (xT_n (xT_l (s_iconst d15_659 (by decide +kernel))) (xT_l (s_iconst d15_660 (by decide +kernel)))) (xT_n (xT_l (s_iconst d15_661 (by decide +kernel))) (xT_l (yS (y_inv_eq _ _ _) (s_invS d15_662 cal_20 wd_1267 wd_1268)))))) (xT_n (xT_n (xT_l (s_last d15_665)) (xT_n (xT_l (yS (y_aload_eq _ _) (s_aload_n d15_666))) (xT_l (yS (y_getf_eq _ _ _) (s_getf (T := TX12) (N := 70) d15_667 rfl inX12 (by decide) wd_1290))))) (xT_n (xT_n (xT_l (s_bipush d15_670 (by decide +kernel))) (xT_l (s_bipush d15_672 (by decide +kernel)))) (xT_n (xT_l (s_bipush d15_674 (by decide +kernel))) (xT_l (s_bipush d15_676 (by decide +kernel)))))))) (xT_n (xT_n (xT_n (xT_n (xT_l (s_iconst d15_678 (by decide +kernel))) (xT_n (xT_l (s_iconst d15_679 (by decide +kernel))) (xT_l (s_iconst d15_680 (by decide +kernel))))) (xT_n (xT_l (s_iconst d15_681 (by decide +kernel))) (xT_n (xT_l (yS (y_inv_eq _ _ _) (s_invS d15_682 cal_20 wd_1267 wd_1268))) (xT_l (s_last d15_685))))) (xT_n (xT_n (xT_l (yS (y_aload_eq _ _) (s_aload_n d15_686))) (xT_n (xT_l (yS (y_getf_eq _ _ _) (s_getf (T := TX12) (N := 70) d15_687 rfl inX12 (by decide) wd_1290))) (xT_l (s_bipush d15_690 (by decide +kernel))))) (xT_n (xT_n (xT_l (s_bipush d15_692 (by decide +kernel))) (xT_l (s_bipush d15_694 (by decide +kernel)))) (xT_n (xT_l (s_bipush d15_696 (by decide +kernel))) (xT_l (s_bipush d15_698 (by decide +kernel))))))) (xT_n (xT_n (xT_n (xT_l (s_iconst d15_700 (by decide +kernel))) (xT_n (xT_l (s_iconst d15_701 (by decide +kernel))) (xT_l (s_iconst d15_702 (by decide +kernel))))) (xT_n (xT_n (xT_l (yS (y_inv_eq _ _ _) (s_invS d15_703 cal_20 wd_1267 wd_1268))) (xT_l (s_last d15_706))) (xT_n (xT_l (yS (y_aload_eq _ _) (s_aload_n d15_707))) (xT_l (yS (y_getf_eq _ _ _) (s_getf (T := TX12) (N := 70) d15_708 rfl inX12 (by decide) wd_1290)))))) (xT_n (xT_n (xT_l (s_bipush d15_711 (by decide +kernel))) (xT_n (xT_l (s_bipush d15_713 (by decide +kernel))) (xT_l (s_bipush d15_715 (by decide +kernel))))) (xT_n (xT_n (xT_l (s_bipush d15_717 (by decide +kernel))) (xT_l (s_iconst d15_719 (by decide +kernel)))) (xT_n (xT_l (s_iconst d15_720 (by decide +kernel))) (xT_l (s_iconst d15_721 (by decide +kernel))))))))) (xT_n (xT_n (xT_n (xT_n (xT_n (xT_l (s_iconst d15_722 (by decide +kernel))) (xT_n (xT_l (yS (y_inv_eq _ _ _) (s_invS d15_723 cal_20 wd_1267 wd_1268))) (xT_l (s_last d15_726)))) (xT_n (xT_l (yS (y_aload_eq _ _) (s_aload_n d15_727))) (xT_n (xT_l (yS (y_getf_eq _ _ _) (s_getf (T := TX12) (N := 70) d15_728 rfl inX12 (by decide) wd_1290))) (xT_l (s_bipush d15_731 (by decide +kernel)))))) (xT_n (xT_n (xT_l (s_bipush d15_733 (by decide +kernel))) (xT_n (xT_l (s_bipush d15_735 (by decide +kernel))) (xT_l (s_bipush d15_737 (by decide +kernel))))) (xT_n (xT_n (xT_l (s_bipush d15_739 (by decide +kernel))) (xT_l (s_bipush d15_741 (by decide +kernel)))) (xT_n (xT_l (s_iconst d15_743 (by decide +kernel))) (xT_l (s_iconst d15_744 (by decide +kernel))))))) (xT_n (xT_n (xT_n (xT_l (yS (y_inv_eq _ _ _) (s_invS d15_745 cal_20 wd_1267 wd_1268))) (xT_n (xT_l (s_last d15_748)) (xT_l (yS (y_aload_eq _ _) (s_aload_n d15_749))))) (xT_n (xT_n (xT_l (yS (y_getf_eq _ _ _) (s_getf (T := TX12) (N := 70) d15_750 rfl inX12 (by decide) wd_1290))) (xT_l (s_bipush d15_753 (by decide +kernel)))) (xT_n (xT_l (s_bipush d15_755 (by decide +kernel))) (xT_l (s_bipush d15_757 (by decide +kernel)))))) (xT_n (xT_n (xT_l (s_bipush d15_759 (by decide +kernel))) (xT_n (xT_l (s_bipush d15_761 (by decide +kernel))) (xT_l (s_bipush d15_763 (by decide +kernel))))) (xT_n (xT_n (xT_l (s_bipush d15_765 (by decide +kernel))) (xT_l (s_iconst d15_767 (by decide +kernel)))) (xT_n (xT_l (yS (y_inv_eq _ _ _) (s_invS d15_768 cal_20 wd_1267 wd_1268))) (xT_l (s_last d15_771))))))) (xT_n (xT_n (xT_n (xT_n (xT_l (yS (y_aload_eq _ _) (s_aload_n d15_772))) (xT_n (xT_l (yS (y_getf_eq _ _ _) (s_getf (T := TX12) (N := 70) d15_773 rfl inX12 (by decide) wd_1290))) (xT_l (s_bipush d15_776 (by decide +kernel))))) (xT_n (xT_n (xT_l (s_bipush d15_778 (by decide +kernel))) (xT_l (s_bipush d15_780 (by decide +kernel)))) (xT_n (xT_l (s_bipush d15_782 (by decide +kernel))) (xT_l (s_bipush d15_784 (by decide +kernel)))))) (xT_n (xT_n (xT_l (s_iconst d15_786 (by decide +kernel))) (xT_n (xT_l (s_iconst d15_787 (by decide +kernel))) (xT_l (s_iconst d15_788 (by decide +kernel))))) (xT_n (xT_n (xT_l (yS (y_inv_eq _ _ _) (s_invS d15_789 cal_20 wd_1267 wd_1268))) (xT_l (s_last d15_792))) (xT_n (xT_l (yS (y_aload_eq _ _) (s_aload_n d15_793))) (xT_l (yS (y_getf_eq _ _ _) (s_getf (T := TX12) (N := 70) d15_794 rfl inX12 (by decide) wd_1290))))))) (xT_n (xT_n (xT_n (xT_l (s_bipush d15_797 (by decide +kernel))) (xT_n (xT_l (s_bipush d15_799 (by decide +kernel))) (xT_l (s_bipush d15_801 (by decide +kernel))))) (xT_n (xT_n (xT_l (s_bipush d15_803 (by decide +kernel))) (xT_l (s_bipush d15_805 (by decide +kernel)))) (xT_n (xT_l (s_iconst d15_807 (by decide +kernel))) (xT_l (s_iconst d15_808 (by decide +kernel)))))) (xT_n (xT_n (xT_l (s_iconst d15_809 (by decide +kernel))) (xT_n (xT_l (yS (y_inv_eq _ _ _) (s_invS d15_810 cal_20 wd_1267 wd_1268))) (xT_l (s_last d15_813)))) (xT_n (xT_n (xT_l (yS (y_aload_eq _ _) (s_aload_n d15_814))) (xT_l (yS (y_invV_eq _ _ _ _) (s_invV (T := TX12) d15_815 cal_17 rfl wd_1274 wd_1276 wd_45)))) (xT_n (xT_l (yS (y_aload_eq _ _) (s_aload_n d15_818))) (xT_l (yS (y_invV_eq _ _ _ _) (s_invV (T := TX12) d15_819 cal_18 rfl wd_1278 wd_1280 wd_46))))))))))))
set_option maxRecDepth 100000 in
set_option maxHeartbeats 4000000 in
theorem M_15 : xMeth PX 15 (T_15, 1, [(822, 3)]) := ⟨⟨"CapitalCaseModel", "<init>", "()V"⟩, prog_14_method_2_code, none, rfl, by decide, fun G => T_15_ok G, xrt_ok (xR_c (Or.inr (Or.inr (Or.inl ⟨rfl, d15_822, rfl⟩))) (xR_n))⟩
