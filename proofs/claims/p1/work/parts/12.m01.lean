theorem d25_0 : decode prog_8_method_4_code 0 = .ok (.aload_n 0, 1) := by decide +kernel
theorem d25_1 : decode prog_8_method_4_code 1 = .ok (.getfield 66, 3) := by decide +kernel
theorem d25_4 : decode prog_8_method_4_code 4 = .ok (.sipush 408, 3) := by decide +kernel
theorem d25_7 : decode prog_8_method_4_code 7 = .ok (.if_icmp .ge 33, 3) := by decide +kernel
theorem d25_10 : decode prog_8_method_4_code 10 = .ok (.aload_n 0, 1) := by decide +kernel
theorem d25_11 : decode prog_8_method_4_code 11 = .ok (.getfield 35, 3) := by decide +kernel
theorem d25_14 : decode prog_8_method_4_code 14 = .ok (.aload_n 0, 1) := by decide +kernel
theorem d25_15 : decode prog_8_method_4_code 15 = .ok (.getfield 66, 3) := by decide +kernel
theorem d25_18 : decode prog_8_method_4_code 18 = .ok (.iload_n 1, 1) := by decide +kernel
theorem d25_19 : decode prog_8_method_4_code 19 = .ok (.iastore, 1) := by decide +kernel
theorem d25_20 : decode prog_8_method_4_code 20 = .ok (.aload_n 0, 1) := by decide +kernel
theorem d25_21 : decode prog_8_method_4_code 21 = .ok (.getfield 38, 3) := by decide +kernel
theorem d25_24 : decode prog_8_method_4_code 24 = .ok (.aload_n 0, 1) := by decide +kernel
theorem d25_25 : decode prog_8_method_4_code 25 = .ok (.getfield 66, 3) := by decide +kernel
theorem d25_28 : decode prog_8_method_4_code 28 = .ok (.iload_n 2, 1) := by decide +kernel
theorem d25_29 : decode prog_8_method_4_code 29 = .ok (.iastore, 1) := by decide +kernel
theorem d25_30 : decode prog_8_method_4_code 30 = .ok (.aload_n 0, 1) := by decide +kernel
theorem d25_31 : decode prog_8_method_4_code 31 = .ok (.dup, 1) := by decide +kernel
theorem d25_32 : decode prog_8_method_4_code 32 = .ok (.getfield 66, 3) := by decide +kernel
theorem d25_35 : decode prog_8_method_4_code 35 = .ok (.iconst 1, 1) := by decide +kernel
theorem d25_36 : decode prog_8_method_4_code 36 = .ok (.iadd, 1) := by decide +kernel
theorem d25_37 : decode prog_8_method_4_code 37 = .ok (.putfield 66, 3) := by decide +kernel
theorem d25_40 : decode prog_8_method_4_code 40 = .ok (.return_, 1) := by decide +kernel
noncomputable def T_25 : Nat → Option xF := bn 21 (bn 11 (bn 4 (bn 1 (bl 0 (y_aload 0 1)) (bl 1 (y_getf 6 14 4))) (bn 7 (bl 4 (x_const 2147484056 7)) (bn 10 (bl 7 (y_icmp yc3 40 10)) (bl 10 (y_aload 0 11))))) (bn 18 (bn 14 (bl 11 (y_getf 6 12 14)) (bn 15 (bl 14 (y_aload 0 15)) (bl 15 (y_getf 6 14 18)))) (bn 19 (bl 18 (y_iload 1 19)) (bn 20 (bl 19 (y_iast 20)) (bl 20 (y_aload 0 21)))))) (bn 30 (bn 25 (bn 24 (bl 21 (y_getf 6 13 24)) (bl 24 (y_aload 0 25))) (bn 28 (bl 25 (y_getf 6 14 28)) (bn 29 (bl 28 (y_iload 2 29)) (bl 29 (y_iast 30))))) (bn 35 (bn 31 (bl 30 (y_aload 0 31)) (bn 32 (bl 31 (x_dup 32)) (bl 32 (y_getf 6 14 35)))) (bn 36 (bl 35 (x_const 2147483649 36)) (bn 37 (bl 36 (y_bin yadd 37)) (bl 37 (y_putf 6 14 0 40))))))
set_option maxRecDepth 100000 in
set_option maxHeartbeats 4000000 in
theorem T_25_ok (G : State → Nat → Nat → Prop) : xTree PX G prog_8_method_4_code "CapitalCase$Script" false T_25 := (xT_n (xT_n (xT_n (xT_n (xT_l (yS (y_aload_eq _ _) (s_aload_n d25_0))) (xT_l (yS (y_getf_eq _ _ _) (s_getf (T := TX6) (N := 15) d25_1 rfl inX6 (by decide) wd_218)))) (xT_n (xT_l (s_sipush d25_4 (by decide +kernel))) (xT_n (xT_l (yS (y_icmp_eq yc3_eq _ _) (s_icmpge d25_7 (by decide +kernel)))) (xT_l (yS (y_aload_eq _ _) (s_aload_n d25_10)))))) (xT_n (xT_n (xT_l (yS (y_getf_eq _ _ _) (s_getf (T := TX6) (N := 15) d25_11 rfl inX6 (by decide) wd_214))) (xT_n (xT_l (yS (y_aload_eq _ _) (s_aload_n d25_14))) (xT_l (yS (y_getf_eq _ _ _) (s_getf (T := TX6) (N := 15) d25_15 rfl inX6 (by decide) wd_218))))) (xT_n (xT_l (yS (y_iload_eq _ _) (s_iload_n d25_18))) (xT_n (xT_l (yS (y_iast_eq _) (s_iast d25_19))) (xT_l (yS (y_aload_eq _ _) (s_aload_n d25_20))))))) (xT_n (xT_n (xT_n (xT_l (yS (y_getf_eq _ _ _) (s_getf (T := TX6) (N := 15) d25_21 rfl inX6 (by decide) wd_216))) (xT_l (yS (y_aload_eq _ _) (s_aload_n d25_24)))) (xT_n (xT_l (yS (y_getf_eq _ _ _) (s_getf (T := TX6) (N := 15) d25_25 rfl inX6 (by decide) wd_218))) (xT_n (xT_l (yS (y_iload_eq _ _) (s_iload_n d25_28))) (xT_l (yS (y_iast_eq _) (s_iast d25_29)))))) (xT_n (xT_n (xT_l (yS (y_aload_eq _ _) (s_aload_n d25_30))) (xT_n (xT_l (s_dup d25_31)) (xT_l (yS (y_getf_eq _ _ _) (s_getf (T := TX6) (N := 15) d25_32 rfl inX6 (by decide) wd_218))))) (xT_n (xT_l (s_iconst d25_35 (by decide +kernel))) (xT_n (xT_l (yS (y_bin_eq _ _) (s_iadd d25_36))) (xT_l (yS (y_putf_eq _ _ _ _) (s_putf (T := TX6) (N := 15) (ty := tyX6) d25_37 rfl inX6 tyX6_ok nmX6 (by decide) wd_218 (Or.inl ⟨rfl, rfl⟩) rfl))))))))
set_option maxRecDepth 100000 in
set_option maxHeartbeats 4000000 in
theorem M_25 : xMeth PX 25 (T_25, 3, [(40, 3)]) := ⟨⟨"CapitalCase$Script", "add", "(II)V"⟩, prog_8_method_4_code, none, rfl, by decide, fun G => T_25_ok G, xrt_ok (xR_c (Or.inr (Or.inr (Or.inl ⟨rfl, d25_40, rfl⟩))) (xR_n))⟩
theorem d26_0 : decode prog_8_method_6_code 0 = .ok (.aload_n 0, 1) := by decide +kernel
theorem d26_1 : decode prog_8_method_6_code 1 = .ok (.aload_n 1, 1) := by decide +kernel
theorem d26_2 : decode prog_8_method_6_code 2 = .ok (.getfield 44, 3) := by decide +kernel
theorem d26_5 : decode prog_8_method_6_code 5 = .ok (.putfield 44, 3) := by decide +kernel
theorem d26_8 : decode prog_8_method_6_code 8 = .ok (.aload_n 0, 1) := by decide +kernel
theorem d26_9 : decode prog_8_method_6_code 9 = .ok (.aload_n 1, 1) := by decide +kernel
theorem d26_10 : decode prog_8_method_6_code 10 = .ok (.getfield 48, 3) := by decide +kernel
theorem d26_13 : decode prog_8_method_6_code 13 = .ok (.putfield 48, 3) := by decide +kernel
theorem d26_16 : decode prog_8_method_6_code 16 = .ok (.aload_n 0, 1) := by decide +kernel
theorem d26_17 : decode prog_8_method_6_code 17 = .ok (.aload_n 1, 1) := by decide +kernel
theorem d26_18 : decode prog_8_method_6_code 18 = .ok (.getfield 51, 3) := by decide +kernel
theorem d26_21 : decode prog_8_method_6_code 21 = .ok (.putfield 51, 3) := by decide +kernel
theorem d26_24 : decode prog_8_method_6_code 24 = .ok (.aload_n 0, 1) := by decide +kernel
theorem d26_25 : decode prog_8_method_6_code 25 = .ok (.aload_n 1, 1) := by decide +kernel
theorem d26_26 : decode prog_8_method_6_code 26 = .ok (.getfield 54, 3) := by decide +kernel
theorem d26_29 : decode prog_8_method_6_code 29 = .ok (.putfield 54, 3) := by decide +kernel
theorem d26_32 : decode prog_8_method_6_code 32 = .ok (.aload_n 0, 1) := by decide +kernel
theorem d26_33 : decode prog_8_method_6_code 33 = .ok (.aload_n 1, 1) := by decide +kernel
theorem d26_34 : decode prog_8_method_6_code 34 = .ok (.getfield 57, 3) := by decide +kernel
theorem d26_37 : decode prog_8_method_6_code 37 = .ok (.putfield 57, 3) := by decide +kernel
theorem d26_40 : decode prog_8_method_6_code 40 = .ok (.aload_n 0, 1) := by decide +kernel
theorem d26_41 : decode prog_8_method_6_code 41 = .ok (.aload_n 1, 1) := by decide +kernel
theorem d26_42 : decode prog_8_method_6_code 42 = .ok (.getfield 66, 3) := by decide +kernel
theorem d26_45 : decode prog_8_method_6_code 45 = .ok (.putfield 66, 3) := by decide +kernel
theorem d26_48 : decode prog_8_method_6_code 48 = .ok (.aload_n 1, 1) := by decide +kernel
theorem d26_49 : decode prog_8_method_6_code 49 = .ok (.getfield 13, 3) := by decide +kernel
theorem d26_52 : decode prog_8_method_6_code 52 = .ok (.iconst 0, 1) := by decide +kernel
theorem d26_53 : decode prog_8_method_6_code 53 = .ok (.aload_n 0, 1) := by decide +kernel
theorem d26_54 : decode prog_8_method_6_code 54 = .ok (.getfield 13, 3) := by decide +kernel
theorem d26_57 : decode prog_8_method_6_code 57 = .ok (.iconst 0, 1) := by decide +kernel
theorem d26_58 : decode prog_8_method_6_code 58 = .ok (.bipush 40, 2) := by decide +kernel
theorem d26_60 : decode prog_8_method_6_code 60 = .ok (.invokestatic 79, 3) := by decide +kernel
theorem d26_63 : decode prog_8_method_6_code 63 = .ok (.aload_n 1, 1) := by decide +kernel
theorem d26_64 : decode prog_8_method_6_code 64 = .ok (.getfield 17, 3) := by decide +kernel
theorem d26_67 : decode prog_8_method_6_code 67 = .ok (.iconst 0, 1) := by decide +kernel
theorem d26_68 : decode prog_8_method_6_code 68 = .ok (.aload_n 0, 1) := by decide +kernel
theorem d26_69 : decode prog_8_method_6_code 69 = .ok (.getfield 17, 3) := by decide +kernel
theorem d26_72 : decode prog_8_method_6_code 72 = .ok (.iconst 0, 1) := by decide +kernel
theorem d26_73 : decode prog_8_method_6_code 73 = .ok (.bipush 7, 2) := by decide +kernel
theorem d26_75 : decode prog_8_method_6_code 75 = .ok (.invokestatic 79, 3) := by decide +kernel
theorem d26_78 : decode prog_8_method_6_code 78 = .ok (.aload_n 1, 1) := by decide +kernel
theorem d26_79 : decode prog_8_method_6_code 79 = .ok (.getfield 20, 3) := by decide +kernel
theorem d26_82 : decode prog_8_method_6_code 82 = .ok (.iconst 0, 1) := by decide +kernel
theorem d26_83 : decode prog_8_method_6_code 83 = .ok (.aload_n 0, 1) := by decide +kernel
theorem d26_84 : decode prog_8_method_6_code 84 = .ok (.getfield 20, 3) := by decide +kernel
theorem d26_87 : decode prog_8_method_6_code 87 = .ok (.iconst 0, 1) := by decide +kernel
theorem d26_88 : decode prog_8_method_6_code 88 = .ok (.bipush 7, 2) := by decide +kernel
theorem d26_90 : decode prog_8_method_6_code 90 = .ok (.invokestatic 79, 3) := by decide +kernel
theorem d26_93 : decode prog_8_method_6_code 93 = .ok (.aload_n 1, 1) := by decide +kernel
theorem d26_94 : decode prog_8_method_6_code 94 = .ok (.getfield 23, 3) := by decide +kernel
theorem d26_97 : decode prog_8_method_6_code 97 = .ok (.iconst 0, 1) := by decide +kernel
theorem d26_98 : decode prog_8_method_6_code 98 = .ok (.aload_n 0, 1) := by decide +kernel
theorem d26_99 : decode prog_8_method_6_code 99 = .ok (.getfield 23, 3) := by decide +kernel
theorem d26_102 : decode prog_8_method_6_code 102 = .ok (.iconst 0, 1) := by decide +kernel
theorem d26_103 : decode prog_8_method_6_code 103 = .ok (.bipush 7, 2) := by decide +kernel
theorem d26_105 : decode prog_8_method_6_code 105 = .ok (.invokestatic 79, 3) := by decide +kernel
theorem d26_108 : decode prog_8_method_6_code 108 = .ok (.aload_n 1, 1) := by decide +kernel
theorem d26_109 : decode prog_8_method_6_code 109 = .ok (.getfield 26, 3) := by decide +kernel
theorem d26_112 : decode prog_8_method_6_code 112 = .ok (.iconst 0, 1) := by decide +kernel
theorem d26_113 : decode prog_8_method_6_code 113 = .ok (.aload_n 0, 1) := by decide +kernel
theorem d26_114 : decode prog_8_method_6_code 114 = .ok (.getfield 26, 3) := by decide +kernel
theorem d26_117 : decode prog_8_method_6_code 117 = .ok (.iconst 0, 1) := by decide +kernel
theorem d26_118 : decode prog_8_method_6_code 118 = .ok (.bipush 56, 2) := by decide +kernel
theorem d26_120 : decode prog_8_method_6_code 120 = .ok (.invokestatic 79, 3) := by decide +kernel
theorem d26_123 : decode prog_8_method_6_code 123 = .ok (.aload_n 1, 1) := by decide +kernel
theorem d26_124 : decode prog_8_method_6_code 124 = .ok (.getfield 29, 3) := by decide +kernel
theorem d26_127 : decode prog_8_method_6_code 127 = .ok (.iconst 0, 1) := by decide +kernel
theorem d26_128 : decode prog_8_method_6_code 128 = .ok (.aload_n 0, 1) := by decide +kernel
theorem d26_129 : decode prog_8_method_6_code 129 = .ok (.getfield 29, 3) := by decide +kernel
theorem d26_132 : decode prog_8_method_6_code 132 = .ok (.iconst 0, 1) := by decide +kernel
theorem d26_133 : decode prog_8_method_6_code 133 = .ok (.bipush 56, 2) := by decide +kernel
theorem d26_135 : decode prog_8_method_6_code 135 = .ok (.invokestatic 79, 3) := by decide +kernel
theorem d26_138 : decode prog_8_method_6_code 138 = .ok (.aload_n 1, 1) := by decide +kernel
theorem d26_139 : decode prog_8_method_6_code 139 = .ok (.getfield 32, 3) := by decide +kernel
theorem d26_142 : decode prog_8_method_6_code 142 = .ok (.iconst 0, 1) := by decide +kernel
theorem d26_143 : decode prog_8_method_6_code 143 = .ok (.aload_n 0, 1) := by decide +kernel
theorem d26_144 : decode prog_8_method_6_code 144 = .ok (.getfield 32, 3) := by decide +kernel
theorem d26_147 : decode prog_8_method_6_code 147 = .ok (.iconst 0, 1) := by decide +kernel
theorem d26_148 : decode prog_8_method_6_code 148 = .ok (.iconst 4, 1) := by decide +kernel
theorem d26_149 : decode prog_8_method_6_code 149 = .ok (.invokestatic 79, 3) := by decide +kernel
theorem d26_152 : decode prog_8_method_6_code 152 = .ok (.aload_n 1, 1) := by decide +kernel
theorem d26_153 : decode prog_8_method_6_code 153 = .ok (.getfield 35, 3) := by decide +kernel
theorem d26_156 : decode prog_8_method_6_code 156 = .ok (.iconst 0, 1) := by decide +kernel
theorem d26_157 : decode prog_8_method_6_code 157 = .ok (.aload_n 0, 1) := by decide +kernel
theorem d26_158 : decode prog_8_method_6_code 158 = .ok (.getfield 35, 3) := by decide +kernel
theorem d26_161 : decode prog_8_method_6_code 161 = .ok (.iconst 0, 1) := by decide +kernel
theorem d26_162 : decode prog_8_method_6_code 162 = .ok (.sipush 408, 3) := by decide +kernel
theorem d26_165 : decode prog_8_method_6_code 165 = .ok (.invokestatic 79, 3) := by decide +kernel
theorem d26_168 : decode prog_8_method_6_code 168 = .ok (.aload_n 1, 1) := by decide +kernel
theorem d26_169 : decode prog_8_method_6_code 169 = .ok (.getfield 38, 3) := by decide +kernel
theorem d26_172 : decode prog_8_method_6_code 172 = .ok (.iconst 0, 1) := by decide +kernel
theorem d26_173 : decode prog_8_method_6_code 173 = .ok (.aload_n 0, 1) := by decide +kernel
theorem d26_174 : decode prog_8_method_6_code 174 = .ok (.getfield 38, 3) := by decide +kernel
theorem d26_177 : decode prog_8_method_6_code 177 = .ok (.iconst 0, 1) := by decide +kernel
theorem d26_178 : decode prog_8_method_6_code 178 = .ok (.sipush 408, 3) := by decide +kernel
theorem d26_181 : decode prog_8_method_6_code 181 = .ok (.invokestatic 79, 3) := by decide +kernel
theorem d26_184 : decode prog_8_method_6_code 184 = .ok (.return_, 1) := by decide +kernel
noncomputable def T_26 : Nat → Option xF := bn 93 (bn 48 (bn 24 (bn 10 (bn 5 (bn 1 (bl 0 (y_aload 0 1)) (bn 2 (bl 1 (y_aload 1 2)) (bl 2 (y_getf 6 0 5)))) (bn 8 (bl 5 (y_putf 6 0 0 8)) (bn 9 (bl 8 (y_aload 0 9)) (bl 9 (y_aload 1 10))))) (bn 17 (bn 13 (bl 10 (y_getf 6 1 13)) (bn 16 (bl 13 (y_putf 6 1 0 16)) (bl 16 (y_aload 0 17)))) (bn 18 (bl 17 (y_aload 1 18)) (bn 21 (bl 18 (y_getf 6 4 21)) (bl 21 (y_putf 6 4 0 24)))))) (bn 34 (bn 29 (bn 25 (bl 24 (y_aload 0 25)) (bn 26 (bl 25 (y_aload 1 26)) (bl 26 (y_getf 6 2 29)))) (bn 32 (bl 29 (y_putf 6 2 0 32)) (bn 33 (bl 32 (y_aload 0 33)) (bl 33 (y_aload 1 34))))) (bn 41 (bn 37 (bl 34 (y_getf 6 3 37)) (bn 40 (bl 37 (y_putf 6 3 0 40)) (bl 40 (y_aload 0 41)))) (bn 42 (bl 41 (y_aload 1 42)) (bn 45 (bl 42 (y_getf 6 14 45)) (bl 45 (y_putf 6 14 0 48))))))) (bn 69 (bn 58 (bn 53 (bn 49 (bl 48 (y_aload 1 49)) (bn 52 (bl 49 (y_getf 6 5 52)) (bl 52 (x_const 2147483648 53)))) (bn 54 (bl 53 (y_aload 0 54)) (bn 57 (bl 54 (y_getf 6 5 57)) (bl 57 (x_const 2147483648 58))))) (bn 64 (bn 60 (bl 58 (x_const 2147483688 60)) (bn 63 (bl 60 (x_copy 63)) (bl 63 (y_aload 1 64)))) (bn 67 (bl 64 (y_getf 6 6 67)) (bn 68 (bl 67 (x_const 2147483648 68)) (bl 68 (y_aload 0 69)))))) (bn 82 (bn 75 (bn 72 (bl 69 (y_getf 6 6 72)) (bn 73 (bl 72 (x_const 2147483648 73)) (bl 73 (x_const 2147483655 75)))) (bn 78 (bl 75 (x_copy 78)) (bn 79 (bl 78 (y_aload 1 79)) (bl 79 (y_getf 6 7 82))))) (bn 87 (bn 83 (bl 82 (x_const 2147483648 83)) (bn 84 (bl 83 (y_aload 0 84)) (bl 84 (y_getf 6 7 87)))) (bn 88 (bl 87 (x_const 2147483648 88)) (bn 90 (bl 88 (x_const 2147483655 90)) (bl 90 (x_copy 93)))))))) (bn 138 (bn 114 (bn 103 (bn 98 (bn 94 (bl 93 (y_aload 1 94)) (bn 97 (bl 94 (y_getf 6 8 97)) (bl 97 (x_const 2147483648 98)))) (bn 99 (bl 98 (y_aload 0 99)) (bn 102 (bl 99 (y_getf 6 8 102)) (bl 102 (x_const 2147483648 103))))) (bn 109 (bn 105 (bl 103 (x_const 2147483655 105)) (bn 108 (bl 105 (x_copy 108)) (bl 108 (y_aload 1 109)))) (bn 112 (bl 109 (y_getf 6 9 112)) (bn 113 (bl 112 (x_const 2147483648 113)) (bl 113 (y_aload 0 114)))))) (bn 127 (bn 120 (bn 117 (bl 114 (y_getf 6 9 117)) (bn 118 (bl 117 (x_const 2147483648 118)) (bl 118 (x_const 2147483704 120)))) (bn 123 (bl 120 (x_copy 123)) (bn 124 (bl 123 (y_aload 1 124)) (bl 124 (y_getf 6 10 127))))) (bn 132 (bn 128 (bl 127 (x_const 2147483648 128)) (bn 129 (bl 128 (y_aload 0 129)) (bl 129 (y_getf 6 10 132)))) (bn 133 (bl 132 (x_const 2147483648 133)) (bn 135 (bl 133 (x_const 2147483704 135)) (bl 135 (x_copy 138))))))) (bn 158 (bn 148 (bn 143 (bn 139 (bl 138 (y_aload 1 139)) (bn 142 (bl 139 (y_getf 6 11 142)) (bl 142 (x_const 2147483648 143)))) (bn 144 (bl 143 (y_aload 0 144)) (bn 147 (bl 144 (y_getf 6 11 147)) (bl 147 (x_const 2147483648 148))))) (bn 153 (bn 149 (bl 148 (x_const 2147483652 149)) (bn 152 (bl 149 (x_copy 152)) (bl 152 (y_aload 1 153)))) (bn 156 (bl 153 (y_getf 6 12 156)) (bn 157 (bl 156 (x_const 2147483648 157)) (bl 157 (y_aload 0 158)))))) (bn 172 (bn 165 (bn 161 (bl 158 (y_getf 6 12 161)) (bn 162 (bl 161 (x_const 2147483648 162)) (bl 162 (x_const 2147484056 165)))) (bn 168 (bl 165 (x_copy 168)) (bn 169 (bl 168 (y_aload 1 169)) (bl 169 (y_getf 6 13 172))))) (bn 177 (bn 173 (bl 172 (x_const 2147483648 173)) (bn 174 (bl 173 (y_aload 0 174)) (bl 174 (y_getf 6 13 177)))) (bn 178 (bl 177 (x_const 2147483648 178)) (bn 181 (bl 178 (x_const 2147484056 181)) (bl 181 (x_copy 184))))))))
set_option maxRecDepth 100000 in
set_option maxHeartbeats 4000000 in
theorem T_26_ok (G : State → Nat → Nat → Prop) : xTree PX G prog_8_method_6_code "CapitalCase$Script" false T_26 := (xT_n (xT_n (xT_n (xT_n (xT_n (xT_n (xT_l (yS (y_aload_eq _ _) (s_aload_n d26_0))) (xT_n (xT_l (yS (y_aload_eq _ _) (s_aload_n d26_1))) (xT_l (yS (y_getf_eq _ _ _) (s_getf (T := TX6) (N := 15) d26_2 rfl inX6 (by decide) wd_162))))) (xT_n (xT_l (yS (y_putf_eq _ _ _ _) (s_putf (T := TX6) (N := 15) (ty := tyX6) d26_5 rfl inX6 tyX6_ok nmX6 (by decide) wd_162 (Or.inl ⟨rfl, rfl⟩) rfl))) (xT_n (xT_l (yS (y_aload_eq _ _) (s_aload_n d26_8))) (xT_l (yS (y_aload_eq _ _) (s_aload_n d26_9)))))) (xT_n (xT_n (xT_l (yS (y_getf_eq _ _ _) (s_getf (T := TX6) (N := 15) d26_10 rfl inX6 (by decide) wd_169))) (xT_n (xT_l (yS (y_putf_eq _ _ _ _) (s_putf (T := TX6) (N := 15) (ty := tyX6) d26_13 rfl inX6 tyX6_ok nmX6 (by decide) wd_169 (Or.inl ⟨rfl, rfl⟩) rfl))) (xT_l (yS (y_aload_eq _ _) (s_aload_n d26_16))))) (xT_n (xT_l (yS (y_aload_eq _ _) (s_aload_n d26_17))) (xT_n (xT_l (yS (y_getf_eq _ _ _) (s_getf (T := TX6) (N := 15) d26_18 rfl inX6 (by decide) wd_175))) (xT_l (yS (y_putf_eq _ _ _ _) (s_putf (T := TX6) (N := 15) (ty := tyX6) d26_21 rfl inX6 tyX6_ok nmX6 (by decide) wd_175 (Or.inl ⟨rfl, rfl⟩) rfl))))))) (xT_n (xT_n (xT_n (xT_l (yS (y_aload_eq _ _) (s_aload_n d26_24))) (xT_n (xT_l (yS (y_aload_eq _ _) (s_aload_n d26_25))) (xT_l (yS (y_getf_eq _ _ _) (s_getf (T := TX6) (N := 15) d26_26 rfl inX6 (by decide) wd_178))))) (xT_n (xT_l (yS (y_putf_eq _ _ _ _) (s_putf (T := TX6) (N := 15) (ty := tyX6) d26_29 rfl inX6 tyX6_ok nmX6 (by decide) wd_178 (Or.inl ⟨rfl, rfl⟩) rfl))) (xT_n (xT_l (yS (y_aload_eq _ _) (s_aload_n d26_32))) (xT_l (yS (y_aload_eq _ _) (s_aload_n d26_33)))))) (xT_n (xT_n (xT_l (yS (y_getf_eq _ _ _) (s_getf (T := TX6) (N := 15) d26_34 rfl inX6 (by decide) wd_181))) (xT_n (xT_l (yS (y_putf_eq _ _ _ _) (s_putf (T := TX6) (N := 15) (ty := tyX6) d26_37 rfl inX6 tyX6_ok nmX6 (by decide) wd_181 (Or.inl ⟨rfl, rfl⟩) rfl))) (xT_l (yS (y_aload_eq _ _) (s_aload_n d26_40))))) (xT_n (xT_l (yS (y_aload_eq _ _) (s_aload_n d26_41))) (xT_n (xT_l (yS (y_getf_eq _ _ _) (s_getf (T := TX6) (N := 15) d26_42 rfl inX6 (by decide) wd_218))) (xT_l (yS (y_putf_eq _ _ _ _) (s_putf (T := TX6) (N := 15) (ty := tyX6) d26_45 rfl inX6 tyX6_ok nmX6 (by decide) wd_218 (Or.inl ⟨rfl, rfl⟩) rfl)))))))) (xT_n (xT_n (xT_n (xT_n (xT_l (yS (y_aload_eq _ _) (s_aload_n d26_48))) (xT_n (xT_l (yS (y_getf_eq _ _ _) (s_getf (T := TX6) (N := 15) d26_49 rfl inX6 (by decide) wd_184))) (xT_l (s_iconst d26_52 (by decide +kernel))))) (xT_n (xT_l (yS (y_aload_eq _ _) (s_aload_n d26_53))) (xT_n (xT_l (yS (y_getf_eq _ _ _) (s_getf (T := TX6) (N := 15) d26_54 rfl inX6 (by decide) wd_184))) (xT_l (s_iconst d26_57 (by decide +kernel)))))) (xT_n (xT_n (xT_l (s_bipush d26_58 (by decide +kernel))) (xT_n (xT_l (s_copy d26_60 wd_829 wd_831 wd_830 wd_131 (by decide +kernel))) (xT_l (yS (y_aload_eq _ _) (s_aload_n d26_63))))) (xT_n (xT_l (yS (y_getf_eq _ _ _) (s_getf (T := TX6) (N := 15) d26_64 rfl inX6 (by decide) wd_187))) (xT_n (xT_l (s_iconst d26_67 (by decide +kernel))) (xT_l (yS (y_aload_eq _ _) (s_aload_n d26_68))))))) (xT_n (xT_n (xT_n (xT_l (yS (y_getf_eq _ _ _) (s_getf (T := TX6) (N := 15) d26_69 rfl inX6 (by decide) wd_187))) (xT_n (xT_l (s_iconst d26_72 (by decide +kernel))) (xT_l (s_bipush d26_73 (by decide +kernel))))) (xT_n (xT_l (s_copy d26_75 wd_829 wd_831 wd_830 wd_131 (by decide +kernel))) (xT_n (xT_l (yS (y_aload_eq _ _) (s_aload_n d26_78))) (xT_l (yS (y_getf_eq _ _ _) (s_getf (T := TX6) (N := 15) d26_79 rfl inX6 (by decide) wd_191)))))) (xT_n (xT_n (xT_l (s_iconst d26_82 (by decide +kernel))) (xT_n (xT_l (yS (y_aload_eq _ _) (s_aload_n d26_83))) (xT_l (yS (y_getf_eq _ _ _) (s_getf (T := TX6) (N := 15) d26_84 rfl inX6 (by decide) wd_191))))) (xT_n (xT_l (s_iconst d26_87 (by decide +kernel))) (xT_n (xT_l (s_bipush d26_88 (by decide +kernel))) (xT_l (s_copy d26_90 wd_829 wd_831 wd_830 wd_131 (by decide +kernel))))))))) (xT_n (xT_n (xT_n (xT_n (xT_n (xT_l (yS (y_aload_eq _ _) (s_aload_n d26_93))) (xT_n (xT_l (yS (y_getf_eq _ _ _) (s_getf (T := TX6) (N := 15) d26_94 rfl inX6 (by decide) wd_195))) (xT_l (s_iconst d26_97 (by decide +kernel))))) (xT_n (xT_l (yS (y_aload_eq _ _) (s_aload_n d26_98))) (xT_n (xT_l (yS (y_getf_eq _ _ _) (s_getf (T := TX6) (N := 15) d26_99 rfl inX6 (by decide) wd_195))) (xT_l (s_iconst d26_102 (by decide +kernel)))))) (xT_n (xT_n (xT_l (s_bipush d26_103 (by decide +kernel))) (xT_n (xT_l (s_copy d26_105 wd_829 wd_831 wd_830 wd_131 (by decide +kernel))) (xT_l (yS (y_aload_eq _ _) (s_aload_n d26_108))))) (xT_n (xT_l (yS (y_getf_eq _ _ _) (s_getf (T := TX6) (N := 15) d26_109 rfl inX6 (by decide) wd_202))) (xT_n (xT_l (s_iconst d26_112 (by decide +kernel))) (xT_l (yS (y_aload_eq _ _) (s_aload_n d26_113))))))) (xT_n (xT_n (xT_n (xT_l (yS (y_getf_eq _ _ _) (s_getf (T := TX6) (N := 15) d26_114 rfl inX6 (by decide) wd_202))) (xT_n (xT_l (s_iconst d26_117 (by decide +kernel))) (xT_l (s_bipush d26_118 (by decide +kernel))))) (xT_n (xT_l (s_copy d26_120 wd_829 wd_831 wd_830 wd_131 (by decide +kernel))) (xT_n (xT_l (yS (y_aload_eq _ _) (s_aload_n d26_123))) (xT_l (yS (y_getf_eq _ _ _) (s_getf (T := TX6) (N := 15) d26_124 rfl inX6 (by decide) wd_207)))))) (xT_n (xT_n (xT_l (s_iconst d26_127 (by decide +kernel))) (xT_n (xT_l (yS (y_aload_eq _ _) (s_aload_n d26_128))) (xT_l (yS (y_getf_eq _ _ _) (s_getf (T := TX6) (N := 15) d26_129 rfl inX6 (by decide) wd_207))))) (xT_n (xT_l (s_iconst d26_132 (by decide +kernel))) (xT_n (xT_l (s_bipush d26_133 (by decide +kernel))) (xT_l (s_copy d26_135 wd_829 wd_831 wd_830 wd_131 (by decide +kernel)))))))) (xT_n (xT_n (xT_n (xT_n (xT_l (yS (y_aload_eq _ _) (s_aload_n d26_138))) (xT_n (xT_l (yS (y_getf_eq _ _ _) (s_getf (T := TX6) (N := 15) d26_139 rfl inX6 (by decide) wd_211))) (xT_l (s_iconst d26_142 (by decide +kernel))))) (xT_n (xT_l (yS (y_aload_eq _ _) (s_aload_n d26_143))) (xT_n (xT_l (yS (y_getf_eq _ _ _) (s_getf (T := TX6) (N := 15) d26_144 rfl inX6 (by decide) wd_211))) (xT_l (s_iconst d26_147 (by decide +kernel)))))) (xT_n (xT_n (xT_l (s_iconst d26_148 (by decide +kernel))) (xT_n (xT_l (s_copy d26_149 wd_829 wd_831 wd_830 wd_131 (by decide +kernel))) (xT_l (yS (y_aload_eq _ _) (s_aload_n d26_152))))) (xT_n (xT_l (yS (y_getf_eq _ _ _) (s_getf (T := TX6) (N := 15) d26_153 rfl inX6 (by decide) wd_214))) (xT_n (xT_l (s_iconst d26_156 (by decide +kernel))) (xT_l (yS (y_aload_eq _ _) (s_aload_n d26_157))))))) (xT_n (xT_n (xT_n (xT_l (yS (y_getf_eq _ _ _) (s_getf (T := TX6) (N := 15) d26_158 rfl inX6 (by decide) wd_214))) (xT_n (xT_l (s_iconst d26_161 (by decide +kernel))) (xT_l (s_sipush d26_162 (by decide +kernel))))) (xT_n (xT_l (s_copy d26_165 wd_829 wd_831 wd_830 wd_131 (by decide +kernel))) (xT_n (xT_l (yS (y_aload_eq _ _) (s_aload_n d26_168))) (xT_l (yS (y_getf_eq _ _ _) (s_getf (T := TX6) (N := 15) d26_169 rfl inX6 (by decide) wd_216)))))) (xT_n (xT_n (xT_l (s_iconst d26_172 (by decide +kernel))) (xT_n (xT_l (yS (y_aload_eq _ _) (s_aload_n d26_173))) (xT_l (yS (y_getf_eq _ _ _) (s_getf (T := TX6) (N := 15) d26_174 rfl inX6 (by decide) wd_216))))) (xT_n (xT_l (s_iconst d26_177 (by decide +kernel))) (xT_n (xT_l (s_sipush d26_178 (by decide +kernel))) (xT_l (s_copy d26_181 wd_829 wd_831 wd_830 wd_131 (by decide +kernel))))))))))
set_option maxRecDepth 100000 in
set_option maxHeartbeats 4000000 in
theorem M_26 : xMeth PX 26 (T_26, 2, [(184, 3)]) := ⟨⟨"CapitalCase$Script", "become", "(LCapitalCase$Script;)V"⟩, prog_8_method_6_code, none, rfl, by decide, fun G => T_26_ok G, xrt_ok (xR_c (Or.inr (Or.inr (Or.inl ⟨rfl, d26_184, rfl⟩))) (xR_n))⟩
theorem d27_0 : decode prog_8_method_3_code 0 = .ok (.aload_n 0, 1) := by decide +kernel
theorem d27_1 : decode prog_8_method_3_code 1 = .ok (.getfield 32, 3) := by decide +kernel
theorem d27_4 : decode prog_8_method_3_code 4 = .ok (.iload_n 1, 1) := by decide +kernel
theorem d27_5 : decode prog_8_method_3_code 5 = .ok (.aload_n 0, 1) := by decide +kernel
theorem d27_6 : decode prog_8_method_3_code 6 = .ok (.getfield 66, 3) := by decide +kernel
theorem d27_9 : decode prog_8_method_3_code 9 = .ok (.iastore, 1) := by decide +kernel
theorem d27_10 : decode prog_8_method_3_code 10 = .ok (.aload_n 0, 1) := by decide +kernel
theorem d27_11 : decode prog_8_method_3_code 11 = .ok (.iload_n 2, 1) := by decide +kernel
theorem d27_12 : decode prog_8_method_3_code 12 = .ok (.iload_n 3, 1) := by decide +kernel
theorem d27_13 : decode prog_8_method_3_code 13 = .ok (.invokevirtual 75, 3) := by decide +kernel
theorem d27_16 : decode prog_8_method_3_code 16 = .ok (.aload_n 0, 1) := by decide +kernel
theorem d27_17 : decode prog_8_method_3_code 17 = .ok (.bipush 7, 2) := by decide +kernel
theorem d27_19 : decode prog_8_method_3_code 19 = .ok (.iconst 0, 1) := by decide +kernel
theorem d27_20 : decode prog_8_method_3_code 20 = .ok (.invokevirtual 75, 3) := by decide +kernel
theorem d27_23 : decode prog_8_method_3_code 23 = .ok (.return_, 1) := by decide +kernel
noncomputable def T_27 : Nat → Option xF := bn 11 (bn 5 (bn 1 (bl 0 (y_aload 0 1)) (bn 4 (bl 1 (y_getf 6 11 4)) (bl 4 (y_iload 1 5)))) (bn 9 (bn 6 (bl 5 (y_aload 0 6)) (bl 6 (y_getf 6 14 9))) (bn 10 (bl 9 (y_iast 10)) (bl 10 (y_aload 0 11))))) (bn 16 (bn 12 (bl 11 (y_iload 2 12)) (bn 13 (bl 12 (y_iload 3 13)) (bl 13 (y_invV 6 25 3 16)))) (bn 19 (bn 17 (bl 16 (y_aload 0 17)) (bl 17 (x_const 2147483655 19))) (bn 20 (bl 19 (x_const 2147483648 20)) (bl 20 (y_invV 6 25 3 23)))))
set_option maxRecDepth 100000 in
set_option maxHeartbeats 4000000 in
theorem T_27_ok (G : State → Nat → Nat → Prop) : xTree PX G prog_8_method_3_code "CapitalCase$Script" false T_27 := (xT_n (xT_n (xT_n (xT_l (yS (y_aload_eq _ _) (s_aload_n d27_0))) (xT_n (xT_l (yS (y_getf_eq _ _ _) (s_getf (T := TX6) (N := 15) d27_1 rfl inX6 (by decide) wd_211))) (xT_l (yS (y_iload_eq _ _) (s_iload_n d27_4))))) (xT_n (xT_n (xT_l (yS (y_aload_eq _ _) (s_aload_n d27_5))) (xT_l (yS (y_getf_eq _ _ _) (s_getf (T := TX6) (N := 15) d27_6 rfl inX6 (by decide) wd_218)))) (xT_n (xT_l (yS (y_iast_eq _) (s_iast d27_9))) (xT_l (yS (y_aload_eq _ _) (s_aload_n d27_10)))))) (xT_n (xT_n (xT_l (yS (y_iload_eq _ _) (s_iload_n d27_11))) (xT_n (xT_l (yS (y_iload_eq _ _) (s_iload_n d27_12))) (xT_l (yS (y_invV_eq _ _ _ _) (s_invV (T := TX6) d27_13 cal_25 rfl wd_158 wd_159 wd_160))))) (xT_n (xT_n (xT_l (yS (y_aload_eq _ _) (s_aload_n d27_16))) (xT_l (s_bipush d27_17 (by decide +kernel)))) (xT_n (xT_l (s_iconst d27_19 (by decide +kernel))) (xT_l (yS (y_invV_eq _ _ _ _) (s_invV (T := TX6) d27_20 cal_25 rfl wd_158 wd_159 wd_160)))))))
set_option maxRecDepth 100000 in
set_option maxHeartbeats 4000000 in
theorem M_27 : xMeth PX 27 (T_27, 4, [(23, 3)]) := ⟨⟨"CapitalCase$Script", "layDown", "(III)V"⟩, prog_8_method_3_code, none, rfl, by decide, fun G => T_27_ok G, xrt_ok (xR_c (Or.inr (Or.inr (Or.inl ⟨rfl, d27_23, rfl⟩))) (xR_n))⟩
theorem d28_0 : decode prog_8_method_2_code 0 = .ok (.aload_n 0, 1) := by decide +kernel
theorem d28_1 : decode prog_8_method_2_code 1 = .ok (.iconst 0, 1) := by decide +kernel
theorem d28_2 : decode prog_8_method_2_code 2 = .ok (.putfield 44, 3) := by decide +kernel
theorem d28_5 : decode prog_8_method_2_code 5 = .ok (.aload_n 0, 1) := by decide +kernel
theorem d28_6 : decode prog_8_method_2_code 6 = .ok (.iconst 0, 1) := by decide +kernel
theorem d28_7 : decode prog_8_method_2_code 7 = .ok (.putfield 48, 3) := by decide +kernel
theorem d28_10 : decode prog_8_method_2_code 10 = .ok (.aload_n 0, 1) := by decide +kernel
theorem d28_11 : decode prog_8_method_2_code 11 = .ok (.bipush 20, 2) := by decide +kernel
theorem d28_13 : decode prog_8_method_2_code 13 = .ok (.putfield 51, 3) := by decide +kernel
theorem d28_16 : decode prog_8_method_2_code 16 = .ok (.aload_n 0, 1) := by decide +kernel
theorem d28_17 : decode prog_8_method_2_code 17 = .ok (.iconst 0, 1) := by decide +kernel
theorem d28_18 : decode prog_8_method_2_code 18 = .ok (.putfield 54, 3) := by decide +kernel
theorem d28_21 : decode prog_8_method_2_code 21 = .ok (.aload_n 0, 1) := by decide +kernel
theorem d28_22 : decode prog_8_method_2_code 22 = .ok (.iconst 0, 1) := by decide +kernel
theorem d28_23 : decode prog_8_method_2_code 23 = .ok (.putfield 57, 3) := by decide +kernel
theorem d28_26 : decode prog_8_method_2_code 26 = .ok (.aload_n 0, 1) := by decide +kernel
theorem d28_27 : decode prog_8_method_2_code 27 = .ok (.getfield 13, 3) := by decide +kernel
theorem d28_30 : decode prog_8_method_2_code 30 = .ok (.iconst 0, 1) := by decide +kernel
theorem d28_31 : decode prog_8_method_2_code 31 = .ok (.invokestatic 60, 3) := by decide +kernel
theorem d28_34 : decode prog_8_method_2_code 34 = .ok (.aload_n 0, 1) := by decide +kernel
theorem d28_35 : decode prog_8_method_2_code 35 = .ok (.getfield 29, 3) := by decide +kernel
theorem d28_38 : decode prog_8_method_2_code 38 = .ok (.iconst 0, 1) := by decide +kernel
theorem d28_39 : decode prog_8_method_2_code 39 = .ok (.invokestatic 60, 3) := by decide +kernel
theorem d28_42 : decode prog_8_method_2_code 42 = .ok (.aload_n 0, 1) := by decide +kernel
theorem d28_43 : decode prog_8_method_2_code 43 = .ok (.iconst 0, 1) := by decide +kernel
theorem d28_44 : decode prog_8_method_2_code 44 = .ok (.putfield 66, 3) := by decide +kernel
theorem d28_47 : decode prog_8_method_2_code 47 = .ok (.aload_n 0, 1) := by decide +kernel
theorem d28_48 : decode prog_8_method_2_code 48 = .ok (.iconst 0, 1) := by decide +kernel
theorem d28_49 : decode prog_8_method_2_code 49 = .ok (.iconst 0, 1) := by decide +kernel
theorem d28_50 : decode prog_8_method_2_code 50 = .ok (.iconst 1, 1) := by decide +kernel
theorem d28_51 : decode prog_8_method_2_code 51 = .ok (.invokevirtual 69, 3) := by decide +kernel
theorem d28_54 : decode prog_8_method_2_code 54 = .ok (.aload_n 0, 1) := by decide +kernel
theorem d28_55 : decode prog_8_method_2_code 55 = .ok (.iconst 1, 1) := by decide +kernel
theorem d28_56 : decode prog_8_method_2_code 56 = .ok (.iconst 0, 1) := by decide +kernel
theorem d28_57 : decode prog_8_method_2_code 57 = .ok (.iconst 0, 1) := by decide +kernel
theorem d28_58 : decode prog_8_method_2_code 58 = .ok (.invokevirtual 69, 3) := by decide +kernel
theorem d28_61 : decode prog_8_method_2_code 61 = .ok (.aload_n 0, 1) := by decide +kernel
theorem d28_62 : decode prog_8_method_2_code 62 = .ok (.iconst 2, 1) := by decide +kernel
theorem d28_63 : decode prog_8_method_2_code 63 = .ok (.iconst 0, 1) := by decide +kernel
theorem d28_64 : decode prog_8_method_2_code 64 = .ok (.iconst 1, 1) := by decide +kernel
theorem d28_65 : decode prog_8_method_2_code 65 = .ok (.invokevirtual 69, 3) := by decide +kernel
theorem d28_68 : decode prog_8_method_2_code 68 = .ok (.aload_n 0, 1) := by decide +kernel
theorem d28_69 : decode prog_8_method_2_code 69 = .ok (.iconst 3, 1) := by decide +kernel
theorem d28_70 : decode prog_8_method_2_code 70 = .ok (.iconst 1, 1) := by decide +kernel
theorem d28_71 : decode prog_8_method_2_code 71 = .ok (.iconst 0, 1) := by decide +kernel
theorem d28_72 : decode prog_8_method_2_code 72 = .ok (.invokevirtual 69, 3) := by decide +kernel
theorem d28_75 : decode prog_8_method_2_code 75 = .ok (.return_, 1) := by decide +kernel
noncomputable def T_28 : Nat → Option xF := bn 42 (bn 18 (bn 7 (bn 2 (bn 1 (bl 0 (y_aload 0 1)) (bl 1 (x_const 2147483648 2))) (bn 5 (bl 2 (y_putf 6 0 0 5)) (bn 6 (bl 5 (y_aload 0 6)) (bl 6 (x_const 2147483648 7))))) (bn 13 (bn 10 (bl 7 (y_putf 6 1 0 10)) (bn 11 (bl 10 (y_aload 0 11)) (bl 11 (x_const 2147483668 13)))) (bn 16 (bl 13 (y_putf 6 4 0 16)) (bn 17 (bl 16 (y_aload 0 17)) (bl 17 (x_const 2147483648 18)))))) (bn 30 (bn 23 (bn 21 (bl 18 (y_putf 6 2 0 21)) (bn 22 (bl 21 (y_aload 0 22)) (bl 22 (x_const 2147483648 23)))) (bn 26 (bl 23 (y_putf 6 3 0 26)) (bn 27 (bl 26 (y_aload 0 27)) (bl 27 (y_getf 6 5 30))))) (bn 35 (bn 31 (bl 30 (x_const 2147483648 31)) (bn 34 (bl 31 (y_inv 156 2 34)) (bl 34 (y_aload 0 35)))) (bn 38 (bl 35 (y_getf 6 10 38)) (bn 39 (bl 38 (x_const 2147483648 39)) (bl 39 (y_inv 156 2 42))))))) (bn 57 (bn 49 (bn 44 (bn 43 (bl 42 (y_aload 0 43)) (bl 43 (x_const 2147483648 44))) (bn 47 (bl 44 (y_putf 6 14 0 47)) (bn 48 (bl 47 (y_aload 0 48)) (bl 48 (x_const 2147483648 49))))) (bn 54 (bn 50 (bl 49 (x_const 2147483648 50)) (bn 51 (bl 50 (x_const 2147483649 51)) (bl 51 (y_invV 6 27 4 54)))) (bn 55 (bl 54 (y_aload 0 55)) (bn 56 (bl 55 (x_const 2147483649 56)) (bl 56 (x_const 2147483648 57)))))) (bn 65 (bn 62 (bn 58 (bl 57 (x_const 2147483648 58)) (bn 61 (bl 58 (y_invV 6 27 4 61)) (bl 61 (y_aload 0 62)))) (bn 63 (bl 62 (x_const 2147483650 63)) (bn 64 (bl 63 (x_const 2147483648 64)) (bl 64 (x_const 2147483649 65))))) (bn 70 (bn 68 (bl 65 (y_invV 6 27 4 68)) (bn 69 (bl 68 (y_aload 0 69)) (bl 69 (x_const 2147483651 70)))) (bn 71 (bl 70 (x_const 2147483649 71)) (bn 72 (bl 71 (x_const 2147483648 72)) (bl 72 (y_invV 6 27 4 75)))))))
set_option maxRecDepth 100000 in
set_option maxHeartbeats 4000000 in
theorem T_28_ok (G : State → Nat → Nat → Prop) : xTree PX G prog_8_method_2_code "CapitalCase$Script" false T_28 := (xT_n (xT_n (xT_n (xT_n (xT_n (xT_l (yS (y_aload_eq _ _) (s_aload_n d28_0))) (xT_l (s_iconst d28_1 (by decide +kernel)))) (xT_n (xT_l (yS (y_putf_eq _ _ _ _) (s_putf (T := TX6) (N := 15) (ty := tyX6) d28_2 rfl inX6 tyX6_ok nmX6 (by decide) wd_162 (Or.inl ⟨rfl, rfl⟩) rfl))) (xT_n (xT_l (yS (y_aload_eq _ _) (s_aload_n d28_5))) (xT_l (s_iconst d28_6 (by decide +kernel)))))) (xT_n (xT_n (xT_l (yS (y_putf_eq _ _ _ _) (s_putf (T := TX6) (N := 15) (ty := tyX6) d28_7 rfl inX6 tyX6_ok nmX6 (by decide) wd_169 (Or.inl ⟨rfl, rfl⟩) rfl))) (xT_n (xT_l (yS (y_aload_eq _ _) (s_aload_n d28_10))) (xT_l (s_bipush d28_11 (by decide +kernel))))) (xT_n (xT_l (yS (y_putf_eq _ _ _ _) (s_putf (T := TX6) (N := 15) (ty := tyX6) d28_13 rfl inX6 tyX6_ok nmX6 (by decide) wd_175 (Or.inl ⟨rfl, rfl⟩) rfl))) (xT_n (xT_l (yS (y_aload_eq _ _) (s_aload_n d28_16))) (xT_l (s_iconst d28_17 (by decide +kernel))))))) (xT_n (xT_n (xT_n (xT_l (yS (y_putf_eq _ _ _ _) (s_putf (T := TX6) (N := 15) (ty := tyX6) d28_18 rfl inX6 tyX6_ok nmX6 (by decide) wd_178 (Or.inl ⟨rfl, rfl⟩) rfl))) (xT_n (xT_l (yS (y_aload_eq _ _) (s_aload_n d28_21))) (xT_l (s_iconst d28_22 (by decide +kernel))))) (xT_n (xT_l (yS (y_putf_eq _ _ _ _) (s_putf (T := TX6) (N := 15) (ty := tyX6) d28_23 rfl inX6 tyX6_ok nmX6 (by decide) wd_181 (Or.inl ⟨rfl, rfl⟩) rfl))) (xT_n (xT_l (yS (y_aload_eq _ _) (s_aload_n d28_26))) (xT_l (yS (y_getf_eq _ _ _) (s_getf (T := TX6) (N := 15) d28_27 rfl inX6 (by decide) wd_184)))))) (xT_n (xT_n (xT_l (s_iconst d28_30 (by decide +kernel))) (xT_n (xT_l (yS (y_inv_eq _ _ _) (s_invS d28_31 cal_156 wd_151 wd_152))) (xT_l (yS (y_aload_eq _ _) (s_aload_n d28_34))))) (xT_n (xT_l (yS (y_getf_eq _ _ _) (s_getf (T := TX6) (N := 15) d28_35 rfl inX6 (by decide) wd_207))) (xT_n (xT_l (s_iconst d28_38 (by decide +kernel))) (xT_l (yS (y_inv_eq _ _ _) (s_invS d28_39 cal_156 wd_151 wd_152)))))))) (xT_n (xT_n (xT_n (xT_n (xT_l (yS (y_aload_eq _ _) (s_aload_n d28_42))) (xT_l (s_iconst d28_43 (by decide +kernel)))) (xT_n (xT_l (yS (y_putf_eq _ _ _ _) (s_putf (T := TX6) (N := 15) (ty := tyX6) d28_44 rfl inX6 tyX6_ok nmX6 (by decide) wd_218 (Or.inl ⟨rfl, rfl⟩) rfl))) (xT_n (xT_l (yS (y_aload_eq _ _) (s_aload_n d28_47))) (xT_l (s_iconst d28_48 (by decide +kernel)))))) (xT_n (xT_n (xT_l (s_iconst d28_49 (by decide +kernel))) (xT_n (xT_l (s_iconst d28_50 (by decide +kernel))) (xT_l (yS (y_invV_eq _ _ _ _) (s_invV (T := TX6) d28_51 cal_27 rfl wd_154 wd_156 wd_0))))) (xT_n (xT_l (yS (y_aload_eq _ _) (s_aload_n d28_54))) (xT_n (xT_l (s_iconst d28_55 (by decide +kernel))) (xT_l (s_iconst d28_56 (by decide +kernel))))))) (xT_n (xT_n (xT_n (xT_l (s_iconst d28_57 (by decide +kernel))) (xT_n (xT_l (yS (y_invV_eq _ _ _ _) (s_invV (T := TX6) d28_58 cal_27 rfl wd_154 wd_156 wd_0))) (xT_l (yS (y_aload_eq _ _) (s_aload_n d28_61))))) (xT_n (xT_l (s_iconst d28_62 (by decide +kernel))) (xT_n (xT_l (s_iconst d28_63 (by decide +kernel))) (xT_l (s_iconst d28_64 (by decide +kernel)))))) (xT_n (xT_n (xT_l (yS (y_invV_eq _ _ _ _) (s_invV (T := TX6) d28_65 cal_27 rfl wd_154 wd_156 wd_0))) (xT_n (xT_l (yS (y_aload_eq _ _) (s_aload_n d28_68))) (xT_l (s_iconst d28_69 (by decide +kernel))))) (xT_n (xT_l (s_iconst d28_70 (by decide +kernel))) (xT_n (xT_l (s_iconst d28_71 (by decide +kernel))) (xT_l (yS (y_invV_eq _ _ _ _) (s_invV (T := TX6) d28_72 cal_27 rfl wd_154 wd_156 wd_0)))))))))
set_option maxRecDepth 100000 in
set_option maxHeartbeats 4000000 in
theorem M_28 : xMeth PX 28 (T_28, 1, [(75, 3)]) := ⟨⟨"CapitalCase$Script", "wipe", "()V"⟩, prog_8_method_2_code, none, rfl, by decide, fun G => T_28_ok G, xrt_ok (xR_c (Or.inr (Or.inr (Or.inl ⟨rfl, d28_75, rfl⟩))) (xR_n))⟩
theorem d29_0 : decode prog_9_method_1_code 0 = .ok (.aload_n 0, 1) := by decide +kernel
theorem d29_1 : decode prog_9_method_1_code 1 = .ok (.invokespecial 3, 3) := by decide +kernel
theorem d29_4 : decode prog_9_method_1_code 4 = .ok (.aload_n 0, 1) := by decide +kernel
theorem d29_5 : decode prog_9_method_1_code 5 = .ok (.sipush 401, 3) := by decide +kernel
theorem d29_8 : decode prog_9_method_1_code 8 = .ok (.newarray .int, 2) := by decide +kernel
theorem d29_10 : decode prog_9_method_1_code 10 = .ok (.putfield 9, 3) := by decide +kernel
theorem d29_13 : decode prog_9_method_1_code 13 = .ok (.aload_n 0, 1) := by decide +kernel
theorem d29_14 : decode prog_9_method_1_code 14 = .ok (.sipush 401, 3) := by decide +kernel
theorem d29_17 : decode prog_9_method_1_code 17 = .ok (.newarray .int, 2) := by decide +kernel
theorem d29_19 : decode prog_9_method_1_code 19 = .ok (.putfield 13, 3) := by decide +kernel
theorem d29_22 : decode prog_9_method_1_code 22 = .ok (.aload_n 0, 1) := by decide +kernel
theorem d29_23 : decode prog_9_method_1_code 23 = .ok (.sipush 401, 3) := by decide +kernel
theorem d29_26 : decode prog_9_method_1_code 26 = .ok (.newarray .int, 2) := by decide +kernel
theorem d29_28 : decode prog_9_method_1_code 28 = .ok (.putfield 16, 3) := by decide +kernel
theorem d29_31 : decode prog_9_method_1_code 31 = .ok (.return_, 1) := by decide +kernel
noncomputable def T_29 : Nat → Option xF := bn 14 (bn 5 (bn 1 (bl 0 (y_aload 0 1)) (bn 4 (bl 1 (x_obj 4)) (bl 4 (y_aload 0 5)))) (bn 10 (bn 8 (bl 5 (x_const 2147484049 8)) (bl 8 (x_newa 0 10))) (bn 13 (bl 10 (y_putf 7 0 2 13)) (bl 13 (y_aload 0 14))))) (bn 22 (bn 17 (bl 14 (x_const 2147484049 17)) (bn 19 (bl 17 (x_newa 0 19)) (bl 19 (y_putf 7 1 2 22)))) (bn 26 (bn 23 (bl 22 (y_aload 0 23)) (bl 23 (x_const 2147484049 26))) (bn 28 (bl 26 (x_newa 0 28)) (bl 28 (y_putf 7 2 2 31)))))
set_option maxRecDepth 100000 in
set_option maxHeartbeats 4000000 in
theorem T_29_ok (G : State → Nat → Nat → Prop) : xTree PX G prog_9_method_1_code "CapitalCase$Tokens" true T_29 := (xT_n (xT_n (xT_n (xT_l (yS (y_aload_eq _ _) (s_aload_n d29_0))) (xT_n (xT_l (s_obj d29_1 wd_267 wd_139 wd_obj)) (xT_l (yS (y_aload_eq _ _) (s_aload_n d29_4))))) (xT_n (xT_n (xT_l (s_sipush d29_5 (by decide +kernel))) (xT_l (s_newa (ty := .int) d29_8 rfl rfl wd_253 (by decide) (fun _ _ => rfl) (Or.inl ⟨by decide, rfl⟩)))) (xT_n (xT_l (yS (y_putf_eq _ _ _ _) (s_putF (T := TX7) (N := 3) (ty := tyX7) d29_10 rfl inX7 tyX7_ok nmX7 (by decide) wd_268 (Or.inr (Or.inr ⟨rfl, Or.inr ⟨_, rfl⟩⟩)) rfl rfl rfl))) (xT_l (yS (y_aload_eq _ _) (s_aload_n d29_13)))))) (xT_n (xT_n (xT_l (s_sipush d29_14 (by decide +kernel))) (xT_n (xT_l (s_newa (ty := .int) d29_17 rfl rfl wd_253 (by decide) (fun _ _ => rfl) (Or.inl ⟨by decide, rfl⟩))) (xT_l (yS (y_putf_eq _ _ _ _) (s_putF (T := TX7) (N := 3) (ty := tyX7) d29_19 rfl inX7 tyX7_ok nmX7 (by decide) wd_270 (Or.inr (Or.inr ⟨rfl, Or.inr ⟨_, rfl⟩⟩)) rfl rfl rfl))))) (xT_n (xT_n (xT_l (yS (y_aload_eq _ _) (s_aload_n d29_22))) (xT_l (s_sipush d29_23 (by decide +kernel)))) (xT_n (xT_l (s_newa (ty := .int) d29_26 rfl rfl wd_253 (by decide) (fun _ _ => rfl) (Or.inl ⟨by decide, rfl⟩))) (xT_l (yS (y_putf_eq _ _ _ _) (s_putF (T := TX7) (N := 3) (ty := tyX7) d29_28 rfl inX7 tyX7_ok nmX7 (by decide) wd_272 (Or.inr (Or.inr ⟨rfl, Or.inr ⟨_, rfl⟩⟩)) rfl rfl rfl)))))))
set_option maxRecDepth 100000 in
set_option maxHeartbeats 4000000 in
theorem M_29 : xMeth PX 29 (T_29, 1, [(31, 3)]) := ⟨⟨"CapitalCase$Tokens", "<init>", "()V"⟩, prog_9_method_1_code, none, rfl, by decide, fun G => T_29_ok G, xrt_ok (xR_c (Or.inr (Or.inr (Or.inl ⟨rfl, d29_31, rfl⟩))) (xR_n))⟩
theorem d30_0 : decode prog_9_method_2_code 0 = .ok (.iconst 0, 1) := by decide +kernel
theorem d30_1 : decode prog_9_method_2_code 1 = .ok (.istore_n 3, 1) := by decide +kernel
theorem d30_2 : decode prog_9_method_2_code 2 = .ok (.iconst 0, 1) := by decide +kernel
theorem d30_3 : decode prog_9_method_2_code 3 = .ok (.istore 4, 2) := by decide +kernel
theorem d30_5 : decode prog_9_method_2_code 5 = .ok (.iload 4, 2) := by decide +kernel
theorem d30_7 : decode prog_9_method_2_code 7 = .ok (.sipush 400, 3) := by decide +kernel
theorem d30_10 : decode prog_9_method_2_code 10 = .ok (.if_icmp .gt 119, 3) := by decide +kernel
theorem d30_13 : decode prog_9_method_2_code 13 = .ok (.iload_n 3, 1) := by decide +kernel
theorem d30_14 : decode prog_9_method_2_code 14 = .ok (.iload_n 2, 1) := by decide +kernel
theorem d30_15 : decode prog_9_method_2_code 15 = .ok (.if_icmp .ge 18, 3) := by decide +kernel
theorem d30_33 : decode prog_9_method_2_code 33 = .ok (.aload_n 0, 1) := by decide +kernel
theorem d30_34 : decode prog_9_method_2_code 34 = .ok (.getfield 13, 3) := by decide +kernel
theorem d30_37 : decode prog_9_method_2_code 37 = .ok (.iload 4, 2) := by decide +kernel
theorem d30_39 : decode prog_9_method_2_code 39 = .ok (.iload_n 3, 1) := by decide +kernel
theorem d30_40 : decode prog_9_method_2_code 40 = .ok (.iastore, 1) := by decide +kernel
theorem d30_41 : decode prog_9_method_2_code 41 = .ok (.aload_n 0, 1) := by decide +kernel
theorem d30_42 : decode prog_9_method_2_code 42 = .ok (.getfield 16, 3) := by decide +kernel
theorem d30_45 : decode prog_9_method_2_code 45 = .ok (.iload 4, 2) := by decide +kernel
theorem d30_47 : decode prog_9_method_2_code 47 = .ok (.iload_n 3, 1) := by decide +kernel
theorem d30_48 : decode prog_9_method_2_code 48 = .ok (.iload_n 2, 1) := by decide +kernel
theorem d30_49 : decode prog_9_method_2_code 49 = .ok (.if_icmp .ge 12, 3) := by decide +kernel
theorem d30_61 : decode prog_9_method_2_code 61 = .ok (.iconst 0, 1) := by decide +kernel
theorem d30_62 : decode prog_9_method_2_code 62 = .ok (.iastore, 1) := by decide +kernel
theorem d30_63 : decode prog_9_method_2_code 63 = .ok (.aload_n 0, 1) := by decide +kernel
theorem d30_64 : decode prog_9_method_2_code 64 = .ok (.getfield 9, 3) := by decide +kernel
theorem d30_67 : decode prog_9_method_2_code 67 = .ok (.iload 4, 2) := by decide +kernel
theorem d30_69 : decode prog_9_method_2_code 69 = .ok (.iload_n 3, 1) := by decide +kernel
theorem d30_70 : decode prog_9_method_2_code 70 = .ok (.iload_n 2, 1) := by decide +kernel
theorem d30_71 : decode prog_9_method_2_code 71 = .ok (.if_icmp .ge 18, 3) := by decide +kernel
theorem d30_89 : decode prog_9_method_2_code 89 = .ok (.iconst 0, 1) := by decide +kernel
theorem d30_90 : decode prog_9_method_2_code 90 = .ok (.iastore, 1) := by decide +kernel
theorem d30_91 : decode prog_9_method_2_code 91 = .ok (.aload_n 0, 1) := by decide +kernel
theorem d30_92 : decode prog_9_method_2_code 92 = .ok (.getfield 9, 3) := by decide +kernel
theorem d30_95 : decode prog_9_method_2_code 95 = .ok (.iload 4, 2) := by decide +kernel
theorem d30_97 : decode prog_9_method_2_code 97 = .ok (.iaload, 1) := by decide +kernel
theorem d30_98 : decode prog_9_method_2_code 98 = .ok (.ifCond .eq 14, 3) := by decide +kernel
theorem d30_112 : decode prog_9_method_2_code 112 = .ok (.return_, 1) := by decide +kernel
noncomputable def T_30 : Nat → Option xF := bn 47 (bn 15 (bn 5 (bn 2 (bn 1 (bl 0 (x_const 2147483648 1)) (bl 1 (y_istore 3 2))) (bn 3 (bl 2 (x_const 2147483648 3)) (bl 3 (y_istore 4 5)))) (bn 10 (bn 7 (bl 5 (y_iload 4 7)) (bl 7 (x_const 2147484048 10))) (bn 13 (bl 10 (y_icmp yc4 129 13)) (bn 14 (bl 13 (y_iload 3 14)) (bl 14 (y_iload 2 15)))))) (bn 39 (bn 34 (bn 33 (bl 15 (y_icmp yc3 33 18)) (bl 33 (y_aload 0 34))) (bn 37 (bl 34 (y_getf 7 1 37)) (bl 37 (y_iload 4 39)))) (bn 41 (bn 40 (bl 39 (y_iload 3 40)) (bl 40 (y_iast 41))) (bn 42 (bl 41 (y_aload 0 42)) (bn 45 (bl 42 (y_getf 7 2 45)) (bl 45 (y_iload 4 47))))))) (bn 70 (bn 62 (bn 49 (bn 48 (bl 47 (y_iload 3 48)) (bl 48 (y_iload 2 49))) (bn 61 (bl 49 (y_icmp yc3 61 52)) (bl 61 (x_const 2147483648 62)))) (bn 64 (bn 63 (bl 62 (y_iast 63)) (bl 63 (y_aload 0 64))) (bn 67 (bl 64 (y_getf 7 0 67)) (bn 69 (bl 67 (y_iload 4 69)) (bl 69 (y_iload 3 70)))))) (bn 91 (bn 89 (bn 71 (bl 70 (y_iload 2 71)) (bl 71 (y_icmp yc3 89 74))) (bn 90 (bl 89 (x_const 2147483648 90)) (bl 90 (y_iast 91)))) (bn 95 (bn 92 (bl 91 (y_aload 0 92)) (bl 92 (y_getf 7 0 95))) (bn 97 (bl 95 (y_iload 4 97)) (bn 98 (bl 97 (y_iald 98)) (bl 98 (y_if yc0 112 101)))))))
set_option maxRecDepth 100000 in
set_option maxHeartbeats 4000000 in
theorem T_30_ok (G : State → Nat → Nat → Prop) : xTree PX G prog_9_method_2_code "CapitalCase$Tokens" false T_30 := (xT_n (xT_n (xT_n (xT_n (xT_n (xT_l (s_iconst d30_0 (by decide +kernel))) (xT_l (yS (y_istore_eq _ _) (s_istore_n d30_1)))) (xT_n (xT_l (s_iconst d30_2 (by decide +kernel))) (xT_l (yS (y_istore_eq _ _) (s_istore d30_3))))) (xT_n (xT_n (xT_l (yS (y_iload_eq _ _) (s_iload d30_5))) (xT_l (s_sipush d30_7 (by decide +kernel)))) (xT_n (xT_l (yS (y_icmp_eq yc4_eq _ _) (s_icmpgt d30_10 (by decide +kernel)))) (xT_n (xT_l (yS (y_iload_eq _ _) (s_iload_n d30_13))) (xT_l (yS (y_iload_eq _ _) (s_iload_n d30_14))))))) (xT_n (xT_n (xT_n (xT_l (yS (y_icmp_eq yc3_eq _ _) (s_icmpge d30_15 (by decide +kernel)))) (xT_l (yS (y_aload_eq _ _) (s_aload_n d30_33)))) (xT_n (xT_l (yS (y_getf_eq _ _ _) (s_getf (T := TX7) (N := 3) d30_34 rfl inX7 (by decide) wd_270))) (xT_l (yS (y_iload_eq _ _) (s_iload d30_37))))) (xT_n (xT_n (xT_l (yS (y_iload_eq _ _) (s_iload_n d30_39))) (xT_l (yS (y_iast_eq _) (s_iast d30_40)))) (xT_n (xT_l (yS (y_aload_eq _ _) (s_aload_n d30_41))) (xT_n (xT_l (yS (y_getf_eq _ _ _) (s_getf (T := TX7) (N := 3) d30_42 rfl inX7 (by decide) wd_272))) (xT_l (yS (y_iload_eq _ _) (s_iload d30_45)))))))) (xT_n (xT_n (xT_n (xT_n (xT_l (yS (y_iload_eq _ _) (s_iload_n d30_47))) (xT_l (yS (y_iload_eq _ _) (s_iload_n d30_48)))) (xT_n (xT_l (yS (y_icmp_eq yc3_eq _ _) (s_icmpge d30_49 (by decide +kernel)))) (xT_l (s_iconst d30_61 (by decide +kernel))))) (xT_n (xT_n (xT_l (yS (y_iast_eq _) (s_iast d30_62))) (xT_l (yS (y_aload_eq _ _) (s_aload_n d30_63)))) (xT_n (xT_l (yS (y_getf_eq _ _ _) (s_getf (T := TX7) (N := 3) d30_64 rfl inX7 (by decide) wd_268))) (xT_n (xT_l (yS (y_iload_eq _ _) (s_iload d30_67))) (xT_l (yS (y_iload_eq _ _) (s_iload_n d30_69))))))) (xT_n (xT_n (xT_n (xT_l (yS (y_iload_eq _ _) (s_iload_n d30_70))) (xT_l (yS (y_icmp_eq yc3_eq _ _) (s_icmpge d30_71 (by decide +kernel))))) (xT_n (xT_l (s_iconst d30_89 (by decide +kernel))) (xT_l (yS (y_iast_eq _) (s_iast d30_90))))) (xT_n (xT_n (xT_l (yS (y_aload_eq _ _) (s_aload_n d30_91))) (xT_l (yS (y_getf_eq _ _ _) (s_getf (T := TX7) (N := 3) d30_92 rfl inX7 (by decide) wd_268)))) (xT_n (xT_l (yS (y_iload_eq _ _) (s_iload d30_95))) (xT_n (xT_l (yS (y_iald_eq _) (s_iald d30_97))) (xT_l (yS (y_if_eq yc0_eq _ _) (s_ifeq d30_98 (by decide +kernel))))))))))
set_option maxRecDepth 100000 in
set_option maxHeartbeats 4000000 in
theorem M_30 : xMeth PX 30 (T_30, 5, [(112, 3)]) := ⟨⟨"CapitalCase$Tokens", "scan", "([BI)V"⟩, prog_9_method_2_code, none, rfl, by decide, fun G => T_30_ok G, xrt_ok (xR_c (Or.inr (Or.inr (Or.inl ⟨rfl, d30_112, rfl⟩))) (xR_n))⟩
theorem d31_0 : decode prog_10_method_1_code 0 = .ok (.aload_n 0, 1) := by decide +kernel
theorem d31_1 : decode prog_10_method_1_code 1 = .ok (.invokespecial 3, 3) := by decide +kernel
theorem d31_4 : decode prog_10_method_1_code 4 = .ok (.aload_n 0, 1) := by decide +kernel
theorem d31_5 : decode prog_10_method_1_code 5 = .ok (.bipush 40, 2) := by decide +kernel
theorem d31_7 : decode prog_10_method_1_code 7 = .ok (.newarray .int, 2) := by decide +kernel
theorem d31_9 : decode prog_10_method_1_code 9 = .ok (.putfield 9, 3) := by decide +kernel
theorem d31_12 : decode prog_10_method_1_code 12 = .ok (.aload_n 0, 1) := by decide +kernel
theorem d31_13 : decode prog_10_method_1_code 13 = .ok (.bipush 40, 2) := by decide +kernel
theorem d31_15 : decode prog_10_method_1_code 15 = .ok (.newarray .int, 2) := by decide +kernel
theorem d31_17 : decode prog_10_method_1_code 17 = .ok (.putfield 15, 3) := by decide +kernel
theorem d31_20 : decode prog_10_method_1_code 20 = .ok (.aload_n 0, 1) := by decide +kernel
theorem d31_21 : decode prog_10_method_1_code 21 = .ok (.bipush 40, 2) := by decide +kernel
theorem d31_23 : decode prog_10_method_1_code 23 = .ok (.newarray .int, 2) := by decide +kernel
theorem d31_25 : decode prog_10_method_1_code 25 = .ok (.putfield 18, 3) := by decide +kernel
theorem d31_28 : decode prog_10_method_1_code 28 = .ok (.aload_n 0, 1) := by decide +kernel
theorem d31_29 : decode prog_10_method_1_code 29 = .ok (.sipush 200, 3) := by decide +kernel
theorem d31_32 : decode prog_10_method_1_code 32 = .ok (.newarray .int, 2) := by decide +kernel
theorem d31_34 : decode prog_10_method_1_code 34 = .ok (.putfield 21, 3) := by decide +kernel
theorem d31_37 : decode prog_10_method_1_code 37 = .ok (.aload_n 0, 1) := by decide +kernel
theorem d31_38 : decode prog_10_method_1_code 38 = .ok (.bipush 56, 2) := by decide +kernel
theorem d31_40 : decode prog_10_method_1_code 40 = .ok (.newarray .int, 2) := by decide +kernel
theorem d31_42 : decode prog_10_method_1_code 42 = .ok (.putfield 24, 3) := by decide +kernel
theorem d31_45 : decode prog_10_method_1_code 45 = .ok (.return_, 1) := by decide +kernel
noncomputable def T_31 : Nat → Option xF := bn 21 (bn 9 (bn 4 (bn 1 (bl 0 (y_aload 0 1)) (bl 1 (x_obj 4))) (bn 5 (bl 4 (y_aload 0 5)) (bn 7 (bl 5 (x_const 2147483688 7)) (bl 7 (x_newa 0 9))))) (bn 15 (bn 12 (bl 9 (y_putf 8 0 2 12)) (bn 13 (bl 12 (y_aload 0 13)) (bl 13 (x_const 2147483688 15)))) (bn 17 (bl 15 (x_newa 0 17)) (bn 20 (bl 17 (y_putf 8 1 2 20)) (bl 20 (y_aload 0 21)))))) (bn 32 (bn 25 (bn 23 (bl 21 (x_const 2147483688 23)) (bl 23 (x_newa 0 25))) (bn 28 (bl 25 (y_putf 8 2 2 28)) (bn 29 (bl 28 (y_aload 0 29)) (bl 29 (x_const 2147483848 32))))) (bn 38 (bn 34 (bl 32 (x_newa 0 34)) (bn 37 (bl 34 (y_putf 8 3 2 37)) (bl 37 (y_aload 0 38)))) (bn 40 (bl 38 (x_const 2147483704 40)) (bn 42 (bl 40 (x_newa 0 42)) (bl 42 (y_putf 8 4 2 45))))))
set_option maxRecDepth 100000 in
set_option maxHeartbeats 4000000 in
theorem T_31_ok (G : State → Nat → Nat → Prop) : xTree PX G prog_10_method_1_code "CapitalCase$Town" true T_31 := (xT_n (xT_n (xT_n (xT_n (xT_l (yS (y_aload_eq _ _) (s_aload_n d31_0))) (xT_l (s_obj d31_1 wd_319 wd_139 wd_obj))) (xT_n (xT_l (yS (y_aload_eq _ _) (s_aload_n d31_4))) (xT_n (xT_l (s_bipush d31_5 (by decide +kernel))) (xT_l (s_newa (ty := .int) d31_7 rfl rfl wd_253 (by decide) (fun _ _ => rfl) (Or.inl ⟨by decide, rfl⟩)))))) (xT_n (xT_n (xT_l (yS (y_putf_eq _ _ _ _) (s_putF (T := TX8) (N := 10) (ty := tyX8) d31_9 rfl inX8 tyX8_ok nmX8 (by decide) wd_320 (Or.inr (Or.inr ⟨rfl, Or.inr ⟨_, rfl⟩⟩)) rfl rfl rfl))) (xT_n (xT_l (yS (y_aload_eq _ _) (s_aload_n d31_12))) (xT_l (s_bipush d31_13 (by decide +kernel))))) (xT_n (xT_l (s_newa (ty := .int) d31_15 rfl rfl wd_253 (by decide) (fun _ _ => rfl) (Or.inl ⟨by decide, rfl⟩))) (xT_n (xT_l (yS (y_putf_eq _ _ _ _) (s_putF (T := TX8) (N := 10) (ty := tyX8) d31_17 rfl inX8 tyX8_ok nmX8 (by decide) wd_325 (Or.inr (Or.inr ⟨rfl, Or.inr ⟨_, rfl⟩⟩)) rfl rfl rfl))) (xT_l (yS (y_aload_eq _ _) (s_aload_n d31_20))))))) (xT_n (xT_n (xT_n (xT_l (s_bipush d31_21 (by decide +kernel))) (xT_l (s_newa (ty := .int) d31_23 rfl rfl wd_253 (by decide) (fun _ _ => rfl) (Or.inl ⟨by decide, rfl⟩)))) (xT_n (xT_l (yS (y_putf_eq _ _ _ _) (s_putF (T := TX8) (N := 10) (ty := tyX8) d31_25 rfl inX8 tyX8_ok nmX8 (by decide) wd_329 (Or.inr (Or.inr ⟨rfl, Or.inr ⟨_, rfl⟩⟩)) rfl rfl rfl))) (xT_n (xT_l (yS (y_aload_eq _ _) (s_aload_n d31_28))) (xT_l (s_sipush d31_29 (by decide +kernel)))))) (xT_n (xT_n (xT_l (s_newa (ty := .int) d31_32 rfl rfl wd_253 (by decide) (fun _ _ => rfl) (Or.inl ⟨by decide, rfl⟩))) (xT_n (xT_l (yS (y_putf_eq _ _ _ _) (s_putF (T := TX8) (N := 10) (ty := tyX8) d31_34 rfl inX8 tyX8_ok nmX8 (by decide) wd_334 (Or.inr (Or.inr ⟨rfl, Or.inr ⟨_, rfl⟩⟩)) rfl rfl rfl))) (xT_l (yS (y_aload_eq _ _) (s_aload_n d31_37))))) (xT_n (xT_l (s_bipush d31_38 (by decide +kernel))) (xT_n (xT_l (s_newa (ty := .int) d31_40 rfl rfl wd_253 (by decide) (fun _ _ => rfl) (Or.inl ⟨by decide, rfl⟩))) (xT_l (yS (y_putf_eq _ _ _ _) (s_putF (T := TX8) (N := 10) (ty := tyX8) d31_42 rfl inX8 tyX8_ok nmX8 (by decide) wd_336 (Or.inr (Or.inr ⟨rfl, Or.inr ⟨_, rfl⟩⟩)) rfl rfl rfl))))))))
set_option maxRecDepth 100000 in
set_option maxHeartbeats 4000000 in
theorem M_31 : xMeth PX 31 (T_31, 1, [(45, 3)]) := ⟨⟨"CapitalCase$Town", "<init>", "()V"⟩, prog_10_method_1_code, none, rfl, by decide, fun G => T_31_ok G, xrt_ok (xR_c (Or.inr (Or.inr (Or.inl ⟨rfl, d31_45, rfl⟩))) (xR_n))⟩
theorem d32_0 : decode prog_10_method_3_code 0 = .ok (.aload_n 1, 1) := by decide +kernel
theorem d32_1 : decode prog_10_method_3_code 1 = .ok (.getfield 9, 3) := by decide +kernel
theorem d32_4 : decode prog_10_method_3_code 4 = .ok (.iconst 0, 1) := by decide +kernel
theorem d32_5 : decode prog_10_method_3_code 5 = .ok (.aload_n 0, 1) := by decide +kernel
theorem d32_6 : decode prog_10_method_3_code 6 = .ok (.getfield 9, 3) := by decide +kernel
theorem d32_9 : decode prog_10_method_3_code 9 = .ok (.iconst 0, 1) := by decide +kernel
theorem d32_10 : decode prog_10_method_3_code 10 = .ok (.bipush 40, 2) := by decide +kernel
theorem d32_12 : decode prog_10_method_3_code 12 = .ok (.invokestatic 32, 3) := by decide +kernel
theorem d32_15 : decode prog_10_method_3_code 15 = .ok (.aload_n 1, 1) := by decide +kernel
theorem d32_16 : decode prog_10_method_3_code 16 = .ok (.getfield 15, 3) := by decide +kernel
theorem d32_19 : decode prog_10_method_3_code 19 = .ok (.iconst 0, 1) := by decide +kernel
theorem d32_20 : decode prog_10_method_3_code 20 = .ok (.aload_n 0, 1) := by decide +kernel
theorem d32_21 : decode prog_10_method_3_code 21 = .ok (.getfield 15, 3) := by decide +kernel
theorem d32_24 : decode prog_10_method_3_code 24 = .ok (.iconst 0, 1) := by decide +kernel
theorem d32_25 : decode prog_10_method_3_code 25 = .ok (.bipush 40, 2) := by decide +kernel
theorem d32_27 : decode prog_10_method_3_code 27 = .ok (.invokestatic 32, 3) := by decide +kernel
theorem d32_30 : decode prog_10_method_3_code 30 = .ok (.aload_n 1, 1) := by decide +kernel
theorem d32_31 : decode prog_10_method_3_code 31 = .ok (.getfield 18, 3) := by decide +kernel
theorem d32_34 : decode prog_10_method_3_code 34 = .ok (.iconst 0, 1) := by decide +kernel
theorem d32_35 : decode prog_10_method_3_code 35 = .ok (.aload_n 0, 1) := by decide +kernel
theorem d32_36 : decode prog_10_method_3_code 36 = .ok (.getfield 18, 3) := by decide +kernel
theorem d32_39 : decode prog_10_method_3_code 39 = .ok (.iconst 0, 1) := by decide +kernel
theorem d32_40 : decode prog_10_method_3_code 40 = .ok (.bipush 40, 2) := by decide +kernel
theorem d32_42 : decode prog_10_method_3_code 42 = .ok (.invokestatic 32, 3) := by decide +kernel
theorem d32_45 : decode prog_10_method_3_code 45 = .ok (.aload_n 1, 1) := by decide +kernel
theorem d32_46 : decode prog_10_method_3_code 46 = .ok (.getfield 21, 3) := by decide +kernel
theorem d32_49 : decode prog_10_method_3_code 49 = .ok (.iconst 0, 1) := by decide +kernel
theorem d32_50 : decode prog_10_method_3_code 50 = .ok (.aload_n 0, 1) := by decide +kernel
theorem d32_51 : decode prog_10_method_3_code 51 = .ok (.getfield 21, 3) := by decide +kernel
theorem d32_54 : decode prog_10_method_3_code 54 = .ok (.iconst 0, 1) := by decide +kernel
theorem d32_55 : decode prog_10_method_3_code 55 = .ok (.sipush 200, 3) := by decide +kernel
theorem d32_58 : decode prog_10_method_3_code 58 = .ok (.invokestatic 32, 3) := by decide +kernel
theorem d32_61 : decode prog_10_method_3_code 61 = .ok (.aload_n 1, 1) := by decide +kernel
theorem d32_62 : decode prog_10_method_3_code 62 = .ok (.getfield 24, 3) := by decide +kernel
theorem d32_65 : decode prog_10_method_3_code 65 = .ok (.iconst 0, 1) := by decide +kernel
theorem d32_66 : decode prog_10_method_3_code 66 = .ok (.aload_n 0, 1) := by decide +kernel
theorem d32_67 : decode prog_10_method_3_code 67 = .ok (.getfield 24, 3) := by decide +kernel
theorem d32_70 : decode prog_10_method_3_code 70 = .ok (.iconst 0, 1) := by decide +kernel
theorem d32_71 : decode prog_10_method_3_code 71 = .ok (.bipush 56, 2) := by decide +kernel
theorem d32_73 : decode prog_10_method_3_code 73 = .ok (.invokestatic 32, 3) := by decide +kernel
theorem d32_76 : decode prog_10_method_3_code 76 = .ok (.aload_n 0, 1) := by decide +kernel
theorem d32_77 : decode prog_10_method_3_code 77 = .ok (.aload_n 1, 1) := by decide +kernel
theorem d32_78 : decode prog_10_method_3_code 78 = .ok (.getfield 44, 3) := by decide +kernel
theorem d32_81 : decode prog_10_method_3_code 81 = .ok (.putfield 44, 3) := by decide +kernel
theorem d32_84 : decode prog_10_method_3_code 84 = .ok (.aload_n 0, 1) := by decide +kernel
theorem d32_85 : decode prog_10_method_3_code 85 = .ok (.aload_n 1, 1) := by decide +kernel
theorem d32_86 : decode prog_10_method_3_code 86 = .ok (.getfield 48, 3) := by decide +kernel
theorem d32_89 : decode prog_10_method_3_code 89 = .ok (.putfield 48, 3) := by decide +kernel
theorem d32_92 : decode prog_10_method_3_code 92 = .ok (.aload_n 0, 1) := by decide +kernel
theorem d32_93 : decode prog_10_method_3_code 93 = .ok (.aload_n 1, 1) := by decide +kernel
theorem d32_94 : decode prog_10_method_3_code 94 = .ok (.getfield 51, 3) := by decide +kernel
theorem d32_97 : decode prog_10_method_3_code 97 = .ok (.putfield 51, 3) := by decide +kernel
theorem d32_100 : decode prog_10_method_3_code 100 = .ok (.aload_n 0, 1) := by decide +kernel
theorem d32_101 : decode prog_10_method_3_code 101 = .ok (.aload_n 1, 1) := by decide +kernel
theorem d32_102 : decode prog_10_method_3_code 102 = .ok (.getfield 54, 3) := by decide +kernel
theorem d32_105 : decode prog_10_method_3_code 105 = .ok (.putfield 54, 3) := by decide +kernel
theorem d32_108 : decode prog_10_method_3_code 108 = .ok (.aload_n 0, 1) := by decide +kernel
theorem d32_109 : decode prog_10_method_3_code 109 = .ok (.aload_n 1, 1) := by decide +kernel
theorem d32_110 : decode prog_10_method_3_code 110 = .ok (.getfield 57, 3) := by decide +kernel
theorem d32_113 : decode prog_10_method_3_code 113 = .ok (.putfield 57, 3) := by decide +kernel
theorem d32_116 : decode prog_10_method_3_code 116 = .ok (.return_, 1) := by decide +kernel
noncomputable def T_32 : Nat → Option xF := bn 55 (bn 27 (bn 12 (bn 5 (bn 1 (bl 0 (y_aload 1 1)) (bn 4 (bl 1 (y_getf 8 0 4)) (bl 4 (x_const 2147483648 5)))) (bn 9 (bn 6 (bl 5 (y_aload 0 6)) (bl 6 (y_getf 8 0 9))) (bn 10 (bl 9 (x_const 2147483648 10)) (bl 10 (x_const 2147483688 12))))) (bn 20 (bn 16 (bn 15 (bl 12 (x_copy 15)) (bl 15 (y_aload 1 16))) (bn 19 (bl 16 (y_getf 8 1 19)) (bl 19 (x_const 2147483648 20)))) (bn 24 (bn 21 (bl 20 (y_aload 0 21)) (bl 21 (y_getf 8 1 24))) (bn 25 (bl 24 (x_const 2147483648 25)) (bl 25 (x_const 2147483688 27)))))) (bn 40 (bn 34 (bn 30 (bl 27 (x_copy 30)) (bn 31 (bl 30 (y_aload 1 31)) (bl 31 (y_getf 8 2 34)))) (bn 36 (bn 35 (bl 34 (x_const 2147483648 35)) (bl 35 (y_aload 0 36))) (bn 39 (bl 36 (y_getf 8 2 39)) (bl 39 (x_const 2147483648 40))))) (bn 49 (bn 45 (bn 42 (bl 40 (x_const 2147483688 42)) (bl 42 (x_copy 45))) (bn 46 (bl 45 (y_aload 1 46)) (bl 46 (y_getf 8 3 49)))) (bn 51 (bn 50 (bl 49 (x_const 2147483648 50)) (bl 50 (y_aload 0 51))) (bn 54 (bl 51 (y_getf 8 3 54)) (bl 54 (x_const 2147483648 55))))))) (bn 85 (bn 70 (bn 62 (bn 58 (bl 55 (x_const 2147483848 58)) (bn 61 (bl 58 (x_copy 61)) (bl 61 (y_aload 1 62)))) (bn 66 (bn 65 (bl 62 (y_getf 8 4 65)) (bl 65 (x_const 2147483648 66))) (bn 67 (bl 66 (y_aload 0 67)) (bl 67 (y_getf 8 4 70))))) (bn 77 (bn 73 (bn 71 (bl 70 (x_const 2147483648 71)) (bl 71 (x_const 2147483704 73))) (bn 76 (bl 73 (x_copy 76)) (bl 76 (y_aload 0 77)))) (bn 81 (bn 78 (bl 77 (y_aload 1 78)) (bl 78 (y_getf 8 5 81))) (bn 84 (bl 81 (y_putf 8 5 0 84)) (bl 84 (y_aload 0 85)))))) (bn 100 (bn 92 (bn 86 (bl 85 (y_aload 1 86)) (bn 89 (bl 86 (y_getf 8 6 89)) (bl 89 (y_putf 8 6 0 92)))) (bn 94 (bn 93 (bl 92 (y_aload 0 93)) (bl 93 (y_aload 1 94))) (bn 97 (bl 94 (y_getf 8 7 97)) (bl 97 (y_putf 8 7 0 100))))) (bn 108 (bn 102 (bn 101 (bl 100 (y_aload 0 101)) (bl 101 (y_aload 1 102))) (bn 105 (bl 102 (y_getf 8 8 105)) (bl 105 (y_putf 8 8 0 108)))) (bn 110 (bn 109 (bl 108 (y_aload 0 109)) (bl 109 (y_aload 1 110))) (bn 113 (bl 110 (y_getf 8 9 113)) (bl 113 (y_putf 8 9 0 116)))))))
set_option maxRecDepth 100000 in
set_option maxHeartbeats 4000000 in
theorem T_32_ok (G : State → Nat → Nat → Prop) : xTree PX G prog_10_method_3_code "CapitalCase$Town" false T_32 := (xT_n (xT_n (xT_n (xT_n (xT_n (xT_l (yS (y_aload_eq _ _) (s_aload_n d32_0))) (xT_n (xT_l (yS (y_getf_eq _ _ _) (s_getf (T := TX8) (N := 10) d32_1 rfl inX8 (by decide) wd_320))) (xT_l (s_iconst d32_4 (by decide +kernel))))) (xT_n (xT_n (xT_l (yS (y_aload_eq _ _) (s_aload_n d32_5))) (xT_l (yS (y_getf_eq _ _ _) (s_getf (T := TX8) (N := 10) d32_6 rfl inX8 (by decide) wd_320)))) (xT_n (xT_l (s_iconst d32_9 (by decide +kernel))) (xT_l (s_bipush d32_10 (by decide +kernel)))))) (xT_n (xT_n (xT_n (xT_l (s_copy d32_12 wd_840 wd_831 wd_830 wd_131 (by decide +kernel))) (xT_l (yS (y_aload_eq _ _) (s_aload_n d32_15)))) (xT_n (xT_l (yS (y_getf_eq _ _ _) (s_getf (T := TX8) (N := 10) d32_16 rfl inX8 (by decide) wd_325))) (xT_l (s_iconst d32_19 (by decide +kernel))))) (xT_n (xT_n (xT_l (yS (y_aload_eq _ _) (s_aload_n d32_20))) (xT_l (yS (y_getf_eq _ _ _) (s_getf (T := TX8) (N := 10) d32_21 rfl inX8 (by decide) wd_325)))) (xT_n (xT_l (s_iconst d32_24 (by decide +kernel))) (xT_l (s_bipush d32_25 (by decide +kernel))))))) (xT_n (xT_n (xT_n (xT_l (s_copy d32_27 wd_840 wd_831 wd_830 wd_131 (by decide +kernel))) (xT_n (xT_l (yS (y_aload_eq _ _) (s_aload_n d32_30))) (xT_l (yS (y_getf_eq _ _ _) (s_getf (T := TX8) (N := 10) d32_31 rfl inX8 (by decide) wd_329))))) (xT_n (xT_n (xT_l (s_iconst d32_34 (by decide +kernel))) (xT_l (yS (y_aload_eq _ _) (s_aload_n d32_35)))) (xT_n (xT_l (yS (y_getf_eq _ _ _) (s_getf (T := TX8) (N := 10) d32_36 rfl inX8 (by decide) wd_329))) (xT_l (s_iconst d32_39 (by decide +kernel)))))) (xT_n (xT_n (xT_n (xT_l (s_bipush d32_40 (by decide +kernel))) (xT_l (s_copy d32_42 wd_840 wd_831 wd_830 wd_131 (by decide +kernel)))) (xT_n (xT_l (yS (y_aload_eq _ _) (s_aload_n d32_45))) (xT_l (yS (y_getf_eq _ _ _) (s_getf (T := TX8) (N := 10) d32_46 rfl inX8 (by decide) wd_334))))) (xT_n (xT_n (xT_l (s_iconst d32_49 (by decide +kernel))) (xT_l (yS (y_aload_eq _ _) (s_aload_n d32_50)))) (xT_n (xT_l (yS (y_getf_eq _ _ _) (s_getf (T := TX8) (N := 10) d32_51 rfl inX8 (by decide) wd_334))) (xT_l (s_iconst d32_54 (by decide +kernel)))))))) (xT_n (xT_n (xT_n (xT_n (xT_l (s_sipush d32_55 (by decide +kernel))) (xT_n (xT_l (s_copy d32_58 wd_840 wd_831 wd_830 wd_131 (by decide +kernel))) (xT_l (yS (y_aload_eq _ _) (s_aload_n d32_61))))) (xT_n (xT_n (xT_l (yS (y_getf_eq _ _ _) (s_getf (T := TX8) (N := 10) d32_62 rfl inX8 (by decide) wd_336))) (xT_l (s_iconst d32_65 (by decide +kernel)))) (xT_n (xT_l (yS (y_aload_eq _ _) (s_aload_n d32_66))) (xT_l (yS (y_getf_eq _ _ _) (s_getf (T := TX8) (N := 10) d32_67 rfl inX8 (by decide) wd_336)))))) (xT_n (xT_n (xT_n (xT_l (s_iconst d32_70 (by decide +kernel))) (xT_l (s_bipush d32_71 (by decide +kernel)))) (xT_n (xT_l (s_copy d32_73 wd_840 wd_831 wd_830 wd_131 (by decide +kernel))) (xT_l (yS (y_aload_eq _ _) (s_aload_n d32_76))))) (xT_n (xT_n (xT_l (yS (y_aload_eq _ _) (s_aload_n d32_77))) (xT_l (yS (y_getf_eq _ _ _) (s_getf (T := TX8) (N := 10) d32_78 rfl inX8 (by decide) wd_338)))) (xT_n (xT_l (yS (y_putf_eq _ _ _ _) (s_putf (T := TX8) (N := 10) (ty := tyX8) d32_81 rfl inX8 tyX8_ok nmX8 (by decide) wd_338 (Or.inl ⟨rfl, rfl⟩) rfl))) (xT_l (yS (y_aload_eq _ _) (s_aload_n d32_84))))))) (xT_n (xT_n (xT_n (xT_l (yS (y_aload_eq _ _) (s_aload_n d32_85))) (xT_n (xT_l (yS (y_getf_eq _ _ _) (s_getf (T := TX8) (N := 10) d32_86 rfl inX8 (by decide) wd_341))) (xT_l (yS (y_putf_eq _ _ _ _) (s_putf (T := TX8) (N := 10) (ty := tyX8) d32_89 rfl inX8 tyX8_ok nmX8 (by decide) wd_341 (Or.inl ⟨rfl, rfl⟩) rfl))))) (xT_n (xT_n (xT_l (yS (y_aload_eq _ _) (s_aload_n d32_92))) (xT_l (yS (y_aload_eq _ _) (s_aload_n d32_93)))) (xT_n (xT_l (yS (y_getf_eq _ _ _) (s_getf (T := TX8) (N := 10) d32_94 rfl inX8 (by decide) wd_346))) (xT_l (yS (y_putf_eq _ _ _ _) (s_putf (T := TX8) (N := 10) (ty := tyX8) d32_97 rfl inX8 tyX8_ok nmX8 (by decide) wd_346 (Or.inl ⟨rfl, rfl⟩) rfl)))))) (xT_n (xT_n (xT_n (xT_l (yS (y_aload_eq _ _) (s_aload_n d32_100))) (xT_l (yS (y_aload_eq _ _) (s_aload_n d32_101)))) (xT_n (xT_l (yS (y_getf_eq _ _ _) (s_getf (T := TX8) (N := 10) d32_102 rfl inX8 (by decide) wd_350))) (xT_l (yS (y_putf_eq _ _ _ _) (s_putf (T := TX8) (N := 10) (ty := tyX8) d32_105 rfl inX8 tyX8_ok nmX8 (by decide) wd_350 (Or.inl ⟨rfl, rfl⟩) rfl))))) (xT_n (xT_n (xT_l (yS (y_aload_eq _ _) (s_aload_n d32_108))) (xT_l (yS (y_aload_eq _ _) (s_aload_n d32_109)))) (xT_n (xT_l (yS (y_getf_eq _ _ _) (s_getf (T := TX8) (N := 10) d32_110 rfl inX8 (by decide) wd_353))) (xT_l (yS (y_putf_eq _ _ _ _) (s_putf (T := TX8) (N := 10) (ty := tyX8) d32_113 rfl inX8 tyX8_ok nmX8 (by decide) wd_353 (Or.inl ⟨rfl, rfl⟩) rfl)))))))))
set_option maxRecDepth 100000 in
set_option maxHeartbeats 4000000 in
theorem M_32 : xMeth PX 32 (T_32, 2, [(116, 3)]) := ⟨⟨"CapitalCase$Town", "become", "(LCapitalCase$Town;)V"⟩, prog_10_method_3_code, none, rfl, by decide, fun G => T_32_ok G, xrt_ok (xR_c (Or.inr (Or.inr (Or.inl ⟨rfl, d32_116, rfl⟩))) (xR_n))⟩
theorem d33_0 : decode prog_10_method_2_code 0 = .ok (.aload_n 1, 1) := by decide +kernel
theorem d33_1 : decode prog_10_method_2_code 1 = .ok (.getfield 27, 3) := by decide +kernel
theorem d33_4 : decode prog_10_method_2_code 4 = .ok (.iconst 0, 1) := by decide +kernel
theorem d33_5 : decode prog_10_method_2_code 5 = .ok (.aload_n 0, 1) := by decide +kernel
theorem d33_6 : decode prog_10_method_2_code 6 = .ok (.getfield 9, 3) := by decide +kernel
theorem d33_9 : decode prog_10_method_2_code 9 = .ok (.iconst 0, 1) := by decide +kernel
theorem d33_10 : decode prog_10_method_2_code 10 = .ok (.bipush 40, 2) := by decide +kernel
theorem d33_12 : decode prog_10_method_2_code 12 = .ok (.invokestatic 32, 3) := by decide +kernel
theorem d33_15 : decode prog_10_method_2_code 15 = .ok (.aload_n 0, 1) := by decide +kernel
theorem d33_16 : decode prog_10_method_2_code 16 = .ok (.getfield 15, 3) := by decide +kernel
theorem d33_19 : decode prog_10_method_2_code 19 = .ok (.iconst 0, 1) := by decide +kernel
theorem d33_20 : decode prog_10_method_2_code 20 = .ok (.invokestatic 38, 3) := by decide +kernel
theorem d33_23 : decode prog_10_method_2_code 23 = .ok (.aload_n 0, 1) := by decide +kernel
theorem d33_24 : decode prog_10_method_2_code 24 = .ok (.getfield 18, 3) := by decide +kernel
theorem d33_27 : decode prog_10_method_2_code 27 = .ok (.iconst 0, 1) := by decide +kernel
theorem d33_28 : decode prog_10_method_2_code 28 = .ok (.invokestatic 38, 3) := by decide +kernel
theorem d33_31 : decode prog_10_method_2_code 31 = .ok (.aload_n 0, 1) := by decide +kernel
theorem d33_32 : decode prog_10_method_2_code 32 = .ok (.getfield 21, 3) := by decide +kernel
theorem d33_35 : decode prog_10_method_2_code 35 = .ok (.iconst 0, 1) := by decide +kernel
theorem d33_36 : decode prog_10_method_2_code 36 = .ok (.invokestatic 38, 3) := by decide +kernel
theorem d33_39 : decode prog_10_method_2_code 39 = .ok (.aload_n 0, 1) := by decide +kernel
theorem d33_40 : decode prog_10_method_2_code 40 = .ok (.iconst 0, 1) := by decide +kernel
theorem d33_41 : decode prog_10_method_2_code 41 = .ok (.putfield 44, 3) := by decide +kernel
theorem d33_44 : decode prog_10_method_2_code 44 = .ok (.aload_n 0, 1) := by decide +kernel
theorem d33_45 : decode prog_10_method_2_code 45 = .ok (.iconst 0, 1) := by decide +kernel
theorem d33_46 : decode prog_10_method_2_code 46 = .ok (.putfield 48, 3) := by decide +kernel
theorem d33_49 : decode prog_10_method_2_code 49 = .ok (.aload_n 0, 1) := by decide +kernel
theorem d33_50 : decode prog_10_method_2_code 50 = .ok (.iconst 0, 1) := by decide +kernel
theorem d33_51 : decode prog_10_method_2_code 51 = .ok (.putfield 51, 3) := by decide +kernel
theorem d33_54 : decode prog_10_method_2_code 54 = .ok (.aload_n 0, 1) := by decide +kernel
theorem d33_55 : decode prog_10_method_2_code 55 = .ok (.iconst 0, 1) := by decide +kernel
theorem d33_56 : decode prog_10_method_2_code 56 = .ok (.putfield 54, 3) := by decide +kernel
theorem d33_59 : decode prog_10_method_2_code 59 = .ok (.aload_n 0, 1) := by decide +kernel
theorem d33_60 : decode prog_10_method_2_code 60 = .ok (.iconst 0, 1) := by decide +kernel
theorem d33_61 : decode prog_10_method_2_code 61 = .ok (.putfield 57, 3) := by decide +kernel
theorem d33_64 : decode prog_10_method_2_code 64 = .ok (.return_, 1) := by decide +kernel
noncomputable def T_33 : Nat → Option xF := bn 32 (bn 15 (bn 6 (bn 4 (bn 1 (bl 0 (y_aload 1 1)) (bl 1 (y_getf 6 5 4))) (bn 5 (bl 4 (x_const 2147483648 5)) (bl 5 (y_aload 0 6)))) (bn 10 (bn 9 (bl 6 (y_getf 8 0 9)) (bl 9 (x_const 2147483648 10))) (bn 12 (bl 10 (x_const 2147483688 12)) (bl 12 (x_copy 15))))) (bn 23 (bn 19 (bn 16 (bl 15 (y_aload 0 16)) (bl 16 (y_getf 8 1 19))) (bn 20 (bl 19 (x_const 2147483648 20)) (bl 20 (y_inv 156 2 23)))) (bn 27 (bn 24 (bl 23 (y_aload 0 24)) (bl 24 (y_getf 8 2 27))) (bn 28 (bl 27 (x_const 2147483648 28)) (bn 31 (bl 28 (y_inv 156 2 31)) (bl 31 (y_aload 0 32))))))) (bn 49 (bn 40 (bn 36 (bn 35 (bl 32 (y_getf 8 3 35)) (bl 35 (x_const 2147483648 36))) (bn 39 (bl 36 (y_inv 156 2 39)) (bl 39 (y_aload 0 40)))) (bn 44 (bn 41 (bl 40 (x_const 2147483648 41)) (bl 41 (y_putf 8 5 0 44))) (bn 45 (bl 44 (y_aload 0 45)) (bn 46 (bl 45 (x_const 2147483648 46)) (bl 46 (y_putf 8 6 0 49)))))) (bn 55 (bn 51 (bn 50 (bl 49 (y_aload 0 50)) (bl 50 (x_const 2147483648 51))) (bn 54 (bl 51 (y_putf 8 7 0 54)) (bl 54 (y_aload 0 55)))) (bn 59 (bn 56 (bl 55 (x_const 2147483648 56)) (bl 56 (y_putf 8 8 0 59))) (bn 60 (bl 59 (y_aload 0 60)) (bn 61 (bl 60 (x_const 2147483648 61)) (bl 61 (y_putf 8 9 0 64)))))))
set_option maxRecDepth 100000 in
set_option maxHeartbeats 4000000 in
theorem T_33_ok (G : State → Nat → Nat → Prop) : xTree PX G prog_10_method_2_code "CapitalCase$Town" false T_33 := (xT_n (xT_n (xT_n (xT_n (xT_n (xT_l (yS (y_aload_eq _ _) (s_aload_n d33_0))) (xT_l (yS (y_getf_eq _ _ _) (s_getf (T := TX6) (N := 15) d33_1 rfl inX6 (by decide) wd_185)))) (xT_n (xT_l (s_iconst d33_4 (by decide +kernel))) (xT_l (yS (y_aload_eq _ _) (s_aload_n d33_5))))) (xT_n (xT_n (xT_l (yS (y_getf_eq _ _ _) (s_getf (T := TX8) (N := 10) d33_6 rfl inX8 (by decide) wd_320))) (xT_l (s_iconst d33_9 (by decide +kernel)))) (xT_n (xT_l (s_bipush d33_10 (by decide +kernel))) (xT_l (s_copy d33_12 wd_840 wd_831 wd_830 wd_131 (by decide +kernel)))))) (xT_n (xT_n (xT_n (xT_l (yS (y_aload_eq _ _) (s_aload_n d33_15))) (xT_l (yS (y_getf_eq _ _ _) (s_getf (T := TX8) (N := 10) d33_16 rfl inX8 (by decide) wd_325)))) (xT_n (xT_l (s_iconst d33_19 (by decide +kernel))) (xT_l (yS (y_inv_eq _ _ _) (s_invS d33_20 cal_156 wd_841 wd_152))))) (xT_n (xT_n (xT_l (yS (y_aload_eq _ _) (s_aload_n d33_23))) (xT_l (yS (y_getf_eq _ _ _) (s_getf (T := TX8) (N := 10) d33_24 rfl inX8 (by decide) wd_329)))) (xT_n (xT_l (s_iconst d33_27 (by decide +kernel))) (xT_n (xT_l (yS (y_inv_eq _ _ _) (s_invS d33_28 cal_156 wd_841 wd_152))) (xT_l (yS (y_aload_eq _ _) (s_aload_n d33_31)))))))) (xT_n (xT_n (xT_n (xT_n (xT_l (yS (y_getf_eq _ _ _) (s_getf (T := TX8) (N := 10) d33_32 rfl inX8 (by decide) wd_334))) (xT_l (s_iconst d33_35 (by decide +kernel)))) (xT_n (xT_l (yS (y_inv_eq _ _ _) (s_invS d33_36 cal_156 wd_841 wd_152))) (xT_l (yS (y_aload_eq _ _) (s_aload_n d33_39))))) (xT_n (xT_n (xT_l (s_iconst d33_40 (by decide +kernel))) (xT_l (yS (y_putf_eq _ _ _ _) (s_putf (T := TX8) (N := 10) (ty := tyX8) d33_41 rfl inX8 tyX8_ok nmX8 (by decide) wd_338 (Or.inl ⟨rfl, rfl⟩) rfl)))) (xT_n (xT_l (yS (y_aload_eq _ _) (s_aload_n d33_44))) (xT_n (xT_l (s_iconst d33_45 (by decide +kernel))) (xT_l (yS (y_putf_eq _ _ _ _) (s_putf (T := TX8) (N := 10) (ty := tyX8) d33_46 rfl inX8 tyX8_ok nmX8 (by decide) wd_341 (Or.inl ⟨rfl, rfl⟩) rfl))))))) (xT_n (xT_n (xT_n (xT_l (yS (y_aload_eq _ _) (s_aload_n d33_49))) (xT_l (s_iconst d33_50 (by decide +kernel)))) (xT_n (xT_l (yS (y_putf_eq _ _ _ _) (s_putf (T := TX8) (N := 10) (ty := tyX8) d33_51 rfl inX8 tyX8_ok nmX8 (by decide) wd_346 (Or.inl ⟨rfl, rfl⟩) rfl))) (xT_l (yS (y_aload_eq _ _) (s_aload_n d33_54))))) (xT_n (xT_n (xT_l (s_iconst d33_55 (by decide +kernel))) (xT_l (yS (y_putf_eq _ _ _ _) (s_putf (T := TX8) (N := 10) (ty := tyX8) d33_56 rfl inX8 tyX8_ok nmX8 (by decide) wd_350 (Or.inl ⟨rfl, rfl⟩) rfl)))) (xT_n (xT_l (yS (y_aload_eq _ _) (s_aload_n d33_59))) (xT_n (xT_l (s_iconst d33_60 (by decide +kernel))) (xT_l (yS (y_putf_eq _ _ _ _) (s_putf (T := TX8) (N := 10) (ty := tyX8) d33_61 rfl inX8 tyX8_ok nmX8 (by decide) wd_353 (Or.inl ⟨rfl, rfl⟩) rfl)))))))))
set_option maxRecDepth 100000 in
set_option maxHeartbeats 4000000 in
theorem M_33 : xMeth PX 33 (T_33, 2, [(64, 3)]) := ⟨⟨"CapitalCase$Town", "begin", "(LCapitalCase$Script;)V"⟩, prog_10_method_2_code, none, rfl, by decide, fun G => T_33_ok G, xrt_ok (xR_c (Or.inr (Or.inr (Or.inl ⟨rfl, d33_64, rfl⟩))) (xR_n))⟩
theorem d34_0 : decode prog_10_method_4_code 0 = .ok (.iconst 0, 1) := by decide +kernel
theorem d34_1 : decode prog_10_method_4_code 1 = .ok (.aload_n 0, 1) := by decide +kernel
theorem d34_2 : decode prog_10_method_4_code 2 = .ok (.getfield 9, 3) := by decide +kernel
theorem d34_5 : decode prog_10_method_4_code 5 = .ok (.iload_n 1, 1) := by decide +kernel
theorem d34_6 : decode prog_10_method_4_code 6 = .ok (.iaload, 1) := by decide +kernel
theorem d34_7 : decode prog_10_method_4_code 7 = .ok (.aload_n 0, 1) := by decide +kernel
theorem d34_8 : decode prog_10_method_4_code 8 = .ok (.getfield 15, 3) := by decide +kernel
theorem d34_11 : decode prog_10_method_4_code 11 = .ok (.iload_n 1, 1) := by decide +kernel
theorem d34_12 : decode prog_10_method_4_code 12 = .ok (.iaload, 1) := by decide +kernel
theorem d34_13 : decode prog_10_method_4_code 13 = .ok (.isub, 1) := by decide +kernel
theorem d34_14 : decode prog_10_method_4_code 14 = .ok (.invokestatic 60, 3) := by decide +kernel
theorem d34_17 : decode prog_10_method_4_code 17 = .ok (.ireturn, 1) := by decide +kernel
noncomputable def T_34 : Nat → Option xF := bn 7 (bn 2 (bn 1 (bl 0 (x_const 2147483648 1)) (bl 1 (y_aload 0 2))) (bn 5 (bl 2 (y_getf 8 0 5)) (bn 6 (bl 5 (y_iload 1 6)) (bl 6 (y_iald 7))))) (bn 12 (bn 8 (bl 7 (y_aload 0 8)) (bn 11 (bl 8 (y_getf 8 1 11)) (bl 11 (y_iload 1 12)))) (bn 13 (bl 12 (y_iald 13)) (bn 14 (bl 13 (y_bin ysub 14)) (bl 14 (x_math xfmax 17)))))
set_option maxRecDepth 100000 in
set_option maxHeartbeats 4000000 in
theorem T_34_ok (G : State → Nat → Nat → Prop) : xTree PX G prog_10_method_4_code "CapitalCase$Town" false T_34 := (xT_n (xT_n (xT_n (xT_l (s_iconst d34_0 (by decide +kernel))) (xT_l (yS (y_aload_eq _ _) (s_aload_n d34_1)))) (xT_n (xT_l (yS (y_getf_eq _ _ _) (s_getf (T := TX8) (N := 10) d34_2 rfl inX8 (by decide) wd_320))) (xT_n (xT_l (yS (y_iload_eq _ _) (s_iload_n d34_5))) (xT_l (yS (y_iald_eq _) (s_iald d34_6)))))) (xT_n (xT_n (xT_l (yS (y_aload_eq _ _) (s_aload_n d34_7))) (xT_n (xT_l (yS (y_getf_eq _ _ _) (s_getf (T := TX8) (N := 10) d34_8 rfl inX8 (by decide) wd_325))) (xT_l (yS (y_iload_eq _ _) (s_iload_n d34_11))))) (xT_n (xT_l (yS (y_iald_eq _) (s_iald d34_12))) (xT_n (xT_l (yS (y_bin_eq _ _) (s_isub d34_13))) (xT_l (s_max d34_14 wd_862 wd_713 wd_129 wd_max))))))
set_option maxRecDepth 100000 in
set_option maxHeartbeats 4000000 in
theorem M_34 : xMeth PX 34 (T_34, 2, [(17, 1)]) := ⟨⟨"CapitalCase$Town", "free", "(I)I"⟩, prog_10_method_4_code, (some .int), rfl, by decide, fun G => T_34_ok G, xrt_ok (xR_c (Or.inl ⟨rfl, d34_17, rfl⟩) (xR_n))⟩
theorem d35_0 : decode prog_10_method_7_code 0 = .ok (.iconst 1, 1) := by decide +kernel
theorem d35_1 : decode prog_10_method_7_code 1 = .ok (.iload_n 1, 1) := by decide +kernel
theorem d35_2 : decode prog_10_method_7_code 2 = .ok (.ishl, 1) := by decide +kernel
theorem d35_3 : decode prog_10_method_7_code 3 = .ok (.iconst 1, 1) := by decide +kernel
theorem d35_4 : decode prog_10_method_7_code 4 = .ok (.isub, 1) := by decide +kernel
theorem d35_5 : decode prog_10_method_7_code 5 = .ok (.aload_n 0, 1) := by decide +kernel
theorem d35_6 : decode prog_10_method_7_code 6 = .ok (.getfield 44, 3) := by decide +kernel
theorem d35_9 : decode prog_10_method_7_code 9 = .ok (.aload_n 0, 1) := by decide +kernel
theorem d35_10 : decode prog_10_method_7_code 10 = .ok (.getfield 48, 3) := by decide +kernel
theorem d35_13 : decode prog_10_method_7_code 13 = .ok (.ior, 1) := by decide +kernel
theorem d35_14 : decode prog_10_method_7_code 14 = .ok (.iconst (-1), 1) := by decide +kernel
theorem d35_15 : decode prog_10_method_7_code 15 = .ok (.ixor, 1) := by decide +kernel
theorem d35_16 : decode prog_10_method_7_code 16 = .ok (.iand, 1) := by decide +kernel
theorem d35_17 : decode prog_10_method_7_code 17 = .ok (.ireturn, 1) := by decide +kernel
noncomputable def T_35 : Nat → Option xF := bn 6 (bn 3 (bn 1 (bl 0 (x_const 2147483649 1)) (bn 2 (bl 1 (y_iload 1 2)) (bl 2 (y_bin (xfg (fun x y => x <<< (y &&& 31))) 3)))) (bn 4 (bl 3 (x_const 2147483649 4)) (bn 5 (bl 4 (y_bin ysub 5)) (bl 5 (y_aload 0 6))))) (bn 13 (bn 9 (bl 6 (y_getf 8 5 9)) (bn 10 (bl 9 (y_aload 0 10)) (bl 10 (y_getf 8 6 13)))) (bn 15 (bn 14 (bl 13 (y_bin (xfg (fun x y => x ||| y)) 14)) (bl 14 (x_const 2147483647 15))) (bn 16 (bl 15 (y_bin (xfg (fun x y => x ^^^ y)) 16)) (bl 16 (y_bin (xfg (fun x y => x &&& y)) 17)))))
set_option maxRecDepth 100000 in
set_option maxHeartbeats 4000000 in
theorem T_35_ok (G : State → Nat → Nat → Prop) : xTree PX G prog_10_method_7_code "CapitalCase$Town" false T_35 := (xT_n (xT_n (xT_n (xT_l (s_iconst d35_0 (by decide +kernel))) (xT_n (xT_l (yS (y_iload_eq _ _) (s_iload_n d35_1))) (xT_l (yS (y_bin_eq _ _) (s_ishl d35_2))))) (xT_n (xT_l (s_iconst d35_3 (by decide +kernel))) (xT_n (xT_l (yS (y_bin_eq _ _) (s_isub d35_4))) (xT_l (yS (y_aload_eq _ _) (s_aload_n d35_5)))))) (xT_n (xT_n (xT_l (yS (y_getf_eq _ _ _) (s_getf (T := TX8) (N := 10) d35_6 rfl inX8 (by decide) wd_338))) (xT_n (xT_l (yS (y_aload_eq _ _) (s_aload_n d35_9))) (xT_l (yS (y_getf_eq _ _ _) (s_getf (T := TX8) (N := 10) d35_10 rfl inX8 (by decide) wd_341))))) (xT_n (xT_n (xT_l (yS (y_bin_eq _ _) (s_ior d35_13))) (xT_l (s_iconst d35_14 (by decide +kernel)))) (xT_n (xT_l (yS (y_bin_eq _ _) (s_ixor d35_15))) (xT_l (yS (y_bin_eq _ _) (s_iand d35_16)))))))
set_option maxRecDepth 100000 in
set_option maxHeartbeats 4000000 in
theorem M_35 : xMeth PX 35 (T_35, 2, [(17, 1)]) := ⟨⟨"CapitalCase$Town", "open", "(I)I"⟩, prog_10_method_7_code, (some .int), rfl, by decide, fun G => T_35_ok G, xrt_ok (xR_c (Or.inl ⟨rfl, d35_17, rfl⟩) (xR_n))⟩
theorem d36_0 : decode prog_11_method_1_code 0 = .ok (.aload_n 0, 1) := by decide +kernel
theorem d36_1 : decode prog_11_method_1_code 1 = .ok (.invokespecial 3, 3) := by decide +kernel
theorem d36_4 : decode prog_11_method_1_code 4 = .ok (.aload_n 0, 1) := by decide +kernel
theorem d36_5 : decode prog_11_method_1_code 5 = .ok (.aload_n 1, 1) := by decide +kernel
theorem d36_6 : decode prog_11_method_1_code 6 = .ok (.putfield 9, 3) := by decide +kernel
theorem d36_9 : decode prog_11_method_1_code 9 = .ok (.return_, 1) := by decide +kernel
noncomputable def T_36 : Nat → Option xF := bn 4 (bn 1 (bl 0 (y_aload 0 1)) (bl 1 (x_obj 4))) (bn 5 (bl 4 (y_aload 0 5)) (bn 6 (bl 5 (y_aload 1 6)) (bl 6 (y_putf 9 0 2 9))))
set_option maxRecDepth 100000 in
set_option maxHeartbeats 4000000 in
theorem T_36_ok (G : State → Nat → Nat → Prop) : xTree PX G prog_11_method_1_code "CapitalCase$Trade" true T_36 := (xT_n (xT_n (xT_l (yS (y_aload_eq _ _) (s_aload_n d36_0))) (xT_l (s_obj d36_1 wd_540 wd_139 wd_obj))) (xT_n (xT_l (yS (y_aload_eq _ _) (s_aload_n d36_4))) (xT_n (xT_l (yS (y_aload_eq _ _) (s_aload_n d36_5))) (xT_l (yS (y_putf_eq _ _ _ _) (s_putF (T := TX9) (N := 3) (ty := tyX9) d36_6 rfl inX9 tyX9_ok nmX9 (by decide) wd_541 (Or.inr (Or.inr ⟨rfl, Or.inl ⟨_, rfl⟩⟩)) rfl rfl rfl))))))
set_option maxRecDepth 100000 in
set_option maxHeartbeats 4000000 in
theorem M_36 : xMeth PX 36 (T_36, 2, [(9, 3)]) := ⟨⟨"CapitalCase$Trade", "<init>", "(LCapitalCase$Script;)V"⟩, prog_11_method_1_code, none, rfl, by decide, fun G => T_36_ok G, xrt_ok (xR_c (Or.inr (Or.inr (Or.inl ⟨rfl, d36_9, rfl⟩))) (xR_n))⟩
theorem d37_0 : decode prog_11_method_4_code 0 = .ok (.aload_n 0, 1) := by decide +kernel
theorem d37_1 : decode prog_11_method_4_code 1 = .ok (.iconst 0, 1) := by decide +kernel
theorem d37_2 : decode prog_11_method_4_code 2 = .ok (.putfield 41, 3) := by decide +kernel
theorem d37_5 : decode prog_11_method_4_code 5 = .ok (.aload_n 0, 1) := by decide +kernel
theorem d37_6 : decode prog_11_method_4_code 6 = .ok (.bipush (-2), 2) := by decide +kernel
theorem d37_8 : decode prog_11_method_4_code 8 = .ok (.putfield 44, 3) := by decide +kernel
theorem d37_11 : decode prog_11_method_4_code 11 = .ok (.iconst 0, 1) := by decide +kernel
theorem d37_12 : decode prog_11_method_4_code 12 = .ok (.istore_n 2, 1) := by decide +kernel
theorem d37_13 : decode prog_11_method_4_code 13 = .ok (.iload_n 2, 1) := by decide +kernel
theorem d37_14 : decode prog_11_method_4_code 14 = .ok (.aload_n 0, 1) := by decide +kernel
theorem d37_15 : decode prog_11_method_4_code 15 = .ok (.getfield 9, 3) := by decide +kernel
theorem d37_18 : decode prog_11_method_4_code 18 = .ok (.getfield 33, 3) := by decide +kernel
theorem d37_21 : decode prog_11_method_4_code 21 = .ok (.if_icmp .ge 37, 3) := by decide +kernel
theorem d37_58 : decode prog_11_method_4_code 58 = .ok (.return_, 1) := by decide +kernel
noncomputable def T_37 : Nat → Option xF := bn 11 (bn 5 (bn 1 (bl 0 (y_aload 0 1)) (bn 2 (bl 1 (x_const 2147483648 2)) (bl 2 (y_putf 9 1 0 5)))) (bn 6 (bl 5 (y_aload 0 6)) (bn 8 (bl 6 (x_const 2147483646 8)) (bl 8 (y_putf 9 2 0 11))))) (bn 14 (bn 12 (bl 11 (x_const 2147483648 12)) (bn 13 (bl 12 (y_istore 2 13)) (bl 13 (y_iload 2 14)))) (bn 18 (bn 15 (bl 14 (y_aload 0 15)) (bl 15 (y_getf 9 0 18))) (bn 21 (bl 18 (y_getf 6 0 21)) (bl 21 (y_icmp yc3 58 24)))))
set_option maxRecDepth 100000 in
set_option maxHeartbeats 4000000 in
theorem T_37_ok (G : State → Nat → Nat → Prop) : xTree PX G prog_11_method_4_code "CapitalCase$Trade" false T_37 := (xT_n (xT_n (xT_n (xT_l (yS (y_aload_eq _ _) (s_aload_n d37_0))) (xT_n (xT_l (s_iconst d37_1 (by decide +kernel))) (xT_l (yS (y_putf_eq _ _ _ _) (s_putf (T := TX9) (N := 3) (ty := tyX9) d37_2 rfl inX9 tyX9_ok nmX9 (by decide) wd_542 (Or.inl ⟨rfl, rfl⟩) rfl))))) (xT_n (xT_l (yS (y_aload_eq _ _) (s_aload_n d37_5))) (xT_n (xT_l (s_bipush d37_6 (by decide +kernel))) (xT_l (yS (y_putf_eq _ _ _ _) (s_putf (T := TX9) (N := 3) (ty := tyX9) d37_8 rfl inX9 tyX9_ok nmX9 (by decide) wd_544 (Or.inl ⟨rfl, rfl⟩) rfl)))))) (xT_n (xT_n (xT_l (s_iconst d37_11 (by decide +kernel))) (xT_n (xT_l (yS (y_istore_eq _ _) (s_istore_n d37_12))) (xT_l (yS (y_iload_eq _ _) (s_iload_n d37_13))))) (xT_n (xT_n (xT_l (yS (y_aload_eq _ _) (s_aload_n d37_14))) (xT_l (yS (y_getf_eq _ _ _) (s_getf (T := TX9) (N := 3) d37_15 rfl inX9 (by decide) wd_541)))) (xT_n (xT_l (yS (y_getf_eq _ _ _) (s_getf (T := TX6) (N := 15) d37_18 rfl inX6 (by decide) wd_163))) (xT_l (yS (y_icmp_eq yc3_eq _ _) (s_icmpge d37_21 (by decide +kernel))))))))
set_option maxRecDepth 100000 in
set_option maxHeartbeats 4000000 in
theorem M_37 : xMeth PX 37 (T_37, 4, [(58, 3)]) := ⟨⟨"CapitalCase$Trade", "seekBargains", "(LCapitalCase$Town;)V"⟩, prog_11_method_4_code, none, rfl, by decide, fun G => T_37_ok G, xrt_ok (xR_c (Or.inr (Or.inr (Or.inl ⟨rfl, d37_58, rfl⟩))) (xR_n))⟩
theorem d38_0 : decode prog_12_method_1_code 0 = .ok (.aload_n 0, 1) := by decide +kernel
theorem d38_1 : decode prog_12_method_1_code 1 = .ok (.invokespecial 3, 3) := by decide +kernel
theorem d38_4 : decode prog_12_method_1_code 4 = .ok (.aload_n 0, 1) := by decide +kernel
theorem d38_5 : decode prog_12_method_1_code 5 = .ok (.new 9, 3) := by decide +kernel
theorem d38_8 : decode prog_12_method_1_code 8 = .ok (.dup, 1) := by decide +kernel
theorem d38_9 : decode prog_12_method_1_code 9 = .ok (.invokespecial 11, 3) := by decide +kernel
theorem d38_12 : decode prog_12_method_1_code 12 = .ok (.putfield 12, 3) := by decide +kernel
theorem d38_15 : decode prog_12_method_1_code 15 = .ok (.aload_n 0, 1) := by decide +kernel
theorem d38_16 : decode prog_12_method_1_code 16 = .ok (.bipush 7, 2) := by decide +kernel
theorem d38_18 : decode prog_12_method_1_code 18 = .ok (.newarray .int, 2) := by decide +kernel
theorem d38_20 : decode prog_12_method_1_code 20 = .ok (.putfield 18, 3) := by decide +kernel
theorem d38_23 : decode prog_12_method_1_code 23 = .ok (.aload_n 0, 1) := by decide +kernel
theorem d38_24 : decode prog_12_method_1_code 24 = .ok (.aload_n 1, 1) := by decide +kernel
theorem d38_25 : decode prog_12_method_1_code 25 = .ok (.putfield 22, 3) := by decide +kernel
theorem d38_28 : decode prog_12_method_1_code 28 = .ok (.aload_n 0, 1) := by decide +kernel
theorem d38_29 : decode prog_12_method_1_code 29 = .ok (.aload_n 2, 1) := by decide +kernel
theorem d38_30 : decode prog_12_method_1_code 30 = .ok (.putfield 26, 3) := by decide +kernel
theorem d38_33 : decode prog_12_method_1_code 33 = .ok (.aload_n 0, 1) := by decide +kernel
theorem d38_34 : decode prog_12_method_1_code 34 = .ok (.aload_n 3, 1) := by decide +kernel
theorem d38_35 : decode prog_12_method_1_code 35 = .ok (.putfield 30, 3) := by decide +kernel
theorem d38_38 : decode prog_12_method_1_code 38 = .ok (.aload_n 0, 1) := by decide +kernel
theorem d38_39 : decode prog_12_method_1_code 39 = .ok (.aload 4, 2) := by decide +kernel
theorem d38_41 : decode prog_12_method_1_code 41 = .ok (.putfield 34, 3) := by decide +kernel
theorem d38_44 : decode prog_12_method_1_code 44 = .ok (.aload_n 0, 1) := by decide +kernel
theorem d38_45 : decode prog_12_method_1_code 45 = .ok (.new 38, 3) := by decide +kernel
theorem d38_48 : decode prog_12_method_1_code 48 = .ok (.dup, 1) := by decide +kernel
theorem d38_49 : decode prog_12_method_1_code 49 = .ok (.aload_n 1, 1) := by decide +kernel
theorem d38_50 : decode prog_12_method_1_code 50 = .ok (.aload_n 2, 1) := by decide +kernel
theorem d38_51 : decode prog_12_method_1_code 51 = .ok (.invokespecial 40, 3) := by decide +kernel
theorem d38_54 : decode prog_12_method_1_code 54 = .ok (.putfield 43, 3) := by decide +kernel
theorem d38_57 : decode prog_12_method_1_code 57 = .ok (.return_, 1) := by decide +kernel
noncomputable def T_38 : Nat → Option xF := bn 29 (bn 15 (bn 5 (bn 1 (bl 0 (y_aload 0 1)) (bn 4 (bl 1 (x_obj 4)) (bl 4 (y_aload 0 5)))) (bn 9 (bn 8 (bl 5 (x_new 8 10 [.inr (.inl none), .inr (.inl none), .inr (.inl none), .inr (.inl none), .inr (.inl none), .inl (2147483648, 2147483648), .inl (2147483648, 2147483648), .inl (2147483648, 2147483648), .inl (2147483648, 2147483648), .inl (2147483648, 2147483648)] 8)) (bl 8 (x_dup 9))) (bn 12 (bl 9 (y_invV 8 31 1 12)) (bl 12 (y_putf 10 5 2 15))))) (bn 23 (bn 18 (bn 16 (bl 15 (y_aload 0 16)) (bl 16 (x_const 2147483655 18))) (bn 20 (bl 18 (x_newa 0 20)) (bl 20 (y_putf 10 8 2 23)))) (bn 25 (bn 24 (bl 23 (y_aload 0 24)) (bl 24 (y_aload 1 25))) (bn 28 (bl 25 (y_putf 10 0 2 28)) (bl 28 (y_aload 0 29)))))) (bn 41 (bn 34 (bn 30 (bl 29 (y_aload 2 30)) (bn 33 (bl 30 (y_putf 10 1 2 33)) (bl 33 (y_aload 0 34)))) (bn 38 (bn 35 (bl 34 (y_aload 3 35)) (bl 35 (y_putf 10 2 2 38))) (bn 39 (bl 38 (y_aload 0 39)) (bl 39 (y_aload 4 41))))) (bn 49 (bn 45 (bn 44 (bl 41 (y_putf 10 3 2 44)) (bl 44 (y_aload 0 45))) (bn 48 (bl 45 (x_new 3 12 [.inr (.inl none), .inr (.inl none), .inr (.inl none), .inr (.inl none), .inr (.inl none), .inl (2147483648, 2147483648), .inl (2147483648, 2147483648), .inl (2147483648, 2147483648), .inl (2147483648, 2147483648), .inr (.inl none), .inr (.inl none), .inr (.inl none)] 48)) (bl 48 (x_dup 49)))) (bn 51 (bn 50 (bl 49 (y_aload 1 50)) (bl 50 (y_aload 2 51))) (bn 54 (bl 51 (y_invV 3 7 3 54)) (bl 54 (y_putf 10 4 2 57))))))
set_option maxRecDepth 100000 in
set_option maxHeartbeats 4000000 in
theorem T_38_ok (G : State → Nat → Nat → Prop) : xTree PX G prog_12_method_1_code "CapitalCase$TwoDays" true T_38 := (xT_n (xT_n (xT_n (xT_n (xT_l (yS (y_aload_eq _ _) (s_aload_n d38_0))) (xT_n (xT_l (s_obj d38_1 wd_500 wd_139 wd_obj)) (xT_l (yS (y_aload_eq _ _) (s_aload_n d38_4))))) (xT_n (xT_n (xT_l (s_new (T := TX8) (ty := tyX8) d38_5 rfl inX8 tyX8_ok (by decide) (by decide) wd_501 wd_315 wd_116)) (xT_l (s_dup d38_8))) (xT_n (xT_l (yS (y_invV_eq _ _ _ _) (s_invIN (host := "CapitalCase") d38_9 cal_31 (by decide +kernel) wd_317 rfl))) (xT_l (yS (y_putf_eq _ _ _ _) (s_putF (T := TX10) (N := 9) (ty := tyX10) d38_12 rfl inX10 tyX10_ok nmX10 (by decide) wd_510 (Or.inr (Or.inr ⟨rfl, Or.inl ⟨_, rfl⟩⟩)) rfl rfl rfl)))))) (xT_n (xT_n (xT_n (xT_l (yS (y_aload_eq _ _) (s_aload_n d38_15))) (xT_l (s_bipush d38_16 (by decide +kernel)))) (xT_n (xT_l (s_newa (ty := .int) d38_18 rfl rfl wd_253 (by decide) (fun _ _ => rfl) (Or.inl ⟨by decide, rfl⟩))) (xT_l (yS (y_putf_eq _ _ _ _) (s_putF (T := TX10) (N := 9) (ty := tyX10) d38_20 rfl inX10 tyX10_ok nmX10 (by decide) wd_515 (Or.inr (Or.inr ⟨rfl, Or.inr ⟨_, rfl⟩⟩)) rfl rfl rfl))))) (xT_n (xT_n (xT_l (yS (y_aload_eq _ _) (s_aload_n d38_23))) (xT_l (yS (y_aload_eq _ _) (s_aload_n d38_24)))) (xT_n (xT_l (yS (y_putf_eq _ _ _ _) (s_putF (T := TX10) (N := 9) (ty := tyX10) d38_25 rfl inX10 tyX10_ok nmX10 (by decide) wd_505 (Or.inr (Or.inr ⟨rfl, Or.inl ⟨_, rfl⟩⟩)) rfl rfl rfl))) (xT_l (yS (y_aload_eq _ _) (s_aload_n d38_28))))))) (xT_n (xT_n (xT_n (xT_l (yS (y_aload_eq _ _) (s_aload_n d38_29))) (xT_n (xT_l (yS (y_putf_eq _ _ _ _) (s_putF (T := TX10) (N := 9) (ty := tyX10) d38_30 rfl inX10 tyX10_ok nmX10 (by decide) wd_506 (Or.inr (Or.inr ⟨rfl, Or.inl ⟨_, rfl⟩⟩)) rfl rfl rfl))) (xT_l (yS (y_aload_eq _ _) (s_aload_n d38_33))))) (xT_n (xT_n (xT_l (yS (y_aload_eq _ _) (s_aload_n d38_34))) (xT_l (yS (y_putf_eq _ _ _ _) (s_putF (T := TX10) (N := 9) (ty := tyX10) d38_35 rfl inX10 tyX10_ok nmX10 (by decide) wd_507 (Or.inr (Or.inr ⟨rfl, Or.inl ⟨_, rfl⟩⟩)) rfl rfl rfl)))) (xT_n (xT_l (yS (y_aload_eq _ _) (s_aload_n d38_38))) (xT_l (yS (y_aload_eq _ _) (s_aload d38_39)))))) (xT_n (xT_n (xT_n (xT_l (yS (y_putf_eq _ _ _ _) (s_putF (T := TX10) (N := 9) (ty := tyX10) d38_41 rfl inX10 tyX10_ok nmX10 (by decide) wd_508 (Or.inr (Or.inr ⟨rfl, Or.inl ⟨_, rfl⟩⟩)) rfl rfl rfl))) (xT_l (yS (y_aload_eq _ _) (s_aload_n d38_44)))) (xT_n (xT_l (s_new (T := TX3) (ty := tyX3) d38_45 rfl inX3 tyX3_ok (by decide) (by decide) wd_503 wd_446 wd_121)) (xT_l (s_dup d38_48)))) (xT_n (xT_n (xT_l (yS (y_aload_eq _ _) (s_aload_n d38_49))) (xT_l (yS (y_aload_eq _ _) (s_aload_n d38_50)))) (xT_n (xT_l (yS (y_invV_eq _ _ _ _) (s_invI d38_51 cal_7 wd_504 wd_448 rfl))) (xT_l (yS (y_putf_eq _ _ _ _) (s_putF (T := TX10) (N := 9) (ty := tyX10) d38_54 rfl inX10 tyX10_ok nmX10 (by decide) wd_509 (Or.inr (Or.inr ⟨rfl, Or.inl ⟨_, rfl⟩⟩)) rfl rfl rfl))))))))
set_option maxRecDepth 100000 in
set_option maxHeartbeats 4000000 in
theorem M_38 : xMeth PX 38 (T_38, 5, [(57, 3)]) := ⟨⟨"CapitalCase$TwoDays", "<init>", "(LCapitalCase$Script;LCapitalCase$Judge;LCapitalCase$Press;LCapitalCase$Planner;)V"⟩, prog_12_method_1_code, none, rfl, by decide, fun G => T_38_ok G, xrt_ok (xR_c (Or.inr (Or.inr (Or.inl ⟨rfl, d38_57, rfl⟩))) (xR_n))⟩
theorem d39_0 : decode prog_12_method_5_code 0 = .ok (.iconst 0, 1) := by decide +kernel
theorem d39_1 : decode prog_12_method_5_code 1 = .ok (.istore_n 2, 1) := by decide +kernel
theorem d39_2 : decode prog_12_method_5_code 2 = .ok (.iload_n 2, 1) := by decide +kernel
theorem d39_3 : decode prog_12_method_5_code 3 = .ok (.aload_n 0, 1) := by decide +kernel
theorem d39_4 : decode prog_12_method_5_code 4 = .ok (.getfield 22, 3) := by decide +kernel
theorem d39_7 : decode prog_12_method_5_code 7 = .ok (.getfield 46, 3) := by decide +kernel
theorem d39_10 : decode prog_12_method_5_code 10 = .ok (.if_icmp .ge 35, 3) := by decide +kernel
theorem d39_45 : decode prog_12_method_5_code 45 = .ok (.return_, 1) := by decide +kernel
noncomputable def T_39 : Nat → Option xF := bn 3 (bn 1 (bl 0 (x_const 2147483648 1)) (bn 2 (bl 1 (y_istore 2 2)) (bl 2 (y_iload 2 3)))) (bn 7 (bn 4 (bl 3 (y_aload 0 4)) (bl 4 (y_getf 10 0 7))) (bn 10 (bl 7 (y_getf 6 1 10)) (bl 10 (y_icmp yc3 45 13))))
set_option maxRecDepth 100000 in
set_option maxHeartbeats 4000000 in
theorem T_39_ok (G : State → Nat → Nat → Prop) : xTree PX G prog_12_method_5_code "CapitalCase$TwoDays" false T_39 := (xT_n (xT_n (xT_l (s_iconst d39_0 (by decide +kernel))) (xT_n (xT_l (yS (y_istore_eq _ _) (s_istore_n d39_1))) (xT_l (yS (y_iload_eq _ _) (s_iload_n d39_2))))) (xT_n (xT_n (xT_l (yS (y_aload_eq _ _) (s_aload_n d39_3))) (xT_l (yS (y_getf_eq _ _ _) (s_getf (T := TX10) (N := 9) d39_4 rfl inX10 (by decide) wd_505)))) (xT_n (xT_l (yS (y_getf_eq _ _ _) (s_getf (T := TX6) (N := 15) d39_7 rfl inX6 (by decide) wd_168))) (xT_l (yS (y_icmp_eq yc3_eq _ _) (s_icmpge d39_10 (by decide +kernel)))))))
set_option maxRecDepth 100000 in
set_option maxHeartbeats 4000000 in
theorem M_39 : xMeth PX 39 (T_39, 3, [(45, 3)]) := ⟨⟨"CapitalCase$TwoDays", "giveUpAll", "(I)V"⟩, prog_12_method_5_code, none, rfl, by decide, fun G => T_39_ok G, xrt_ok (xR_c (Or.inr (Or.inr (Or.inl ⟨rfl, d39_45, rfl⟩))) (xR_n))⟩
theorem d40_0 : decode prog_12_method_6_code 0 = .ok (.aload_n 0, 1) := by decide +kernel
theorem d40_1 : decode prog_12_method_6_code 1 = .ok (.getfield 12, 3) := by decide +kernel
theorem d40_4 : decode prog_12_method_6_code 4 = .ok (.aload_n 1, 1) := by decide +kernel
theorem d40_5 : decode prog_12_method_6_code 5 = .ok (.invokevirtual 113, 3) := by decide +kernel
theorem d40_8 : decode prog_12_method_6_code 8 = .ok (.iconst 0, 1) := by decide +kernel
theorem d40_9 : decode prog_12_method_6_code 9 = .ok (.istore_n 3, 1) := by decide +kernel
theorem d40_10 : decode prog_12_method_6_code 10 = .ok (.iload_n 3, 1) := by decide +kernel
theorem d40_11 : decode prog_12_method_6_code 11 = .ok (.aload_n 0, 1) := by decide +kernel
theorem d40_12 : decode prog_12_method_6_code 12 = .ok (.getfield 22, 3) := by decide +kernel
theorem d40_15 : decode prog_12_method_6_code 15 = .ok (.getfield 46, 3) := by decide +kernel
theorem d40_18 : decode prog_12_method_6_code 18 = .ok (.if_icmp .ge 37, 3) := by decide +kernel
theorem d40_55 : decode prog_12_method_6_code 55 = .ok (.aload_n 0, 1) := by decide +kernel
theorem d40_56 : decode prog_12_method_6_code 56 = .ok (.getfield 30, 3) := by decide +kernel
theorem d40_59 : decode prog_12_method_6_code 59 = .ok (.aload_n 0, 1) := by decide +kernel
theorem d40_60 : decode prog_12_method_6_code 60 = .ok (.getfield 12, 3) := by decide +kernel
theorem d40_63 : decode prog_12_method_6_code 63 = .ok (.invokevirtual 123, 3) := by decide +kernel
theorem d40_66 : decode prog_12_method_6_code 66 = .ok (.aload_n 0, 1) := by decide +kernel
theorem d40_67 : decode prog_12_method_6_code 67 = .ok (.getfield 12, 3) := by decide +kernel
theorem d40_70 : decode prog_12_method_6_code 70 = .ok (.dup, 1) := by decide +kernel
theorem d40_71 : decode prog_12_method_6_code 71 = .ok (.getfield 60, 3) := by decide +kernel
theorem d40_74 : decode prog_12_method_6_code 74 = .ok (.iconst 1, 1) := by decide +kernel
theorem d40_75 : decode prog_12_method_6_code 75 = .ok (.iadd, 1) := by decide +kernel
theorem d40_76 : decode prog_12_method_6_code 76 = .ok (.putfield 60, 3) := by decide +kernel
theorem d40_79 : decode prog_12_method_6_code 79 = .ok (.iconst 0, 1) := by decide +kernel
theorem d40_80 : decode prog_12_method_6_code 80 = .ok (.istore_n 3, 1) := by decide +kernel
theorem d40_81 : decode prog_12_method_6_code 81 = .ok (.iload_n 3, 1) := by decide +kernel
theorem d40_82 : decode prog_12_method_6_code 82 = .ok (.aload_n 0, 1) := by decide +kernel
theorem d40_83 : decode prog_12_method_6_code 83 = .ok (.getfield 22, 3) := by decide +kernel
theorem d40_86 : decode prog_12_method_6_code 86 = .ok (.getfield 46, 3) := by decide +kernel
theorem d40_89 : decode prog_12_method_6_code 89 = .ok (.if_icmp .ge 30, 3) := by decide +kernel
theorem d40_119 : decode prog_12_method_6_code 119 = .ok (.return_, 1) := by decide +kernel
noncomputable def T_40 : Nat → Option xF := bn 63 (bn 11 (bn 5 (bn 1 (bl 0 (y_aload 0 1)) (bn 4 (bl 1 (y_getf 10 5 4)) (bl 4 (y_aload 1 5)))) (bn 9 (bn 8 (bl 5 (y_invV 8 32 2 8)) (bl 8 (x_const 2147483648 9))) (bn 10 (bl 9 (y_istore 3 10)) (bl 10 (y_iload 3 11))))) (bn 55 (bn 15 (bn 12 (bl 11 (y_aload 0 12)) (bl 12 (y_getf 10 0 15))) (bn 18 (bl 15 (y_getf 6 1 18)) (bl 18 (y_icmp yc3 55 21)))) (bn 59 (bn 56 (bl 55 (y_aload 0 56)) (bl 56 (y_getf 10 2 59))) (bn 60 (bl 59 (y_aload 0 60)) (bl 60 (y_getf 10 5 63)))))) (bn 76 (bn 70 (bn 66 (bl 63 (y_invV 4 19 2 66)) (bn 67 (bl 66 (y_aload 0 67)) (bl 67 (y_getf 10 5 70)))) (bn 74 (bn 71 (bl 70 (x_dup 71)) (bl 71 (y_getf 8 7 74))) (bn 75 (bl 74 (x_const 2147483649 75)) (bl 75 (y_bin yadd 76))))) (bn 82 (bn 80 (bn 79 (bl 76 (y_putf 8 7 0 79)) (bl 79 (x_const 2147483648 80))) (bn 81 (bl 80 (y_istore 3 81)) (bl 81 (y_iload 3 82)))) (bn 86 (bn 83 (bl 82 (y_aload 0 83)) (bl 83 (y_getf 10 0 86))) (bn 89 (bl 86 (y_getf 6 1 89)) (bl 89 (y_icmp yc3 119 92))))))
set_option maxRecDepth 100000 in
set_option maxHeartbeats 4000000 in
theorem T_40_ok (G : State → Nat → Nat → Prop) : xTree PX G prog_12_method_6_code "CapitalCase$TwoDays" false T_40 := (xT_n (xT_n (xT_n (xT_n (xT_l (yS (y_aload_eq _ _) (s_aload_n d40_0))) (xT_n (xT_l (yS (y_getf_eq _ _ _) (s_getf (T := TX10) (N := 9) d40_1 rfl inX10 (by decide) wd_510))) (xT_l (yS (y_aload_eq _ _) (s_aload_n d40_4))))) (xT_n (xT_n (xT_l (yS (y_invV_eq _ _ _ _) (s_invV (T := TX8) d40_5 cal_32 rfl wd_1121 wd_973 wd_974))) (xT_l (s_iconst d40_8 (by decide +kernel)))) (xT_n (xT_l (yS (y_istore_eq _ _) (s_istore_n d40_9))) (xT_l (yS (y_iload_eq _ _) (s_iload_n d40_10)))))) (xT_n (xT_n (xT_n (xT_l (yS (y_aload_eq _ _) (s_aload_n d40_11))) (xT_l (yS (y_getf_eq _ _ _) (s_getf (T := TX10) (N := 9) d40_12 rfl inX10 (by decide) wd_505)))) (xT_n (xT_l (yS (y_getf_eq _ _ _) (s_getf (T := TX6) (N := 15) d40_15 rfl inX6 (by decide) wd_168))) (xT_l (yS (y_icmp_eq yc3_eq _ _) (s_icmpge d40_18 (by decide +kernel)))))) (xT_n (xT_n (xT_l (yS (y_aload_eq _ _) (s_aload_n d40_55))) (xT_l (yS (y_getf_eq _ _ _) (s_getf (T := TX10) (N := 9) d40_56 rfl inX10 (by decide) wd_507)))) (xT_n (xT_l (yS (y_aload_eq _ _) (s_aload_n d40_59))) (xT_l (yS (y_getf_eq _ _ _) (s_getf (T := TX10) (N := 9) d40_60 rfl inX10 (by decide) wd_510))))))) (xT_n (xT_n (xT_n (xT_l (yS (y_invV_eq _ _ _ _) (s_invV (T := TX4) d40_63 cal_19 rfl wd_1123 wd_1010 wd_1011))) (xT_n (xT_l (yS (y_aload_eq _ _) (s_aload_n d40_66))) (xT_l (yS (y_getf_eq _ _ _) (s_getf (T := TX10) (N := 9) d40_67 rfl inX10 (by decide) wd_510))))) (xT_n (xT_n (xT_l (s_dup d40_70)) (xT_l (yS (y_getf_eq _ _ _) (s_getf (T := TX8) (N := 10) d40_71 rfl inX8 (by decide) wd_345)))) (xT_n (xT_l (s_iconst d40_74 (by decide +kernel))) (xT_l (yS (y_bin_eq _ _) (s_iadd d40_75)))))) (xT_n (xT_n (xT_n (xT_l (yS (y_putf_eq _ _ _ _) (s_putf (T := TX8) (N := 10) (ty := tyX8) d40_76 rfl inX8 tyX8_ok nmX8 (by decide) wd_345 (Or.inl ⟨rfl, rfl⟩) rfl))) (xT_l (s_iconst d40_79 (by decide +kernel)))) (xT_n (xT_l (yS (y_istore_eq _ _) (s_istore_n d40_80))) (xT_l (yS (y_iload_eq _ _) (s_iload_n d40_81))))) (xT_n (xT_n (xT_l (yS (y_aload_eq _ _) (s_aload_n d40_82))) (xT_l (yS (y_getf_eq _ _ _) (s_getf (T := TX10) (N := 9) d40_83 rfl inX10 (by decide) wd_505)))) (xT_n (xT_l (yS (y_getf_eq _ _ _) (s_getf (T := TX6) (N := 15) d40_86 rfl inX6 (by decide) wd_168))) (xT_l (yS (y_icmp_eq yc3_eq _ _) (s_icmpge d40_89 (by decide +kernel)))))))))
set_option maxRecDepth 100000 in
set_option maxHeartbeats 4000000 in
theorem M_40 : xMeth PX 40 (T_40, 4, [(119, 3)]) := ⟨⟨"CapitalCase$TwoDays", "passFirst", "(LCapitalCase$Town;I)V"⟩, prog_12_method_6_code, none, rfl, by decide, fun G => T_40_ok G, xrt_ok (xR_c (Or.inr (Or.inr (Or.inl ⟨rfl, d40_119, rfl⟩))) (xR_n))⟩
