theorem d41_0 : decode prog_12_method_2_code 0 = .ok (.aload_n 1, 1) := by decide +kernel
theorem d41_1 : decode prog_12_method_2_code 1 = .ok (.aload_n 0, 1) := by decide +kernel
theorem d41_2 : decode prog_12_method_2_code 2 = .ok (.getfield 22, 3) := by decide +kernel
theorem d41_5 : decode prog_12_method_2_code 5 = .ok (.getfield 46, 3) := by decide +kernel
theorem d41_8 : decode prog_12_method_2_code 8 = .ok (.invokevirtual 52, 3) := by decide +kernel
theorem d41_11 : decode prog_12_method_2_code 11 = .ok (.istore_n 2, 1) := by decide +kernel
theorem d41_12 : decode prog_12_method_2_code 12 = .ok (.aload_n 0, 1) := by decide +kernel
theorem d41_13 : decode prog_12_method_2_code 13 = .ok (.getfield 34, 3) := by decide +kernel
theorem d41_16 : decode prog_12_method_2_code 16 = .ok (.aload_n 1, 1) := by decide +kernel
theorem d41_17 : decode prog_12_method_2_code 17 = .ok (.iload_n 2, 1) := by decide +kernel
theorem d41_18 : decode prog_12_method_2_code 18 = .ok (.invokevirtual 56, 3) := by decide +kernel
theorem d41_21 : decode prog_12_method_2_code 21 = .ok (.iconst 0, 1) := by decide +kernel
theorem d41_22 : decode prog_12_method_2_code 22 = .ok (.istore_n 3, 1) := by decide +kernel
theorem d41_23 : decode prog_12_method_2_code 23 = .ok (.iload_n 3, 1) := by decide +kernel
theorem d41_24 : decode prog_12_method_2_code 24 = .ok (.aload_n 0, 1) := by decide +kernel
theorem d41_25 : decode prog_12_method_2_code 25 = .ok (.getfield 22, 3) := by decide +kernel
theorem d41_28 : decode prog_12_method_2_code 28 = .ok (.getfield 46, 3) := by decide +kernel
theorem d41_31 : decode prog_12_method_2_code 31 = .ok (.if_icmp .ge 29, 3) := by decide +kernel
theorem d41_60 : decode prog_12_method_2_code 60 = .ok (.aload_n 0, 1) := by decide +kernel
theorem d41_61 : decode prog_12_method_2_code 61 = .ok (.getfield 30, 3) := by decide +kernel
theorem d41_64 : decode prog_12_method_2_code 64 = .ok (.aload_n 1, 1) := by decide +kernel
theorem d41_65 : decode prog_12_method_2_code 65 = .ok (.invokevirtual 69, 3) := by decide +kernel
theorem d41_68 : decode prog_12_method_2_code 68 = .ok (.istore_n 3, 1) := by decide +kernel
theorem d41_69 : decode prog_12_method_2_code 69 = .ok (.aload_n 0, 1) := by decide +kernel
theorem d41_70 : decode prog_12_method_2_code 70 = .ok (.iconst (-1), 1) := by decide +kernel
theorem d41_71 : decode prog_12_method_2_code 71 = .ok (.putfield 75, 3) := by decide +kernel
theorem d41_74 : decode prog_12_method_2_code 74 = .ok (.aload_n 0, 1) := by decide +kernel
theorem d41_75 : decode prog_12_method_2_code 75 = .ok (.iconst 0, 1) := by decide +kernel
theorem d41_76 : decode prog_12_method_2_code 76 = .ok (.putfield 78, 3) := by decide +kernel
theorem d41_79 : decode prog_12_method_2_code 79 = .ok (.iconst 0, 1) := by decide +kernel
theorem d41_80 : decode prog_12_method_2_code 80 = .ok (.istore 4, 2) := by decide +kernel
theorem d41_82 : decode prog_12_method_2_code 82 = .ok (.iload 4, 2) := by decide +kernel
theorem d41_84 : decode prog_12_method_2_code 84 = .ok (.iconst 1, 1) := by decide +kernel
theorem d41_85 : decode prog_12_method_2_code 85 = .ok (.aload_n 0, 1) := by decide +kernel
theorem d41_86 : decode prog_12_method_2_code 86 = .ok (.getfield 22, 3) := by decide +kernel
theorem d41_89 : decode prog_12_method_2_code 89 = .ok (.getfield 46, 3) := by decide +kernel
theorem d41_92 : decode prog_12_method_2_code 92 = .ok (.ishl, 1) := by decide +kernel
theorem d41_93 : decode prog_12_method_2_code 93 = .ok (.if_icmp .ge 135, 3) := by decide +kernel
theorem d41_96 : decode prog_12_method_2_code 96 = .ok (.iload 4, 2) := by decide +kernel
theorem d41_98 : decode prog_12_method_2_code 98 = .ok (.iload_n 2, 1) := by decide +kernel
theorem d41_99 : decode prog_12_method_2_code 99 = .ok (.iconst (-1), 1) := by decide +kernel
theorem d41_100 : decode prog_12_method_2_code 100 = .ok (.ixor, 1) := by decide +kernel
theorem d41_101 : decode prog_12_method_2_code 101 = .ok (.iand, 1) := by decide +kernel
theorem d41_102 : decode prog_12_method_2_code 102 = .ok (.ifCond .eq 6, 3) := by decide +kernel
theorem d41_108 : decode prog_12_method_2_code 108 = .ok (.iload_n 3, 1) := by decide +kernel
theorem d41_109 : decode prog_12_method_2_code 109 = .ok (.aload_n 0, 1) := by decide +kernel
theorem d41_110 : decode prog_12_method_2_code 110 = .ok (.aload_n 0, 1) := by decide +kernel
theorem d41_111 : decode prog_12_method_2_code 111 = .ok (.getfield 34, 3) := by decide +kernel
theorem d41_114 : decode prog_12_method_2_code 114 = .ok (.getfield 81, 3) := by decide +kernel
theorem d41_117 : decode prog_12_method_2_code 117 = .ok (.iload 4, 2) := by decide +kernel
theorem d41_119 : decode prog_12_method_2_code 119 = .ok (.invokevirtual 83, 3) := by decide +kernel
theorem d41_122 : decode prog_12_method_2_code 122 = .ok (.iadd, 1) := by decide +kernel
theorem d41_123 : decode prog_12_method_2_code 123 = .ok (.istore 5, 2) := by decide +kernel
theorem d41_125 : decode prog_12_method_2_code 125 = .ok (.iload 5, 2) := by decide +kernel
theorem d41_127 : decode prog_12_method_2_code 127 = .ok (.aload_n 0, 1) := by decide +kernel
theorem d41_128 : decode prog_12_method_2_code 128 = .ok (.aload_n 0, 1) := by decide +kernel
theorem d41_129 : decode prog_12_method_2_code 129 = .ok (.getfield 18, 3) := by decide +kernel
theorem d41_132 : decode prog_12_method_2_code 132 = .ok (.iload_n 2, 1) := by decide +kernel
theorem d41_133 : decode prog_12_method_2_code 133 = .ok (.iload 4, 2) := by decide +kernel
theorem d41_135 : decode prog_12_method_2_code 135 = .ok (.iconst (-1), 1) := by decide +kernel
theorem d41_136 : decode prog_12_method_2_code 136 = .ok (.ixor, 1) := by decide +kernel
theorem d41_137 : decode prog_12_method_2_code 137 = .ok (.iand, 1) := by decide +kernel
theorem d41_138 : decode prog_12_method_2_code 138 = .ok (.invokevirtual 83, 3) := by decide +kernel
theorem d41_141 : decode prog_12_method_2_code 141 = .ok (.iadd, 1) := by decide +kernel
theorem d41_142 : decode prog_12_method_2_code 142 = .ok (.aload_n 0, 1) := by decide +kernel
theorem d41_143 : decode prog_12_method_2_code 143 = .ok (.getfield 75, 3) := by decide +kernel
theorem d41_146 : decode prog_12_method_2_code 146 = .ok (.if_icmp .le 76, 3) := by decide +kernel
theorem d41_149 : decode prog_12_method_2_code 149 = .ok (.aload_n 0, 1) := by decide +kernel
theorem d41_150 : decode prog_12_method_2_code 150 = .ok (.iload 4, 2) := by decide +kernel
theorem d41_152 : decode prog_12_method_2_code 152 = .ok (.invokevirtual 87, 3) := by decide +kernel
theorem d41_155 : decode prog_12_method_2_code 155 = .ok (.ifCond .ne 6, 3) := by decide +kernel
theorem d41_161 : decode prog_12_method_2_code 161 = .ok (.aload_n 0, 1) := by decide +kernel
theorem d41_162 : decode prog_12_method_2_code 162 = .ok (.aload_n 1, 1) := by decide +kernel
theorem d41_163 : decode prog_12_method_2_code 163 = .ok (.iload 4, 2) := by decide +kernel
theorem d41_165 : decode prog_12_method_2_code 165 = .ok (.invokevirtual 91, 3) := by decide +kernel
theorem d41_168 : decode prog_12_method_2_code 168 = .ok (.aload_n 0, 1) := by decide +kernel
theorem d41_169 : decode prog_12_method_2_code 169 = .ok (.iload 4, 2) := by decide +kernel
theorem d41_171 : decode prog_12_method_2_code 171 = .ok (.invokevirtual 94, 3) := by decide +kernel
theorem d41_174 : decode prog_12_method_2_code 174 = .ok (.aload_n 0, 1) := by decide +kernel
theorem d41_175 : decode prog_12_method_2_code 175 = .ok (.getfield 43, 3) := by decide +kernel
theorem d41_178 : decode prog_12_method_2_code 178 = .ok (.aload_n 0, 1) := by decide +kernel
theorem d41_179 : decode prog_12_method_2_code 179 = .ok (.getfield 12, 3) := by decide +kernel
theorem d41_182 : decode prog_12_method_2_code 182 = .ok (.invokevirtual 98, 3) := by decide +kernel
theorem d41_185 : decode prog_12_method_2_code 185 = .ok (.iload 5, 2) := by decide +kernel
theorem d41_187 : decode prog_12_method_2_code 187 = .ok (.aload_n 0, 1) := by decide +kernel
theorem d41_188 : decode prog_12_method_2_code 188 = .ok (.getfield 43, 3) := by decide +kernel
theorem d41_191 : decode prog_12_method_2_code 191 = .ok (.getfield 102, 3) := by decide +kernel
theorem d41_194 : decode prog_12_method_2_code 194 = .ok (.iadd, 1) := by decide +kernel
theorem d41_195 : decode prog_12_method_2_code 195 = .ok (.aload_n 0, 1) := by decide +kernel
theorem d41_196 : decode prog_12_method_2_code 196 = .ok (.getfield 75, 3) := by decide +kernel
theorem d41_199 : decode prog_12_method_2_code 199 = .ok (.if_icmp .le 23, 3) := by decide +kernel
theorem d41_202 : decode prog_12_method_2_code 202 = .ok (.aload_n 0, 1) := by decide +kernel
theorem d41_203 : decode prog_12_method_2_code 203 = .ok (.iload 5, 2) := by decide +kernel
theorem d41_205 : decode prog_12_method_2_code 205 = .ok (.aload_n 0, 1) := by decide +kernel
theorem d41_206 : decode prog_12_method_2_code 206 = .ok (.getfield 43, 3) := by decide +kernel
theorem d41_209 : decode prog_12_method_2_code 209 = .ok (.getfield 102, 3) := by decide +kernel
theorem d41_212 : decode prog_12_method_2_code 212 = .ok (.iadd, 1) := by decide +kernel
theorem d41_213 : decode prog_12_method_2_code 213 = .ok (.putfield 75, 3) := by decide +kernel
theorem d41_216 : decode prog_12_method_2_code 216 = .ok (.aload_n 0, 1) := by decide +kernel
theorem d41_217 : decode prog_12_method_2_code 217 = .ok (.iload 4, 2) := by decide +kernel
theorem d41_219 : decode prog_12_method_2_code 219 = .ok (.putfield 78, 3) := by decide +kernel
theorem d41_222 : decode prog_12_method_2_code 222 = .ok (.iinc 4 1, 3) := by decide +kernel
theorem d41_225 : decode prog_12_method_2_code 225 = .ok (.goto (-143), 3) := by decide +kernel
theorem d41_228 : decode prog_12_method_2_code 228 = .ok (.return_, 1) := by decide +kernel
noncomputable def T_41 : Nat → Option xF := bn 122 (bn 71 (bn 22 (bn 12 (bn 5 (bn 1 (bl 0 (y_aload 1 1)) (bn 2 (bl 1 (y_aload 0 2)) (bl 2 (y_getf 10 0 5)))) (bn 8 (bl 5 (y_getf 6 1 8)) (bn 11 (bl 8 (y_invV 8 35 2 11)) (bl 11 (y_istore 2 12))))) (bn 17 (bn 13 (bl 12 (y_aload 0 13)) (bn 16 (bl 13 (y_getf 10 3 16)) (bl 16 (y_aload 1 17)))) (bn 18 (bl 17 (y_iload 2 18)) (bn 21 (bl 18 (y_invV 3 9 3 21)) (bl 21 (x_const 2147483648 22)))))) (bn 60 (bn 25 (bn 23 (bl 22 (y_istore 3 23)) (bn 24 (bl 23 (y_iload 3 24)) (bl 24 (y_aload 0 25)))) (bn 28 (bl 25 (y_getf 10 0 28)) (bn 31 (bl 28 (y_getf 6 1 31)) (bl 31 (y_icmp yc3 60 34))))) (bn 65 (bn 61 (bl 60 (y_aload 0 61)) (bn 64 (bl 61 (y_getf 10 2 64)) (bl 64 (y_aload 1 65)))) (bn 69 (bn 68 (bl 65 (y_invV 4 15 2 68)) (bl 68 (y_istore 3 69))) (bn 70 (bl 69 (y_aload 0 70)) (bl 70 (x_const 2147483647 71))))))) (bn 96 (bn 82 (bn 76 (bn 74 (bl 71 (y_putf 10 6 0 74)) (bn 75 (bl 74 (y_aload 0 75)) (bl 75 (x_const 2147483648 76)))) (bn 79 (bl 76 (y_putf 10 7 0 79)) (bn 80 (bl 79 (x_const 2147483648 80)) (bl 80 (y_istore 4 82))))) (bn 86 (bn 84 (bl 82 (y_iload 4 84)) (bn 85 (bl 84 (x_const 2147483649 85)) (bl 85 (y_aload 0 86)))) (bn 92 (bn 89 (bl 86 (y_getf 10 0 89)) (bl 89 (y_getf 6 1 92))) (bn 93 (bl 92 (y_bin (xfg (fun x y => x <<< (y &&& 31))) 93)) (bl 93 (y_icmp yc3 228 96)))))) (bn 108 (bn 100 (bn 98 (bl 96 (y_iload 4 98)) (bn 99 (bl 98 (y_iload 2 99)) (bl 99 (x_const 2147483647 100)))) (bn 101 (bl 100 (y_bin (xfg (fun x y => x ^^^ y)) 101)) (bn 102 (bl 101 (y_bin (xfg (fun x y => x &&& y)) 102)) (bl 102 (y_if yc0 108 105))))) (bn 111 (bn 109 (bl 108 (y_iload 3 109)) (bn 110 (bl 109 (y_aload 0 110)) (bl 110 (y_aload 0 111)))) (bn 117 (bn 114 (bl 111 (y_getf 10 3 114)) (bl 114 (y_getf 3 4 117))) (bn 119 (bl 117 (y_iload 4 119)) (bl 119 (y_invV 10 43 3 122)))))))) (bn 171 (bn 142 (bn 132 (bn 127 (bn 123 (bl 122 (y_bin yadd 123)) (bn 125 (bl 123 (y_istore 5 125)) (bl 125 (y_iload 5 127)))) (bn 128 (bl 127 (y_aload 0 128)) (bn 129 (bl 128 (y_aload 0 129)) (bl 129 (y_getf 10 8 132))))) (bn 136 (bn 133 (bl 132 (y_iload 2 133)) (bn 135 (bl 133 (y_iload 4 135)) (bl 135 (x_const 2147483647 136)))) (bn 138 (bn 137 (bl 136 (y_bin (xfg (fun x y => x ^^^ y)) 137)) (bl 137 (y_bin (xfg (fun x y => x &&& y)) 138))) (bn 141 (bl 138 (y_invV 10 43 3 141)) (bl 141 (y_bin yadd 142)))))) (bn 155 (bn 149 (bn 143 (bl 142 (y_aload 0 143)) (bn 146 (bl 143 (y_getf 10 6 146)) (bl 146 (y_icmp yc5 222 149)))) (bn 150 (bl 149 (y_aload 0 150)) (bn 152 (bl 150 (y_iload 4 152)) (bl 152 (y_invV 10 42 2 155))))) (bn 163 (bn 161 (bl 155 (y_if yc1 161 158)) (bn 162 (bl 161 (y_aload 0 162)) (bl 162 (y_aload 1 163)))) (bn 168 (bn 165 (bl 163 (y_iload 4 165)) (bl 165 (y_invV 10 40 3 168))) (bn 169 (bl 168 (y_aload 0 169)) (bl 169 (y_iload 4 171))))))) (bn 199 (bn 185 (bn 178 (bn 174 (bl 171 (y_invV 10 39 2 174)) (bn 175 (bl 174 (y_aload 0 175)) (bl 175 (y_getf 10 4 178)))) (bn 179 (bl 178 (y_aload 0 179)) (bn 182 (bl 179 (y_getf 10 5 182)) (bl 182 (y_invV 3 11 2 185))))) (bn 191 (bn 187 (bl 185 (y_iload 5 187)) (bn 188 (bl 187 (y_aload 0 188)) (bl 188 (y_getf 10 4 191)))) (bn 195 (bn 194 (bl 191 (y_getf 3 6 194)) (bl 194 (y_bin yadd 195))) (bn 196 (bl 195 (y_aload 0 196)) (bl 196 (y_getf 10 6 199)))))) (bn 212 (bn 205 (bn 202 (bl 199 (y_icmp yc5 222 202)) (bn 203 (bl 202 (y_aload 0 203)) (bl 203 (y_iload 5 205)))) (bn 206 (bl 205 (y_aload 0 206)) (bn 209 (bl 206 (y_getf 10 4 209)) (bl 209 (y_getf 3 6 212))))) (bn 217 (bn 213 (bl 212 (y_bin yadd 213)) (bn 216 (bl 213 (y_putf 10 6 0 216)) (bl 216 (y_aload 0 217)))) (bn 222 (bn 219 (bl 217 (y_iload 4 219)) (bl 219 (y_putf 10 7 0 222))) (bn 225 (bl 222 (y_iinc 4 2147483649 225)) (bl 225 (x_goto 82))))))))
set_option maxRecDepth 100000 in
set_option maxHeartbeats 4000000 in
theorem T_41_ok (G : State → Nat → Nat → Prop) : xTree PX G prog_12_method_2_code "CapitalCase$TwoDays" false T_41 := (xT_n (xT_n (xT_n (xT_n (xT_n (xT_n (xT_l (yS (y_aload_eq _ _) (s_aload_n d41_0))) (xT_n (xT_l (yS (y_aload_eq _ _) (s_aload_n d41_1))) (xT_l (yS (y_getf_eq _ _ _) (s_getf (T := TX10) (N := 9) d41_2 rfl inX10 (by decide) wd_505))))) (xT_n (xT_l (yS (y_getf_eq _ _ _) (s_getf (T := TX6) (N := 15) d41_5 rfl inX6 (by decide) wd_168))) (xT_n (xT_l (yS (y_invV_eq _ _ _ _) (s_invV (T := TX8) d41_8 cal_35 rfl wd_1099 wd_936 wd_937))) (xT_l (yS (y_istore_eq _ _) (s_istore_n d41_11)))))) (xT_n (xT_n (xT_l (yS (y_aload_eq _ _) (s_aload_n d41_12))) (xT_n (xT_l (yS (y_getf_eq _ _ _) (s_getf (T := TX10) (N := 9) d41_13 rfl inX10 (by decide) wd_508))) (xT_l (yS (y_aload_eq _ _) (s_aload_n d41_16))))) (xT_n (xT_l (yS (y_iload_eq _ _) (s_iload_n d41_17))) (xT_n (xT_l (yS (y_invV_eq _ _ _ _) (s_invV (T := TX3) d41_18 cal_9 rfl wd_1100 wd_944 wd_945))) (xT_l (s_iconst d41_21 (by decide +kernel))))))) (xT_n (xT_n (xT_n (xT_l (yS (y_istore_eq _ _) (s_istore_n d41_22))) (xT_n (xT_l (yS (y_iload_eq _ _) (s_iload_n d41_23))) (xT_l (yS (y_aload_eq _ _) (s_aload_n d41_24))))) (xT_n (xT_l (yS (y_getf_eq _ _ _) (s_getf (T := TX10) (N := 9) d41_25 rfl inX10 (by decide) wd_505))) (xT_n (xT_l (yS (y_getf_eq _ _ _) (s_getf (T := TX6) (N := 15) d41_28 rfl inX6 (by decide) wd_168))) (xT_l (yS (y_icmp_eq yc3_eq _ _) (s_icmpge d41_31 (by decide +kernel))))))) (xT_n (xT_n (xT_l (yS (y_aload_eq _ _) (s_aload_n d41_60))) (xT_n (xT_l (yS (y_getf_eq _ _ _) (s_getf (T := TX10) (N := 9) d41_61 rfl inX10 (by decide) wd_507))) (xT_l (yS (y_aload_eq _ _) (s_aload_n d41_64))))) (xT_n (xT_n (xT_l (yS (y_invV_eq _ _ _ _) (s_invV (T := TX4) d41_65 cal_15 rfl wd_1102 wd_1014 wd_1015))) (xT_l (yS (y_istore_eq _ _) (s_istore_n d41_68)))) (xT_n (xT_l (yS (y_aload_eq _ _) (s_aload_n d41_69))) (xT_l (s_iconst d41_70 (by decide +kernel)))))))) (xT_n (xT_n (xT_n (xT_n (xT_l (yS (y_putf_eq _ _ _ _) (s_putf (T := TX10) (N := 9) (ty := tyX10) d41_71 rfl inX10 tyX10_ok nmX10 (by decide) wd_511 (Or.inl ⟨rfl, rfl⟩) rfl))) (xT_n (xT_l (yS (y_aload_eq _ _) (s_aload_n d41_74))) (xT_l (s_iconst d41_75 (by decide +kernel))))) (xT_n (xT_l (yS (y_putf_eq _ _ _ _) (s_putf (T := TX10) (N := 9) (ty := tyX10) d41_76 rfl inX10 tyX10_ok nmX10 (by decide) wd_513 (Or.inl ⟨rfl, rfl⟩) rfl))) (xT_n (xT_l (s_iconst d41_79 (by decide +kernel))) (xT_l (yS (y_istore_eq _ _) (s_istore d41_80)))))) (xT_n (xT_n (xT_l (yS (y_iload_eq _ _) (s_iload d41_82))) (xT_n (xT_l (s_iconst d41_84 (by decide +kernel))) (xT_l (yS (y_aload_eq _ _) (s_aload_n d41_85))))) (xT_n (xT_n (xT_l (yS (y_getf_eq _ _ _) (s_getf (T := TX10) (N := 9) d41_86 rfl inX10 (by decide) wd_505))) (xT_l (yS (y_getf_eq _ _ _) (s_getf (T := TX6) (N := 15) d41_89 rfl inX6 (by decide) wd_168)))) (xT_n (xT_l (yS (y_bin_eq _ _) (s_ishl d41_92))) (xT_l (yS (y_icmp_eq yc3_eq _ _) (s_icmpge d41_93 (by decide +kernel)))))))) (xT_n (xT_n (xT_n (xT_l (yS (y_iload_eq _ _) (s_iload d41_96))) (xT_n (xT_l (yS (y_iload_eq _ _) (s_iload_n d41_98))) (xT_l (s_iconst d41_99 (by decide +kernel))))) (xT_n (xT_l (yS (y_bin_eq _ _) (s_ixor d41_100))) (xT_n (xT_l (yS (y_bin_eq _ _) (s_iand d41_101))) (xT_l (yS (y_if_eq yc0_eq _ _) (s_ifeq d41_102 (by decide +kernel))))))) (xT_n (xT_n (xT_l (yS (y_iload_eq _ _) (s_iload_n d41_108))) (xT_n (xT_l (yS (y_aload_eq _ _) (s_aload_n d41_109))) (xT_l (yS (y_aload_eq _ _) (s_aload_n d41_110))))) (xT_n (xT_n (xT_l (yS (y_getf_eq _ _ _) (s_getf (T := TX10) (N := 9) d41_111 rfl inX10 (by decide) wd_508))) (xT_l (yS (y_getf_eq _ _ _) (s_getf (T := TX3) (N := 12) d41_114 rfl inX3 (by decide) wd_458)))) (xT_n (xT_l (yS (y_iload_eq _ _) (s_iload d41_117))) (xT_l (yS (y_invV_eq _ _ _ _) (s_invV (T := TX10) d41_119 cal_43 rfl wd_1103 wd_1105 wd_34))))))))) (xT_n (xT_n (xT_n (xT_n (xT_n (xT_l (yS (y_bin_eq _ _) (s_iadd d41_122))) (xT_n (xT_l (yS (y_istore_eq _ _) (s_istore d41_123))) (xT_l (yS (y_iload_eq _ _) (s_iload d41_125))))) (xT_n (xT_l (yS (y_aload_eq _ _) (s_aload_n d41_127))) (xT_n (xT_l (yS (y_aload_eq _ _) (s_aload_n d41_128))) (xT_l (yS (y_getf_eq _ _ _) (s_getf (T := TX10) (N := 9) d41_129 rfl inX10 (by decide) wd_515)))))) (xT_n (xT_n (xT_l (yS (y_iload_eq _ _) (s_iload_n d41_132))) (xT_n (xT_l (yS (y_iload_eq _ _) (s_iload d41_133))) (xT_l (s_iconst d41_135 (by decide +kernel))))) (xT_n (xT_n (xT_l (yS (y_bin_eq _ _) (s_ixor d41_136))) (xT_l (yS (y_bin_eq _ _) (s_iand d41_137)))) (xT_n (xT_l (yS (y_invV_eq _ _ _ _) (s_invV (T := TX10) d41_138 cal_43 rfl wd_1103 wd_1105 wd_34))) (xT_l (yS (y_bin_eq _ _) (s_iadd d41_141))))))) (xT_n (xT_n (xT_n (xT_l (yS (y_aload_eq _ _) (s_aload_n d41_142))) (xT_n (xT_l (yS (y_getf_eq _ _ _) (s_getf (T := TX10) (N := 9) d41_143 rfl inX10 (by decide) wd_511))) (xT_l (yS (y_icmp_eq yc5_eq _ _) (s_icmple d41_146 (by decide +kernel)))))) (xT_n (xT_l (yS (y_aload_eq _ _) (s_aload_n d41_149))) (xT_n (xT_l (yS (y_iload_eq _ _) (s_iload d41_150))) (xT_l (yS (y_invV_eq _ _ _ _) (s_invV (T := TX10) d41_152 cal_42 rfl wd_1107 wd_1109 wd_35)))))) (xT_n (xT_n (xT_l (yS (y_if_eq yc1_eq _ _) (s_ifne d41_155 (by decide +kernel)))) (xT_n (xT_l (yS (y_aload_eq _ _) (s_aload_n d41_161))) (xT_l (yS (y_aload_eq _ _) (s_aload_n d41_162))))) (xT_n (xT_n (xT_l (yS (y_iload_eq _ _) (s_iload d41_163))) (xT_l (yS (y_invV_eq _ _ _ _) (s_invV (T := TX10) d41_165 cal_40 rfl wd_1117 wd_1119 wd_37)))) (xT_n (xT_l (yS (y_aload_eq _ _) (s_aload_n d41_168))) (xT_l (yS (y_iload_eq _ _) (s_iload d41_169)))))))) (xT_n (xT_n (xT_n (xT_n (xT_l (yS (y_invV_eq _ _ _ _) (s_invV (T := TX10) d41_171 cal_39 rfl wd_1112 wd_1114 wd_36))) (xT_n (xT_l (yS (y_aload_eq _ _) (s_aload_n d41_174))) (xT_l (yS (y_getf_eq _ _ _) (s_getf (T := TX10) (N := 9) d41_175 rfl inX10 (by decide) wd_509))))) (xT_n (xT_l (yS (y_aload_eq _ _) (s_aload_n d41_178))) (xT_n (xT_l (yS (y_getf_eq _ _ _) (s_getf (T := TX10) (N := 9) d41_179 rfl inX10 (by decide) wd_510))) (xT_l (yS (y_invV_eq _ _ _ _) (s_invV (T := TX3) d41_182 cal_11 rfl wd_1125 wd_1061 wd_1062)))))) (xT_n (xT_n (xT_l (yS (y_iload_eq _ _) (s_iload d41_185))) (xT_n (xT_l (yS (y_aload_eq _ _) (s_aload_n d41_187))) (xT_l (yS (y_getf_eq _ _ _) (s_getf (T := TX10) (N := 9) d41_188 rfl inX10 (by decide) wd_509))))) (xT_n (xT_n (xT_l (yS (y_getf_eq _ _ _) (s_getf (T := TX3) (N := 12) d41_191 rfl inX3 (by decide) wd_462))) (xT_l (yS (y_bin_eq _ _) (s_iadd d41_194)))) (xT_n (xT_l (yS (y_aload_eq _ _) (s_aload_n d41_195))) (xT_l (yS (y_getf_eq _ _ _) (s_getf (T := TX10) (N := 9) d41_196 rfl inX10 (by decide) wd_511))))))) (xT_n (xT_n (xT_n (xT_l (yS (y_icmp_eq yc5_eq _ _) (s_icmple d41_199 (by decide +kernel)))) (xT_n (xT_l (yS (y_aload_eq _ _) (s_aload_n d41_202))) (xT_l (yS (y_iload_eq _ _) (s_iload d41_203))))) (xT_n (xT_l (yS (y_aload_eq _ _) (s_aload_n d41_205))) (xT_n (xT_l (yS (y_getf_eq _ _ _) (s_getf (T := TX10) (N := 9) d41_206 rfl inX10 (by decide) wd_509))) (xT_l (yS (y_getf_eq _ _ _) (s_getf (T := TX3) (N := 12) d41_209 rfl inX3 (by decide) wd_462)))))) (xT_n (xT_n (xT_l (yS (y_bin_eq _ _) (s_iadd d41_212))) (xT_n (xT_l (yS (y_putf_eq _ _ _ _) (s_putf (T := TX10) (N := 9) (ty := tyX10) d41_213 rfl inX10 tyX10_ok nmX10 (by decide) wd_511 (Or.inl ⟨rfl, rfl⟩) rfl))) (xT_l (yS (y_aload_eq _ _) (s_aload_n d41_216))))) (xT_n (xT_n (xT_l (yS (y_iload_eq _ _) (s_iload d41_217))) (xT_l (yS (y_putf_eq _ _ _ _) (s_putf (T := TX10) (N := 9) (ty := tyX10) d41_219 rfl inX10 tyX10_ok nmX10 (by decide) wd_513 (Or.inl ⟨rfl, rfl⟩) rfl)))) (xT_n (xT_l (yS (y_iinc_eq _ _ _) (s_iinc d41_222 (by decide +kernel)))) (xT_l (s_goto d41_225 (by decide +kernel))))))))))
set_option maxRecDepth 100000 in
set_option maxHeartbeats 4000000 in
theorem M_41 : xMeth PX 41 (T_41, 6, [(228, 3)]) := ⟨⟨"CapitalCase$TwoDays", "seek", "(LCapitalCase$Town;)V"⟩, prog_12_method_2_code, none, rfl, by decide, fun G => T_41_ok G, xrt_ok (xR_c (Or.inr (Or.inr (Or.inl ⟨rfl, d41_228, rfl⟩))) (xR_n))⟩
theorem d42_0 : decode prog_12_method_4_code 0 = .ok (.iconst 0, 1) := by decide +kernel
theorem d42_1 : decode prog_12_method_4_code 1 = .ok (.istore_n 2, 1) := by decide +kernel
theorem d42_2 : decode prog_12_method_4_code 2 = .ok (.iload_n 2, 1) := by decide +kernel
theorem d42_3 : decode prog_12_method_4_code 3 = .ok (.aload_n 0, 1) := by decide +kernel
theorem d42_4 : decode prog_12_method_4_code 4 = .ok (.getfield 22, 3) := by decide +kernel
theorem d42_7 : decode prog_12_method_4_code 7 = .ok (.getfield 46, 3) := by decide +kernel
theorem d42_10 : decode prog_12_method_4_code 10 = .ok (.if_icmp .ge 42, 3) := by decide +kernel
theorem d42_52 : decode prog_12_method_4_code 52 = .ok (.iconst 1, 1) := by decide +kernel
theorem d42_53 : decode prog_12_method_4_code 53 = .ok (.ireturn, 1) := by decide +kernel
noncomputable def T_42 : Nat → Option xF := bn 4 (bn 2 (bn 1 (bl 0 (x_const 2147483648 1)) (bl 1 (y_istore 2 2))) (bn 3 (bl 2 (y_iload 2 3)) (bl 3 (y_aload 0 4)))) (bn 10 (bn 7 (bl 4 (y_getf 10 0 7)) (bl 7 (y_getf 6 1 10))) (bn 52 (bl 10 (y_icmp yc3 52 13)) (bl 52 (x_const 2147483649 53))))
set_option maxRecDepth 100000 in
set_option maxHeartbeats 4000000 in
theorem T_42_ok (G : State → Nat → Nat → Prop) : xTree PX G prog_12_method_4_code "CapitalCase$TwoDays" false T_42 := (xT_n (xT_n (xT_n (xT_l (s_iconst d42_0 (by decide +kernel))) (xT_l (yS (y_istore_eq _ _) (s_istore_n d42_1)))) (xT_n (xT_l (yS (y_iload_eq _ _) (s_iload_n d42_2))) (xT_l (yS (y_aload_eq _ _) (s_aload_n d42_3))))) (xT_n (xT_n (xT_l (yS (y_getf_eq _ _ _) (s_getf (T := TX10) (N := 9) d42_4 rfl inX10 (by decide) wd_505))) (xT_l (yS (y_getf_eq _ _ _) (s_getf (T := TX6) (N := 15) d42_7 rfl inX6 (by decide) wd_168)))) (xT_n (xT_l (yS (y_icmp_eq yc3_eq _ _) (s_icmpge d42_10 (by decide +kernel)))) (xT_l (s_iconst d42_52 (by decide +kernel))))))
set_option maxRecDepth 100000 in
set_option maxHeartbeats 4000000 in
theorem M_42 : xMeth PX 42 (T_42, 3, [(53, 2)]) := ⟨⟨"CapitalCase$TwoDays", "takeAll", "(I)Z"⟩, prog_12_method_4_code, (some .boolean), rfl, by decide, fun G => T_42_ok G, xrt_ok (xR_c (Or.inr (Or.inl ⟨rfl, d42_53, rfl⟩)) (xR_n))⟩
theorem d43_0 : decode prog_12_method_3_code 0 = .ok (.iconst 0, 1) := by decide +kernel
theorem d43_1 : decode prog_12_method_3_code 1 = .ok (.istore_n 3, 1) := by decide +kernel
theorem d43_2 : decode prog_12_method_3_code 2 = .ok (.iconst 0, 1) := by decide +kernel
theorem d43_3 : decode prog_12_method_3_code 3 = .ok (.istore 4, 2) := by decide +kernel
theorem d43_5 : decode prog_12_method_3_code 5 = .ok (.iload 4, 2) := by decide +kernel
theorem d43_7 : decode prog_12_method_3_code 7 = .ok (.aload_n 0, 1) := by decide +kernel
theorem d43_8 : decode prog_12_method_3_code 8 = .ok (.getfield 22, 3) := by decide +kernel
theorem d43_11 : decode prog_12_method_3_code 11 = .ok (.getfield 46, 3) := by decide +kernel
theorem d43_14 : decode prog_12_method_3_code 14 = .ok (.if_icmp .ge 30, 3) := by decide +kernel
theorem d43_44 : decode prog_12_method_3_code 44 = .ok (.iload_n 3, 1) := by decide +kernel
theorem d43_45 : decode prog_12_method_3_code 45 = .ok (.ireturn, 1) := by decide +kernel
noncomputable def T_43 : Nat → Option xF := bn 7 (bn 2 (bn 1 (bl 0 (x_const 2147483648 1)) (bl 1 (y_istore 3 2))) (bn 3 (bl 2 (x_const 2147483648 3)) (bn 5 (bl 3 (y_istore 4 5)) (bl 5 (y_iload 4 7))))) (bn 11 (bn 8 (bl 7 (y_aload 0 8)) (bl 8 (y_getf 10 0 11))) (bn 14 (bl 11 (y_getf 6 1 14)) (bn 44 (bl 14 (y_icmp yc3 44 17)) (bl 44 (y_iload 3 45)))))
set_option maxRecDepth 100000 in
set_option maxHeartbeats 4000000 in
theorem T_43_ok (G : State → Nat → Nat → Prop) : xTree PX G prog_12_method_3_code "CapitalCase$TwoDays" false T_43 := (xT_n (xT_n (xT_n (xT_l (s_iconst d43_0 (by decide +kernel))) (xT_l (yS (y_istore_eq _ _) (s_istore_n d43_1)))) (xT_n (xT_l (s_iconst d43_2 (by decide +kernel))) (xT_n (xT_l (yS (y_istore_eq _ _) (s_istore d43_3))) (xT_l (yS (y_iload_eq _ _) (s_iload d43_5)))))) (xT_n (xT_n (xT_l (yS (y_aload_eq _ _) (s_aload_n d43_7))) (xT_l (yS (y_getf_eq _ _ _) (s_getf (T := TX10) (N := 9) d43_8 rfl inX10 (by decide) wd_505)))) (xT_n (xT_l (yS (y_getf_eq _ _ _) (s_getf (T := TX6) (N := 15) d43_11 rfl inX6 (by decide) wd_168))) (xT_n (xT_l (yS (y_icmp_eq yc3_eq _ _) (s_icmpge d43_14 (by decide +kernel)))) (xT_l (yS (y_iload_eq _ _) (s_iload_n d43_44)))))))
set_option maxRecDepth 100000 in
set_option maxHeartbeats 4000000 in
theorem M_43 : xMeth PX 43 (T_43, 5, [(45, 1)]) := ⟨⟨"CapitalCase$TwoDays", "total", "([II)I"⟩, prog_12_method_3_code, (some .int), rfl, by decide, fun G => T_43_ok G, xrt_ok (xR_c (Or.inl ⟨rfl, d43_45, rfl⟩) (xR_n))⟩
theorem d44_0 : decode prog_1_method_1_code 0 = .ok (.aload_n 0, 1) := by decide +kernel
theorem d44_1 : decode prog_1_method_1_code 1 = .ok (.invokespecial 3, 3) := by decide +kernel
theorem d44_4 : decode prog_1_method_1_code 4 = .ok (.aload_n 0, 1) := by decide +kernel
theorem d44_5 : decode prog_1_method_1_code 5 = .ok (.sipush 2000, 3) := by decide +kernel
theorem d44_8 : decode prog_1_method_1_code 8 = .ok (.newarray .byte, 2) := by decide +kernel
theorem d44_10 : decode prog_1_method_1_code 10 = .ok (.putfield 9, 3) := by decide +kernel
theorem d44_13 : decode prog_1_method_1_code 13 = .ok (.aload_n 0, 1) := by decide +kernel
theorem d44_14 : decode prog_1_method_1_code 14 = .ok (.iconst 0, 1) := by decide +kernel
theorem d44_15 : decode prog_1_method_1_code 15 = .ok (.putfield 13, 3) := by decide +kernel
theorem d44_18 : decode prog_1_method_1_code 18 = .ok (.aload_n 0, 1) := by decide +kernel
theorem d44_19 : decode prog_1_method_1_code 19 = .ok (.iconst (-1), 1) := by decide +kernel
theorem d44_20 : decode prog_1_method_1_code 20 = .ok (.putfield 17, 3) := by decide +kernel
theorem d44_23 : decode prog_1_method_1_code 23 = .ok (.aload_n 0, 1) := by decide +kernel
theorem d44_24 : decode prog_1_method_1_code 24 = .ok (.new 20, 3) := by decide +kernel
theorem d44_27 : decode prog_1_method_1_code 27 = .ok (.dup, 1) := by decide +kernel
theorem d44_28 : decode prog_1_method_1_code 28 = .ok (.invokespecial 22, 3) := by decide +kernel
theorem d44_31 : decode prog_1_method_1_code 31 = .ok (.putfield 23, 3) := by decide +kernel
theorem d44_34 : decode prog_1_method_1_code 34 = .ok (.aload_n 0, 1) := by decide +kernel
theorem d44_35 : decode prog_1_method_1_code 35 = .ok (.new 27, 3) := by decide +kernel
theorem d44_38 : decode prog_1_method_1_code 38 = .ok (.dup, 1) := by decide +kernel
theorem d44_39 : decode prog_1_method_1_code 39 = .ok (.aload_n 0, 1) := by decide +kernel
theorem d44_40 : decode prog_1_method_1_code 40 = .ok (.getfield 9, 3) := by decide +kernel
theorem d44_43 : decode prog_1_method_1_code 43 = .ok (.invokespecial 29, 3) := by decide +kernel
theorem d44_46 : decode prog_1_method_1_code 46 = .ok (.putfield 32, 3) := by decide +kernel
theorem d44_49 : decode prog_1_method_1_code 49 = .ok (.aload_n 0, 1) := by decide +kernel
theorem d44_50 : decode prog_1_method_1_code 50 = .ok (.new 36, 3) := by decide +kernel
theorem d44_53 : decode prog_1_method_1_code 53 = .ok (.dup, 1) := by decide +kernel
theorem d44_54 : decode prog_1_method_1_code 54 = .ok (.invokespecial 38, 3) := by decide +kernel
theorem d44_57 : decode prog_1_method_1_code 57 = .ok (.putfield 39, 3) := by decide +kernel
theorem d44_60 : decode prog_1_method_1_code 60 = .ok (.aload_n 0, 1) := by decide +kernel
theorem d44_61 : decode prog_1_method_1_code 61 = .ok (.new 36, 3) := by decide +kernel
theorem d44_64 : decode prog_1_method_1_code 64 = .ok (.dup, 1) := by decide +kernel
theorem d44_65 : decode prog_1_method_1_code 65 = .ok (.invokespecial 38, 3) := by decide +kernel
theorem d44_68 : decode prog_1_method_1_code 68 = .ok (.putfield 43, 3) := by decide +kernel
theorem d44_71 : decode prog_1_method_1_code 71 = .ok (.aload_n 0, 1) := by decide +kernel
theorem d44_72 : decode prog_1_method_1_code 72 = .ok (.new 46, 3) := by decide +kernel
theorem d44_75 : decode prog_1_method_1_code 75 = .ok (.dup, 1) := by decide +kernel
theorem d44_76 : decode prog_1_method_1_code 76 = .ok (.invokespecial 48, 3) := by decide +kernel
theorem d44_79 : decode prog_1_method_1_code 79 = .ok (.putfield 49, 3) := by decide +kernel
theorem d44_82 : decode prog_1_method_1_code 82 = .ok (.aload_n 0, 1) := by decide +kernel
theorem d44_83 : decode prog_1_method_1_code 83 = .ok (.iconst 3, 1) := by decide +kernel
theorem d44_84 : decode prog_1_method_1_code 84 = .ok (.anewarray 36, 3) := by decide +kernel
theorem d44_87 : decode prog_1_method_1_code 87 = .ok (.putfield 53, 3) := by decide +kernel
theorem d44_90 : decode prog_1_method_1_code 90 = .ok (.aload_n 0, 1) := by decide +kernel
theorem d44_91 : decode prog_1_method_1_code 91 = .ok (.iconst 3, 1) := by decide +kernel
theorem d44_92 : decode prog_1_method_1_code 92 = .ok (.newarray .boolean, 2) := by decide +kernel
theorem d44_94 : decode prog_1_method_1_code 94 = .ok (.putfield 57, 3) := by decide +kernel
theorem d44_97 : decode prog_1_method_1_code 97 = .ok (.aload_n 0, 1) := by decide +kernel
theorem d44_98 : decode prog_1_method_1_code 98 = .ok (.new 61, 3) := by decide +kernel
theorem d44_101 : decode prog_1_method_1_code 101 = .ok (.dup, 1) := by decide +kernel
theorem d44_102 : decode prog_1_method_1_code 102 = .ok (.invokespecial 63, 3) := by decide +kernel
theorem d44_105 : decode prog_1_method_1_code 105 = .ok (.putfield 64, 3) := by decide +kernel
theorem d44_108 : decode prog_1_method_1_code 108 = .ok (.aload_n 0, 1) := by decide +kernel
theorem d44_109 : decode prog_1_method_1_code 109 = .ok (.new 68, 3) := by decide +kernel
theorem d44_112 : decode prog_1_method_1_code 112 = .ok (.dup, 1) := by decide +kernel
theorem d44_113 : decode prog_1_method_1_code 113 = .ok (.aload_n 0, 1) := by decide +kernel
theorem d44_114 : decode prog_1_method_1_code 114 = .ok (.getfield 23, 3) := by decide +kernel
theorem d44_117 : decode prog_1_method_1_code 117 = .ok (.invokespecial 70, 3) := by decide +kernel
theorem d44_120 : decode prog_1_method_1_code 120 = .ok (.putfield 73, 3) := by decide +kernel
theorem d44_123 : decode prog_1_method_1_code 123 = .ok (.aload_n 0, 1) := by decide +kernel
theorem d44_124 : decode prog_1_method_1_code 124 = .ok (.new 77, 3) := by decide +kernel
theorem d44_127 : decode prog_1_method_1_code 127 = .ok (.dup, 1) := by decide +kernel
theorem d44_128 : decode prog_1_method_1_code 128 = .ok (.aload_n 0, 1) := by decide +kernel
theorem d44_129 : decode prog_1_method_1_code 129 = .ok (.getfield 23, 3) := by decide +kernel
theorem d44_132 : decode prog_1_method_1_code 132 = .ok (.aload_n 0, 1) := by decide +kernel
theorem d44_133 : decode prog_1_method_1_code 133 = .ok (.getfield 73, 3) := by decide +kernel
theorem d44_136 : decode prog_1_method_1_code 136 = .ok (.invokespecial 79, 3) := by decide +kernel
theorem d44_139 : decode prog_1_method_1_code 139 = .ok (.putfield 82, 3) := by decide +kernel
theorem d44_142 : decode prog_1_method_1_code 142 = .ok (.aload_n 0, 1) := by decide +kernel
theorem d44_143 : decode prog_1_method_1_code 143 = .ok (.new 86, 3) := by decide +kernel
theorem d44_146 : decode prog_1_method_1_code 146 = .ok (.dup, 1) := by decide +kernel
theorem d44_147 : decode prog_1_method_1_code 147 = .ok (.aload_n 0, 1) := by decide +kernel
theorem d44_148 : decode prog_1_method_1_code 148 = .ok (.getfield 23, 3) := by decide +kernel
theorem d44_151 : decode prog_1_method_1_code 151 = .ok (.aload_n 0, 1) := by decide +kernel
theorem d44_152 : decode prog_1_method_1_code 152 = .ok (.getfield 73, 3) := by decide +kernel
theorem d44_155 : decode prog_1_method_1_code 155 = .ok (.invokespecial 88, 3) := by decide +kernel
theorem d44_158 : decode prog_1_method_1_code 158 = .ok (.putfield 89, 3) := by decide +kernel
theorem d44_161 : decode prog_1_method_1_code 161 = .ok (.aload_n 0, 1) := by decide +kernel
theorem d44_162 : decode prog_1_method_1_code 162 = .ok (.new 93, 3) := by decide +kernel
theorem d44_165 : decode prog_1_method_1_code 165 = .ok (.dup, 1) := by decide +kernel
theorem d44_166 : decode prog_1_method_1_code 166 = .ok (.aload_n 0, 1) := by decide +kernel
theorem d44_167 : decode prog_1_method_1_code 167 = .ok (.getfield 23, 3) := by decide +kernel
theorem d44_170 : decode prog_1_method_1_code 170 = .ok (.aload_n 0, 1) := by decide +kernel
theorem d44_171 : decode prog_1_method_1_code 171 = .ok (.getfield 73, 3) := by decide +kernel
theorem d44_174 : decode prog_1_method_1_code 174 = .ok (.aload_n 0, 1) := by decide +kernel
theorem d44_175 : decode prog_1_method_1_code 175 = .ok (.getfield 82, 3) := by decide +kernel
theorem d44_178 : decode prog_1_method_1_code 178 = .ok (.aload_n 0, 1) := by decide +kernel
theorem d44_179 : decode prog_1_method_1_code 179 = .ok (.getfield 89, 3) := by decide +kernel
theorem d44_182 : decode prog_1_method_1_code 182 = .ok (.invokespecial 95, 3) := by decide +kernel
theorem d44_185 : decode prog_1_method_1_code 185 = .ok (.putfield 98, 3) := by decide +kernel
theorem d44_188 : decode prog_1_method_1_code 188 = .ok (.aload_n 0, 1) := by decide +kernel
theorem d44_189 : decode prog_1_method_1_code 189 = .ok (.new 102, 3) := by decide +kernel
theorem d44_192 : decode prog_1_method_1_code 192 = .ok (.dup, 1) := by decide +kernel
theorem d44_193 : decode prog_1_method_1_code 193 = .ok (.aload_n 0, 1) := by decide +kernel
theorem d44_194 : decode prog_1_method_1_code 194 = .ok (.getfield 23, 3) := by decide +kernel
theorem d44_197 : decode prog_1_method_1_code 197 = .ok (.invokespecial 104, 3) := by decide +kernel
theorem d44_200 : decode prog_1_method_1_code 200 = .ok (.putfield 105, 3) := by decide +kernel
theorem d44_203 : decode prog_1_method_1_code 203 = .ok (.return_, 1) := by decide +kernel
noncomputable def T_44 : Nat → Option xF := bn 98 (bn 49 (bn 23 (bn 13 (bn 5 (bn 1 (bl 0 (y_aload 0 1)) (bn 4 (bl 1 (x_obj 4)) (bl 4 (y_aload 0 5)))) (bn 8 (bl 5 (x_const 2147485648 8)) (bn 10 (bl 8 (x_newa 1 10)) (bl 10 (y_putf 11 7 2 13))))) (bn 18 (bn 14 (bl 13 (y_aload 0 14)) (bn 15 (bl 14 (x_const 2147483648 15)) (bl 15 (y_putf 11 6 0 18)))) (bn 19 (bl 18 (y_aload 0 19)) (bn 20 (bl 19 (x_const 2147483647 20)) (bl 20 (y_putf 11 9 0 23)))))) (bn 35 (bn 28 (bn 24 (bl 23 (y_aload 0 24)) (bn 27 (bl 24 (x_new 6 15 [.inl (2147483648, 2147483648), .inl (2147483648, 2147483648), .inl (2147483648, 2147483648), .inl (2147483648, 2147483648), .inl (2147483648, 2147483648), .inr (.inl none), .inr (.inl none), .inr (.inl none), .inr (.inl none), .inr (.inl none), .inr (.inl none), .inr (.inl none), .inr (.inl none), .inr (.inl none), .inl (2147483648, 2147483648)] 27)) (bl 27 (x_dup 28)))) (bn 31 (bl 28 (y_invV 6 24 1 31)) (bn 34 (bl 31 (y_putf 11 0 2 34)) (bl 34 (y_aload 0 35))))) (bn 40 (bn 38 (bl 35 (x_new 2 10 [.inr (.inl none), .inr (.inl none), .inr (.inl none), .inl (2147483648, 2147483648), .inl (2147483648, 2147483648), .inl (2147483648, 2147483648), .inl (2147483648, 2147483648), .inl (2147483648, 2147483648), .inr (.inl none), .inl (2147483648, 2147483648)] 38)) (bn 39 (bl 38 (x_dup 39)) (bl 39 (y_aload 0 40)))) (bn 43 (bl 40 (y_getf 11 7 43)) (bn 46 (bl 43 (y_invV 2 4 2 46)) (bl 46 (y_putf 11 10 2 49))))))) (bn 75 (bn 61 (bn 54 (bn 50 (bl 49 (y_aload 0 50)) (bn 53 (bl 50 (x_new 8 10 [.inr (.inl none), .inr (.inl none), .inr (.inl none), .inr (.inl none), .inr (.inl none), .inl (2147483648, 2147483648), .inl (2147483648, 2147483648), .inl (2147483648, 2147483648), .inl (2147483648, 2147483648), .inl (2147483648, 2147483648)] 53)) (bl 53 (x_dup 54)))) (bn 57 (bl 54 (y_invV 8 31 1 57)) (bn 60 (bl 57 (y_putf 11 1 2 60)) (bl 60 (y_aload 0 61))))) (bn 68 (bn 64 (bl 61 (x_new 8 10 [.inr (.inl none), .inr (.inl none), .inr (.inl none), .inr (.inl none), .inr (.inl none), .inl (2147483648, 2147483648), .inl (2147483648, 2147483648), .inl (2147483648, 2147483648), .inl (2147483648, 2147483648), .inl (2147483648, 2147483648)] 64)) (bn 65 (bl 64 (x_dup 65)) (bl 65 (y_invV 8 31 1 68)))) (bn 71 (bl 68 (y_putf 11 2 2 71)) (bn 72 (bl 71 (y_aload 0 72)) (bl 72 (x_new 0 3 [.inr (.inl none), .inl (2147483648, 2147483648), .inl (2147483648, 2147483648)] 75)))))) (bn 87 (bn 82 (bn 76 (bl 75 (x_dup 76)) (bn 79 (bl 76 (y_invV 0 0 1 79)) (bl 79 (y_putf 11 8 2 82)))) (bn 83 (bl 82 (y_aload 0 83)) (bn 84 (bl 83 (x_const 2147483651 84)) (bl 84 (x_newq 87))))) (bn 92 (bn 90 (bl 87 (y_putf 11 11 2 90)) (bn 91 (bl 90 (y_aload 0 91)) (bl 91 (x_const 2147483651 92)))) (bn 94 (bl 92 (x_newa 2 94)) (bn 97 (bl 94 (y_putf 11 12 2 97)) (bl 97 (y_aload 0 98)))))))) (bn 148 (bn 124 (bn 112 (bn 105 (bn 101 (bl 98 (x_new 5 4 [.inr (.inl none), .inr (.inl none), .inr (.inl none), .inl (2147483648, 2147483648)] 101)) (bn 102 (bl 101 (x_dup 102)) (bl 102 (y_invV 5 20 1 105)))) (bn 108 (bl 105 (y_putf 11 13 2 108)) (bn 109 (bl 108 (y_aload 0 109)) (bl 109 (x_new 1 3 [.inr (.inl none), .inr (.inl none), .inr (.inl none)] 112))))) (bn 117 (bn 113 (bl 112 (x_dup 113)) (bn 114 (bl 113 (y_aload 0 114)) (bl 114 (y_getf 11 0 117)))) (bn 120 (bl 117 (y_invV 1 3 2 120)) (bn 123 (bl 120 (y_putf 11 5 2 123)) (bl 123 (y_aload 0 124)))))) (bn 136 (bn 129 (bn 127 (bl 124 (x_new 4 2 [.inr (.inl none), .inr (.inl none)] 127)) (bn 128 (bl 127 (x_dup 128)) (bl 128 (y_aload 0 129)))) (bn 132 (bl 129 (y_getf 11 0 132)) (bn 133 (bl 132 (y_aload 0 133)) (bl 133 (y_getf 11 5 136))))) (bn 143 (bn 139 (bl 136 (y_invV 4 12 3 139)) (bn 142 (bl 139 (y_putf 11 3 2 142)) (bl 142 (y_aload 0 143)))) (bn 146 (bl 143 (x_new 3 12 [.inr (.inl none), .inr (.inl none), .inr (.inl none), .inr (.inl none), .inr (.inl none), .inl (2147483648, 2147483648), .inl (2147483648, 2147483648), .inl (2147483648, 2147483648), .inl (2147483648, 2147483648), .inr (.inl none), .inr (.inl none), .inr (.inl none)] 146)) (bn 147 (bl 146 (x_dup 147)) (bl 147 (y_aload 0 148))))))) (bn 174 (bn 162 (bn 155 (bn 151 (bl 148 (y_getf 11 0 151)) (bn 152 (bl 151 (y_aload 0 152)) (bl 152 (y_getf 11 5 155)))) (bn 158 (bl 155 (y_invV 3 7 3 158)) (bn 161 (bl 158 (y_putf 11 4 2 161)) (bl 161 (y_aload 0 162))))) (bn 167 (bn 165 (bl 162 (x_new 10 9 [.inr (.inl none), .inr (.inl none), .inr (.inl none), .inr (.inl none), .inr (.inl none), .inr (.inl none), .inl (2147483648, 2147483648), .inl (2147483648, 2147483648), .inr (.inl none)] 165)) (bn 166 (bl 165 (x_dup 166)) (bl 166 (y_aload 0 167)))) (bn 170 (bl 167 (y_getf 11 0 170)) (bn 171 (bl 170 (y_aload 0 171)) (bl 171 (y_getf 11 5 174)))))) (bn 188 (bn 179 (bn 175 (bl 174 (y_aload 0 175)) (bn 178 (bl 175 (y_getf 11 3 178)) (bl 178 (y_aload 0 179)))) (bn 182 (bl 179 (y_getf 11 4 182)) (bn 185 (bl 182 (y_invV 10 38 5 185)) (bl 185 (y_putf 11 14 2 188))))) (bn 193 (bn 189 (bl 188 (y_aload 0 189)) (bn 192 (bl 189 (x_new 9 3 [.inr (.inl none), .inl (2147483648, 2147483648), .inl (2147483648, 2147483648)] 192)) (bl 192 (x_dup 193)))) (bn 197 (bn 194 (bl 193 (y_aload 0 194)) (bl 194 (y_getf 11 0 197))) (bn 200 (bl 197 (y_invV 9 36 2 200)) (bl 200 (y_putf 11 15 2 203))))))))
set_option maxRecDepth 100000 in
set_option maxHeartbeats 4000000 in
theorem T_44_ok (G : State → Nat → Nat → Prop) : xTree PX G prog_1_method_1_code "CapitalCase" true T_44 := (xT_n (xT_n (xT_n (xT_n (xT_n (xT_n (xT_l (yS (y_aload_eq _ _) (s_aload_n d44_0))) (xT_n (xT_l (s_obj d44_1 wd_138 wd_139 wd_obj)) (xT_l (yS (y_aload_eq _ _) (s_aload_n d44_4))))) (xT_n (xT_l (s_sipush d44_5 (by decide +kernel))) (xT_n (xT_l (s_newa (ty := .byte) d44_8 rfl rfl wd_252 (by decide) (fun _ _ => rfl) (Or.inl ⟨by decide, rfl⟩))) (xT_l (yS (y_putf_eq _ _ _ _) (s_putF (T := TX11) (N := 16) (ty := tyX11) d44_10 rfl inX11 tyX11_ok nmX11 (by decide) wd_553 (Or.inr (Or.inr ⟨rfl, Or.inr ⟨_, rfl⟩⟩)) rfl rfl rfl)))))) (xT_n (xT_n (xT_l (yS (y_aload_eq _ _) (s_aload_n d44_13))) (xT_n (xT_l (s_iconst d44_14 (by decide +kernel))) (xT_l (yS (y_putf_eq _ _ _ _) (s_putf (T := TX11) (N := 16) (ty := tyX11) d44_15 rfl inX11 tyX11_ok nmX11 (by decide) wd_554 (Or.inl ⟨rfl, rfl⟩) rfl))))) (xT_n (xT_l (yS (y_aload_eq _ _) (s_aload_n d44_18))) (xT_n (xT_l (s_iconst d44_19 (by decide +kernel))) (xT_l (yS (y_putf_eq _ _ _ _) (s_putf (T := TX11) (N := 16) (ty := tyX11) d44_20 rfl inX11 tyX11_ok nmX11 (by decide) wd_555 (Or.inl ⟨rfl, rfl⟩) rfl))))))) (xT_n (xT_n (xT_n (xT_l (yS (y_aload_eq _ _) (s_aload_n d44_23))) (xT_n (xT_l (s_new (T := TX6) (ty := tyX6) d44_24 rfl inX6 tyX6_ok (by decide) (by decide) wd_141 wd_142 wd_112)) (xT_l (s_dup d44_27)))) (xT_n (xT_l (yS (y_invV_eq _ _ _ _) (s_invI d44_28 cal_24 wd_143 wd_144 rfl))) (xT_n (xT_l (yS (y_putf_eq _ _ _ _) (s_putF (T := TX11) (N := 16) (ty := tyX11) d44_31 rfl inX11 tyX11_ok nmX11 (by decide) wd_556 (Or.inr (Or.inr ⟨rfl, Or.inl ⟨_, rfl⟩⟩)) rfl rfl rfl))) (xT_l (yS (y_aload_eq _ _) (s_aload_n d44_34)))))) (xT_n (xT_n (xT_l (s_new (T := TX2) (ty := tyX2) d44_35 rfl inX2 tyX2_ok (by decide) (by decide) wd_254 wd_255 wd_114)) (xT_n (xT_l (s_dup d44_38)) (xT_l (yS (y_aload_eq _ _) (s_aload_n d44_39))))) (xT_n (xT_l (yS (y_getf_eq _ _ _) (s_getf (T := TX11) (N := 16) d44_40 rfl inX11 (by decide) wd_553))) (xT_n (xT_l (yS (y_invV_eq _ _ _ _) (s_invI d44_43 cal_4 wd_256 wd_257 rfl))) (xT_l (yS (y_putf_eq _ _ _ _) (s_putF (T := TX11) (N := 16) (ty := tyX11) d44_46 rfl inX11 tyX11_ok nmX11 (by decide) wd_557 (Or.inr (Or.inr ⟨rfl, Or.inl ⟨_, rfl⟩⟩)) rfl rfl rfl)))))))) (xT_n (xT_n (xT_n (xT_n (xT_l (yS (y_aload_eq _ _) (s_aload_n d44_49))) (xT_n (xT_l (s_new (T := TX8) (ty := tyX8) d44_50 rfl inX8 tyX8_ok (by decide) (by decide) wd_314 wd_315 wd_116)) (xT_l (s_dup d44_53)))) (xT_n (xT_l (yS (y_invV_eq _ _ _ _) (s_invIN (host := "CapitalCase") d44_54 cal_31 (by decide +kernel) wd_317 rfl))) (xT_n (xT_l (yS (y_putf_eq _ _ _ _) (s_putF (T := TX11) (N := 16) (ty := tyX11) d44_57 rfl inX11 tyX11_ok nmX11 (by decide) wd_558 (Or.inr (Or.inr ⟨rfl, Or.inl ⟨_, rfl⟩⟩)) rfl rfl rfl))) (xT_l (yS (y_aload_eq _ _) (s_aload_n d44_60)))))) (xT_n (xT_n (xT_l (s_new (T := TX8) (ty := tyX8) d44_61 rfl inX8 tyX8_ok (by decide) (by decide) wd_314 wd_315 wd_116)) (xT_n (xT_l (s_dup d44_64)) (xT_l (yS (y_invV_eq _ _ _ _) (s_invIN (host := "CapitalCase") d44_65 cal_31 (by decide +kernel) wd_317 rfl))))) (xT_n (xT_l (yS (y_putf_eq _ _ _ _) (s_putF (T := TX11) (N := 16) (ty := tyX11) d44_68 rfl inX11 tyX11_ok nmX11 (by decide) wd_559 (Or.inr (Or.inr ⟨rfl, Or.inl ⟨_, rfl⟩⟩)) rfl rfl rfl))) (xT_n (xT_l (yS (y_aload_eq _ _) (s_aload_n d44_71))) (xT_l (s_new (T := TX0) (ty := tyX0) d44_72 rfl inX0 tyX0_ok (by decide) (by decide) wd_376 wd_377 wd_117)))))) (xT_n (xT_n (xT_n (xT_l (s_dup d44_75)) (xT_n (xT_l (yS (y_invV_eq _ _ _ _) (s_invIN (host := "CapitalCase") d44_76 cal_0 (by decide +kernel) wd_379 rfl))) (xT_l (yS (y_putf_eq _ _ _ _) (s_putF (T := TX11) (N := 16) (ty := tyX11) d44_79 rfl inX11 tyX11_ok nmX11 (by decide) wd_560 (Or.inr (Or.inr ⟨rfl, Or.inl ⟨_, rfl⟩⟩)) rfl rfl rfl))))) (xT_n (xT_l (yS (y_aload_eq _ _) (s_aload_n d44_82))) (xT_n (xT_l (s_iconst d44_83 (by decide +kernel))) (xT_l (s_newq d44_84 wd_314))))) (xT_n (xT_n (xT_l (yS (y_putf_eq _ _ _ _) (s_putF (T := TX11) (N := 16) (ty := tyX11) d44_87 rfl inX11 tyX11_ok nmX11 (by decide) wd_561 (Or.inr (Or.inr ⟨rfl, Or.inr ⟨_, rfl⟩⟩)) rfl rfl rfl))) (xT_n (xT_l (yS (y_aload_eq _ _) (s_aload_n d44_90))) (xT_l (s_iconst d44_91 (by decide +kernel))))) (xT_n (xT_l (s_newa (ty := .boolean) d44_92 rfl rfl wd_415 (by decide) (fun _ _ => rfl) (Or.inl ⟨by decide, rfl⟩))) (xT_n (xT_l (yS (y_putf_eq _ _ _ _) (s_putF (T := TX11) (N := 16) (ty := tyX11) d44_94 rfl inX11 tyX11_ok nmX11 (by decide) wd_562 (Or.inr (Or.inr ⟨rfl, Or.inr ⟨_, rfl⟩⟩)) rfl rfl rfl))) (xT_l (yS (y_aload_eq _ _) (s_aload_n d44_97))))))))) (xT_n (xT_n (xT_n (xT_n (xT_n (xT_l (s_new (T := TX5) (ty := tyX5) d44_98 rfl inX5 tyX5_ok (by decide) (by decide) wd_395 wd_396 wd_118)) (xT_n (xT_l (s_dup d44_101)) (xT_l (yS (y_invV_eq _ _ _ _) (s_invIN (host := "CapitalCase") d44_102 cal_20 (by decide +kernel) wd_398 rfl))))) (xT_n (xT_l (yS (y_putf_eq _ _ _ _) (s_putF (T := TX11) (N := 16) (ty := tyX11) d44_105 rfl inX11 tyX11_ok nmX11 (by decide) wd_563 (Or.inr (Or.inr ⟨rfl, Or.inl ⟨_, rfl⟩⟩)) rfl rfl rfl))) (xT_n (xT_l (yS (y_aload_eq _ _) (s_aload_n d44_108))) (xT_l (s_new (T := TX1) (ty := tyX1) d44_109 rfl inX1 tyX1_ok (by decide) (by decide) wd_416 wd_417 wd_119))))) (xT_n (xT_n (xT_l (s_dup d44_112)) (xT_n (xT_l (yS (y_aload_eq _ _) (s_aload_n d44_113))) (xT_l (yS (y_getf_eq _ _ _) (s_getf (T := TX11) (N := 16) d44_114 rfl inX11 (by decide) wd_556))))) (xT_n (xT_l (yS (y_invV_eq _ _ _ _) (s_invI d44_117 cal_3 wd_418 wd_419 rfl))) (xT_n (xT_l (yS (y_putf_eq _ _ _ _) (s_putF (T := TX11) (N := 16) (ty := tyX11) d44_120 rfl inX11 tyX11_ok nmX11 (by decide) wd_564 (Or.inr (Or.inr ⟨rfl, Or.inl ⟨_, rfl⟩⟩)) rfl rfl rfl))) (xT_l (yS (y_aload_eq _ _) (s_aload_n d44_123))))))) (xT_n (xT_n (xT_n (xT_l (s_new (T := TX4) (ty := tyX4) d44_124 rfl inX4 tyX4_ok (by decide) (by decide) wd_432 wd_433 wd_120)) (xT_n (xT_l (s_dup d44_127)) (xT_l (yS (y_aload_eq _ _) (s_aload_n d44_128))))) (xT_n (xT_l (yS (y_getf_eq _ _ _) (s_getf (T := TX11) (N := 16) d44_129 rfl inX11 (by decide) wd_556))) (xT_n (xT_l (yS (y_aload_eq _ _) (s_aload_n d44_132))) (xT_l (yS (y_getf_eq _ _ _) (s_getf (T := TX11) (N := 16) d44_133 rfl inX11 (by decide) wd_564)))))) (xT_n (xT_n (xT_l (yS (y_invV_eq _ _ _ _) (s_invI d44_136 cal_12 wd_434 wd_435 rfl))) (xT_n (xT_l (yS (y_putf_eq _ _ _ _) (s_putF (T := TX11) (N := 16) (ty := tyX11) d44_139 rfl inX11 tyX11_ok nmX11 (by decide) wd_565 (Or.inr (Or.inr ⟨rfl, Or.inl ⟨_, rfl⟩⟩)) rfl rfl rfl))) (xT_l (yS (y_aload_eq _ _) (s_aload_n d44_142))))) (xT_n (xT_l (s_new (T := TX3) (ty := tyX3) d44_143 rfl inX3 tyX3_ok (by decide) (by decide) wd_445 wd_446 wd_121)) (xT_n (xT_l (s_dup d44_146)) (xT_l (yS (y_aload_eq _ _) (s_aload_n d44_147)))))))) (xT_n (xT_n (xT_n (xT_n (xT_l (yS (y_getf_eq _ _ _) (s_getf (T := TX11) (N := 16) d44_148 rfl inX11 (by decide) wd_556))) (xT_n (xT_l (yS (y_aload_eq _ _) (s_aload_n d44_151))) (xT_l (yS (y_getf_eq _ _ _) (s_getf (T := TX11) (N := 16) d44_152 rfl inX11 (by decide) wd_564))))) (xT_n (xT_l (yS (y_invV_eq _ _ _ _) (s_invI d44_155 cal_7 wd_447 wd_448 rfl))) (xT_n (xT_l (yS (y_putf_eq _ _ _ _) (s_putF (T := TX11) (N := 16) (ty := tyX11) d44_158 rfl inX11 tyX11_ok nmX11 (by decide) wd_566 (Or.inr (Or.inr ⟨rfl, Or.inl ⟨_, rfl⟩⟩)) rfl rfl rfl))) (xT_l (yS (y_aload_eq _ _) (s_aload_n d44_161)))))) (xT_n (xT_n (xT_l (s_new (T := TX10) (ty := tyX10) d44_162 rfl inX10 tyX10_ok (by decide) (by decide) wd_495 wd_496 wd_122)) (xT_n (xT_l (s_dup d44_165)) (xT_l (yS (y_aload_eq _ _) (s_aload_n d44_166))))) (xT_n (xT_l (yS (y_getf_eq _ _ _) (s_getf (T := TX11) (N := 16) d44_167 rfl inX11 (by decide) wd_556))) (xT_n (xT_l (yS (y_aload_eq _ _) (s_aload_n d44_170))) (xT_l (yS (y_getf_eq _ _ _) (s_getf (T := TX11) (N := 16) d44_171 rfl inX11 (by decide) wd_564))))))) (xT_n (xT_n (xT_n (xT_l (yS (y_aload_eq _ _) (s_aload_n d44_174))) (xT_n (xT_l (yS (y_getf_eq _ _ _) (s_getf (T := TX11) (N := 16) d44_175 rfl inX11 (by decide) wd_565))) (xT_l (yS (y_aload_eq _ _) (s_aload_n d44_178))))) (xT_n (xT_l (yS (y_getf_eq _ _ _) (s_getf (T := TX11) (N := 16) d44_179 rfl inX11 (by decide) wd_566))) (xT_n (xT_l (yS (y_invV_eq _ _ _ _) (s_invI d44_182 cal_38 wd_497 wd_498 rfl))) (xT_l (yS (y_putf_eq _ _ _ _) (s_putF (T := TX11) (N := 16) (ty := tyX11) d44_185 rfl inX11 tyX11_ok nmX11 (by decide) wd_567 (Or.inr (Or.inr ⟨rfl, Or.inl ⟨_, rfl⟩⟩)) rfl rfl rfl)))))) (xT_n (xT_n (xT_l (yS (y_aload_eq _ _) (s_aload_n d44_188))) (xT_n (xT_l (s_new (T := TX9) (ty := tyX9) d44_189 rfl inX9 tyX9_ok (by decide) (by decide) wd_535 wd_536 wd_123)) (xT_l (s_dup d44_192)))) (xT_n (xT_n (xT_l (yS (y_aload_eq _ _) (s_aload_n d44_193))) (xT_l (yS (y_getf_eq _ _ _) (s_getf (T := TX11) (N := 16) d44_194 rfl inX11 (by decide) wd_556)))) (xT_n (xT_l (yS (y_invV_eq _ _ _ _) (s_invI d44_197 cal_36 wd_537 wd_538 rfl))) (xT_l (yS (y_putf_eq _ _ _ _) (s_putF (T := TX11) (N := 16) (ty := tyX11) d44_200 rfl inX11 tyX11_ok nmX11 (by decide) wd_568 (Or.inr (Or.inr ⟨rfl, Or.inl ⟨_, rfl⟩⟩)) rfl rfl rfl))))))))))
set_option maxRecDepth 100000 in
set_option maxHeartbeats 4000000 in
theorem M_44 : xMeth PX 44 (T_44, 1, [(203, 3)]) := ⟨⟨"CapitalCase", "<init>", "()V"⟩, prog_1_method_1_code, none, rfl, by decide, fun G => T_44_ok G, xrt_ok (xR_c (Or.inr (Or.inr (Or.inl ⟨rfl, d44_203, rfl⟩))) (xR_n))⟩
theorem d45_0 : decode prog_1_method_3_code 0 = .ok (.bipush 24, 2) := by decide +kernel
theorem d45_2 : decode prog_1_method_3_code 2 = .ok (.istore_n 2, 1) := by decide +kernel
theorem d45_3 : decode prog_1_method_3_code 3 = .ok (.iload_n 2, 1) := by decide +kernel
theorem d45_4 : decode prog_1_method_3_code 4 = .ok (.ifCond .lt 42, 3) := by decide +kernel
theorem d45_7 : decode prog_1_method_3_code 7 = .ok (.aload_n 0, 1) := by decide +kernel
theorem d45_8 : decode prog_1_method_3_code 8 = .ok (.getfield 13, 3) := by decide +kernel
theorem d45_11 : decode prog_1_method_3_code 11 = .ok (.sipush 2000, 3) := by decide +kernel
theorem d45_14 : decode prog_1_method_3_code 14 = .ok (.if_icmp .ge 32, 3) := by decide +kernel
theorem d45_17 : decode prog_1_method_3_code 17 = .ok (.aload_n 0, 1) := by decide +kernel
theorem d45_18 : decode prog_1_method_3_code 18 = .ok (.getfield 9, 3) := by decide +kernel
theorem d45_21 : decode prog_1_method_3_code 21 = .ok (.aload_n 0, 1) := by decide +kernel
theorem d45_22 : decode prog_1_method_3_code 22 = .ok (.getfield 13, 3) := by decide +kernel
theorem d45_25 : decode prog_1_method_3_code 25 = .ok (.iload_n 1, 1) := by decide +kernel
theorem d45_26 : decode prog_1_method_3_code 26 = .ok (.iload_n 2, 1) := by decide +kernel
theorem d45_27 : decode prog_1_method_3_code 27 = .ok (.iushr, 1) := by decide +kernel
theorem d45_28 : decode prog_1_method_3_code 28 = .ok (.i2b, 1) := by decide +kernel
theorem d45_29 : decode prog_1_method_3_code 29 = .ok (.bastore, 1) := by decide +kernel
theorem d45_30 : decode prog_1_method_3_code 30 = .ok (.aload_n 0, 1) := by decide +kernel
theorem d45_31 : decode prog_1_method_3_code 31 = .ok (.dup, 1) := by decide +kernel
theorem d45_32 : decode prog_1_method_3_code 32 = .ok (.getfield 13, 3) := by decide +kernel
theorem d45_35 : decode prog_1_method_3_code 35 = .ok (.iconst 1, 1) := by decide +kernel
theorem d45_36 : decode prog_1_method_3_code 36 = .ok (.iadd, 1) := by decide +kernel
theorem d45_37 : decode prog_1_method_3_code 37 = .ok (.putfield 13, 3) := by decide +kernel
theorem d45_40 : decode prog_1_method_3_code 40 = .ok (.iinc 2 (-8), 3) := by decide +kernel
theorem d45_43 : decode prog_1_method_3_code 43 = .ok (.goto (-40), 3) := by decide +kernel
theorem d45_46 : decode prog_1_method_3_code 46 = .ok (.return_, 1) := by decide +kernel
noncomputable def T_45 : Nat → Option xF := bn 25 (bn 11 (bn 4 (bn 2 (bl 0 (x_const 2147483672 2)) (bn 3 (bl 2 (y_istore 2 3)) (bl 3 (y_iload 2 4)))) (bn 7 (bl 4 (y_if yc2 46 7)) (bn 8 (bl 7 (y_aload 0 8)) (bl 8 (y_getf 11 6 11))))) (bn 18 (bn 14 (bl 11 (x_const 2147485648 14)) (bn 17 (bl 14 (y_icmp yc3 46 17)) (bl 17 (y_aload 0 18)))) (bn 21 (bl 18 (y_getf 11 7 21)) (bn 22 (bl 21 (y_aload 0 22)) (bl 22 (y_getf 11 6 25)))))) (bn 31 (bn 28 (bn 26 (bl 25 (y_iload 1 26)) (bn 27 (bl 26 (y_iload 2 27)) (bl 27 (y_bin (xfg (fun x y => (x.toUInt32 >>> (y.toUInt32 &&& Int32.toUInt32 31)).toInt32)) 28)))) (bn 29 (bl 28 (x_un (fun o => xo ((xi o).toInt8.toInt32)) 29)) (bn 30 (bl 29 (x_bast 30)) (bl 30 (y_aload 0 31))))) (bn 36 (bn 32 (bl 31 (x_dup 32)) (bn 35 (bl 32 (y_getf 11 6 35)) (bl 35 (x_const 2147483649 36)))) (bn 40 (bn 37 (bl 36 (y_bin yadd 37)) (bl 37 (y_putf 11 6 0 40))) (bn 43 (bl 40 (y_iinc 2 2147483640 43)) (bl 43 (x_goto 3))))))
set_option maxRecDepth 100000 in
set_option maxHeartbeats 4000000 in
theorem T_45_ok (G : State → Nat → Nat → Prop) : xTree PX G prog_1_method_3_code "CapitalCase" false T_45 := (xT_n (xT_n (xT_n (xT_n (xT_l (s_bipush d45_0 (by decide +kernel))) (xT_n (xT_l (yS (y_istore_eq _ _) (s_istore_n d45_2))) (xT_l (yS (y_iload_eq _ _) (s_iload_n d45_3))))) (xT_n (xT_l (yS (y_if_eq yc2_eq _ _) (s_iflt d45_4 (by decide +kernel)))) (xT_n (xT_l (yS (y_aload_eq _ _) (s_aload_n d45_7))) (xT_l (yS (y_getf_eq _ _ _) (s_getf (T := TX11) (N := 16) d45_8 rfl inX11 (by decide) wd_554)))))) (xT_n (xT_n (xT_l (s_sipush d45_11 (by decide +kernel))) (xT_n (xT_l (yS (y_icmp_eq yc3_eq _ _) (s_icmpge d45_14 (by decide +kernel)))) (xT_l (yS (y_aload_eq _ _) (s_aload_n d45_17))))) (xT_n (xT_l (yS (y_getf_eq _ _ _) (s_getf (T := TX11) (N := 16) d45_18 rfl inX11 (by decide) wd_553))) (xT_n (xT_l (yS (y_aload_eq _ _) (s_aload_n d45_21))) (xT_l (yS (y_getf_eq _ _ _) (s_getf (T := TX11) (N := 16) d45_22 rfl inX11 (by decide) wd_554))))))) (xT_n (xT_n (xT_n (xT_l (yS (y_iload_eq _ _) (s_iload_n d45_25))) (xT_n (xT_l (yS (y_iload_eq _ _) (s_iload_n d45_26))) (xT_l (yS (y_bin_eq _ _) (s_iushr d45_27))))) (xT_n (xT_l (s_i2b d45_28)) (xT_n (xT_l (s_bast d45_29)) (xT_l (yS (y_aload_eq _ _) (s_aload_n d45_30)))))) (xT_n (xT_n (xT_l (s_dup d45_31)) (xT_n (xT_l (yS (y_getf_eq _ _ _) (s_getf (T := TX11) (N := 16) d45_32 rfl inX11 (by decide) wd_554))) (xT_l (s_iconst d45_35 (by decide +kernel))))) (xT_n (xT_n (xT_l (yS (y_bin_eq _ _) (s_iadd d45_36))) (xT_l (yS (y_putf_eq _ _ _ _) (s_putf (T := TX11) (N := 16) (ty := tyX11) d45_37 rfl inX11 tyX11_ok nmX11 (by decide) wd_554 (Or.inl ⟨rfl, rfl⟩) rfl)))) (xT_n (xT_l (yS (y_iinc_eq _ _ _) (s_iinc d45_40 (by decide +kernel)))) (xT_l (s_goto d45_43 (by decide +kernel))))))))
set_option maxRecDepth 100000 in
set_option maxHeartbeats 4000000 in
theorem M_45 : xMeth PX 45 (T_45, 3, [(46, 3)]) := ⟨⟨"CapitalCase", "append", "(I)V"⟩, prog_1_method_3_code, none, rfl, by decide, fun G => T_45_ok G, xrt_ok (xR_c (Or.inr (Or.inr (Or.inl ⟨rfl, d45_46, rfl⟩))) (xR_n))⟩
theorem d46_0 : decode prog_1_method_41_code 0 = .ok (.iload_n 1, 1) := by decide +kernel
theorem d46_1 : decode prog_1_method_41_code 1 = .ok (.ifCond .lt 25, 3) := by decide +kernel
theorem d46_4 : decode prog_1_method_41_code 4 = .ok (.iload_n 1, 1) := by decide +kernel
theorem d46_5 : decode prog_1_method_41_code 5 = .ok (.aload_n 0, 1) := by decide +kernel
theorem d46_6 : decode prog_1_method_41_code 6 = .ok (.getfield 64, 3) := by decide +kernel
theorem d46_9 : decode prog_1_method_41_code 9 = .ok (.getfield 133, 3) := by decide +kernel
theorem d46_12 : decode prog_1_method_41_code 12 = .ok (.if_icmp .gt 14, 3) := by decide +kernel
theorem d46_15 : decode prog_1_method_41_code 15 = .ok (.iload_n 2, 1) := by decide +kernel
theorem d46_16 : decode prog_1_method_41_code 16 = .ok (.ifCond .lt 10, 3) := by decide +kernel
theorem d46_19 : decode prog_1_method_41_code 19 = .ok (.iload_n 2, 1) := by decide +kernel
theorem d46_20 : decode prog_1_method_41_code 20 = .ok (.sipush 999, 3) := by decide +kernel
theorem d46_23 : decode prog_1_method_41_code 23 = .ok (.if_icmp .le 5, 3) := by decide +kernel
theorem d46_26 : decode prog_1_method_41_code 26 = .ok (.iconst (-1), 1) := by decide +kernel
theorem d46_27 : decode prog_1_method_41_code 27 = .ok (.ireturn, 1) := by decide +kernel
theorem d46_28 : decode prog_1_method_41_code 28 = .ok (.aload_n 0, 1) := by decide +kernel
theorem d46_29 : decode prog_1_method_41_code 29 = .ok (.getfield 64, 3) := by decide +kernel
theorem d46_32 : decode prog_1_method_41_code 32 = .ok (.aload_n 0, 1) := by decide +kernel
theorem d46_33 : decode prog_1_method_41_code 33 = .ok (.getfield 39, 3) := by decide +kernel
theorem d46_36 : decode prog_1_method_41_code 36 = .ok (.aload_n 0, 1) := by decide +kernel
theorem d46_37 : decode prog_1_method_41_code 37 = .ok (.getfield 64, 3) := by decide +kernel
theorem d46_40 : decode prog_1_method_41_code 40 = .ok (.aload_n 0, 1) := by decide +kernel
theorem d46_41 : decode prog_1_method_41_code 41 = .ok (.getfield 39, 3) := by decide +kernel
theorem d46_44 : decode prog_1_method_41_code 44 = .ok (.aload_n 0, 1) := by decide +kernel
theorem d46_45 : decode prog_1_method_41_code 45 = .ok (.getfield 23, 3) := by decide +kernel
theorem d46_48 : decode prog_1_method_41_code 48 = .ok (.getfield 134, 3) := by decide +kernel
theorem d46_51 : decode prog_1_method_41_code 51 = .ok (.iload_n 1, 1) := by decide +kernel
theorem d46_52 : decode prog_1_method_41_code 52 = .ok (.invokevirtual 311, 3) := by decide +kernel
theorem d46_55 : decode prog_1_method_41_code 55 = .ok (.iload_n 2, 1) := by decide +kernel
theorem d46_56 : decode prog_1_method_41_code 56 = .ok (.invokevirtual 319, 3) := by decide +kernel
theorem d46_59 : decode prog_1_method_41_code 59 = .ok (.ireturn, 1) := by decide +kernel
noncomputable def T_46 : Nat → Option xF := bn 29 (bn 15 (bn 5 (bn 1 (bl 0 (y_iload 1 1)) (bn 4 (bl 1 (y_if yc2 26 4)) (bl 4 (y_iload 1 5)))) (bn 9 (bn 6 (bl 5 (y_aload 0 6)) (bl 6 (y_getf 11 13 9))) (bn 12 (bl 9 (y_getf 5 3 12)) (bl 12 (y_icmp yc4 26 15))))) (bn 20 (bn 16 (bl 15 (y_iload 2 16)) (bn 19 (bl 16 (y_if yc2 26 19)) (bl 19 (y_iload 2 20)))) (bn 26 (bn 23 (bl 20 (x_const 2147484647 23)) (bl 23 (y_icmp yc5 28 26))) (bn 28 (bl 26 (x_const 2147483647 27)) (bl 28 (y_aload 0 29)))))) (bn 44 (bn 36 (bn 32 (bl 29 (y_getf 11 13 32)) (bn 33 (bl 32 (y_aload 0 33)) (bl 33 (y_getf 11 1 36)))) (bn 40 (bn 37 (bl 36 (y_aload 0 37)) (bl 37 (y_getf 11 13 40))) (bn 41 (bl 40 (y_aload 0 41)) (bl 41 (y_getf 11 1 44))))) (bn 51 (bn 45 (bl 44 (y_aload 0 45)) (bn 48 (bl 45 (y_getf 11 0 48)) (bl 48 (y_getf 6 0 51)))) (bn 55 (bn 52 (bl 51 (y_iload 1 52)) (bl 52 (y_invV 5 21 4 55))) (bn 56 (bl 55 (y_iload 2 56)) (bl 56 (y_invV 5 22 4 59))))))
set_option maxRecDepth 100000 in
set_option maxHeartbeats 4000000 in
theorem T_46_ok (G : State → Nat → Nat → Prop) : xTree PX G prog_1_method_41_code "CapitalCase" false T_46 := (xT_n (xT_n (xT_n (xT_n (xT_l (yS (y_iload_eq _ _) (s_iload_n d46_0))) (xT_n (xT_l (yS (y_if_eq yc2_eq _ _) (s_iflt d46_1 (by decide +kernel)))) (xT_l (yS (y_iload_eq _ _) (s_iload_n d46_4))))) (xT_n (xT_n (xT_l (yS (y_aload_eq _ _) (s_aload_n d46_5))) (xT_l (yS (y_getf_eq _ _ _) (s_getf (T := TX11) (N := 16) d46_6 rfl inX11 (by decide) wd_563)))) (xT_n (xT_l (yS (y_getf_eq _ _ _) (s_getf (T := TX5) (N := 4) d46_9 rfl inX5 (by decide) wd_405))) (xT_l (yS (y_icmp_eq yc4_eq _ _) (s_icmpgt d46_12 (by decide +kernel))))))) (xT_n (xT_n (xT_l (yS (y_iload_eq _ _) (s_iload_n d46_15))) (xT_n (xT_l (yS (y_if_eq yc2_eq _ _) (s_iflt d46_16 (by decide +kernel)))) (xT_l (yS (y_iload_eq _ _) (s_iload_n d46_19))))) (xT_n (xT_n (xT_l (s_sipush d46_20 (by decide +kernel))) (xT_l (yS (y_icmp_eq yc5_eq _ _) (s_icmple d46_23 (by decide +kernel))))) (xT_n (xT_l (s_iconst d46_26 (by decide +kernel))) (xT_l (yS (y_aload_eq _ _) (s_aload_n d46_28))))))) (xT_n (xT_n (xT_n (xT_l (yS (y_getf_eq _ _ _) (s_getf (T := TX11) (N := 16) d46_29 rfl inX11 (by decide) wd_563))) (xT_n (xT_l (yS (y_aload_eq _ _) (s_aload_n d46_32))) (xT_l (yS (y_getf_eq _ _ _) (s_getf (T := TX11) (N := 16) d46_33 rfl inX11 (by decide) wd_558))))) (xT_n (xT_n (xT_l (yS (y_aload_eq _ _) (s_aload_n d46_36))) (xT_l (yS (y_getf_eq _ _ _) (s_getf (T := TX11) (N := 16) d46_37 rfl inX11 (by decide) wd_563)))) (xT_n (xT_l (yS (y_aload_eq _ _) (s_aload_n d46_40))) (xT_l (yS (y_getf_eq _ _ _) (s_getf (T := TX11) (N := 16) d46_41 rfl inX11 (by decide) wd_558)))))) (xT_n (xT_n (xT_l (yS (y_aload_eq _ _) (s_aload_n d46_44))) (xT_n (xT_l (yS (y_getf_eq _ _ _) (s_getf (T := TX11) (N := 16) d46_45 rfl inX11 (by decide) wd_556))) (xT_l (yS (y_getf_eq _ _ _) (s_getf (T := TX6) (N := 15) d46_48 rfl inX6 (by decide) wd_167))))) (xT_n (xT_n (xT_l (yS (y_iload_eq _ _) (s_iload_n d46_51))) (xT_l (yS (y_invV_eq _ _ _ _) (s_invV (T := TX5) d46_52 cal_21 rfl wd_1213 wd_1214 wd_1215)))) (xT_n (xT_l (yS (y_iload_eq _ _) (s_iload_n d46_55))) (xT_l (yS (y_invV_eq _ _ _ _) (s_invV (T := TX5) d46_56 cal_22 rfl wd_1227 wd_1228 wd_1229))))))))
set_option maxRecDepth 100000 in
set_option maxHeartbeats 4000000 in
theorem M_46 : xMeth PX 46 (T_46, 3, [(27, 1), (59, 1)]) := ⟨⟨"CapitalCase", "ask", "(II)I"⟩, prog_1_method_41_code, (some .int), rfl, by decide, fun G => T_46_ok G, xrt_ok (xR_c (Or.inl ⟨rfl, d46_27, rfl⟩) (xR_c (Or.inl ⟨rfl, d46_59, rfl⟩) (xR_n)))⟩
theorem d47_0 : decode prog_1_method_4_code 0 = .ok (.iload_n 1, 1) := by decide +kernel
theorem d47_1 : decode prog_1_method_4_code 1 = .ok (.ifCond .lt 11, 3) := by decide +kernel
theorem d47_4 : decode prog_1_method_4_code 4 = .ok (.iload_n 1, 1) := by decide +kernel
theorem d47_5 : decode prog_1_method_4_code 5 = .ok (.aload_n 0, 1) := by decide +kernel
theorem d47_6 : decode prog_1_method_4_code 6 = .ok (.getfield 13, 3) := by decide +kernel
theorem d47_9 : decode prog_1_method_4_code 9 = .ok (.if_icmp .le 5, 3) := by decide +kernel
theorem d47_12 : decode prog_1_method_4_code 12 = .ok (.iconst (-1), 1) := by decide +kernel
theorem d47_13 : decode prog_1_method_4_code 13 = .ok (.ireturn, 1) := by decide +kernel
theorem d47_14 : decode prog_1_method_4_code 14 = .ok (.aload_n 0, 1) := by decide +kernel
theorem d47_15 : decode prog_1_method_4_code 15 = .ok (.dup, 1) := by decide +kernel
theorem d47_16 : decode prog_1_method_4_code 16 = .ok (.getfield 13, 3) := by decide +kernel
theorem d47_19 : decode prog_1_method_4_code 19 = .ok (.iload_n 1, 1) := by decide +kernel
theorem d47_20 : decode prog_1_method_4_code 20 = .ok (.isub, 1) := by decide +kernel
theorem d47_21 : decode prog_1_method_4_code 21 = .ok (.putfield 13, 3) := by decide +kernel
theorem d47_24 : decode prog_1_method_4_code 24 = .ok (.aload_n 0, 1) := by decide +kernel
theorem d47_25 : decode prog_1_method_4_code 25 = .ok (.getfield 13, 3) := by decide +kernel
theorem d47_28 : decode prog_1_method_4_code 28 = .ok (.ireturn, 1) := by decide +kernel
noncomputable def T_47 : Nat → Option xF := bn 14 (bn 5 (bn 1 (bl 0 (y_iload 1 1)) (bn 4 (bl 1 (y_if yc2 12 4)) (bl 4 (y_iload 1 5)))) (bn 9 (bn 6 (bl 5 (y_aload 0 6)) (bl 6 (y_getf 11 6 9))) (bn 12 (bl 9 (y_icmp yc5 14 12)) (bl 12 (x_const 2147483647 13))))) (bn 20 (bn 16 (bn 15 (bl 14 (y_aload 0 15)) (bl 15 (x_dup 16))) (bn 19 (bl 16 (y_getf 11 6 19)) (bl 19 (y_iload 1 20)))) (bn 24 (bn 21 (bl 20 (y_bin ysub 21)) (bl 21 (y_putf 11 6 0 24))) (bn 25 (bl 24 (y_aload 0 25)) (bl 25 (y_getf 11 6 28)))))
set_option maxRecDepth 100000 in
set_option maxHeartbeats 4000000 in
theorem T_47_ok (G : State → Nat → Nat → Prop) : xTree PX G prog_1_method_4_code "CapitalCase" false T_47 := (xT_n (xT_n (xT_n (xT_l (yS (y_iload_eq _ _) (s_iload_n d47_0))) (xT_n (xT_l (yS (y_if_eq yc2_eq _ _) (s_iflt d47_1 (by decide +kernel)))) (xT_l (yS (y_iload_eq _ _) (s_iload_n d47_4))))) (xT_n (xT_n (xT_l (yS (y_aload_eq _ _) (s_aload_n d47_5))) (xT_l (yS (y_getf_eq _ _ _) (s_getf (T := TX11) (N := 16) d47_6 rfl inX11 (by decide) wd_554)))) (xT_n (xT_l (yS (y_icmp_eq yc5_eq _ _) (s_icmple d47_9 (by decide +kernel)))) (xT_l (s_iconst d47_12 (by decide +kernel)))))) (xT_n (xT_n (xT_n (xT_l (yS (y_aload_eq _ _) (s_aload_n d47_14))) (xT_l (s_dup d47_15))) (xT_n (xT_l (yS (y_getf_eq _ _ _) (s_getf (T := TX11) (N := 16) d47_16 rfl inX11 (by decide) wd_554))) (xT_l (yS (y_iload_eq _ _) (s_iload_n d47_19))))) (xT_n (xT_n (xT_l (yS (y_bin_eq _ _) (s_isub d47_20))) (xT_l (yS (y_putf_eq _ _ _ _) (s_putf (T := TX11) (N := 16) (ty := tyX11) d47_21 rfl inX11 tyX11_ok nmX11 (by decide) wd_554 (Or.inl ⟨rfl, rfl⟩) rfl)))) (xT_n (xT_l (yS (y_aload_eq _ _) (s_aload_n d47_24))) (xT_l (yS (y_getf_eq _ _ _) (s_getf (T := TX11) (N := 16) d47_25 rfl inX11 (by decide) wd_554)))))))
set_option maxRecDepth 100000 in
set_option maxHeartbeats 4000000 in
theorem M_47 : xMeth PX 47 (T_47, 2, [(13, 1), (28, 1)]) := ⟨⟨"CapitalCase", "back", "(I)I"⟩, prog_1_method_4_code, (some .int), rfl, by decide, fun G => T_47_ok G, xrt_ok (xR_c (Or.inl ⟨rfl, d47_13, rfl⟩) (xR_c (Or.inl ⟨rfl, d47_28, rfl⟩) (xR_n)))⟩
theorem d48_0 : decode prog_1_method_30_code 0 = .ok (.iload_n 1, 1) := by decide +kernel
theorem d48_1 : decode prog_1_method_30_code 1 = .ok (.ifCond .lt 8, 3) := by decide +kernel
theorem d48_4 : decode prog_1_method_30_code 4 = .ok (.iload_n 1, 1) := by decide +kernel
theorem d48_5 : decode prog_1_method_30_code 5 = .ok (.iconst 1, 1) := by decide +kernel
theorem d48_6 : decode prog_1_method_30_code 6 = .ok (.if_icmp .le 5, 3) := by decide +kernel
theorem d48_9 : decode prog_1_method_30_code 9 = .ok (.iconst (-1), 1) := by decide +kernel
theorem d48_10 : decode prog_1_method_30_code 10 = .ok (.ireturn, 1) := by decide +kernel
theorem d48_11 : decode prog_1_method_30_code 11 = .ok (.aload_n 0, 1) := by decide +kernel
theorem d48_12 : decode prog_1_method_30_code 12 = .ok (.getfield 105, 3) := by decide +kernel
theorem d48_15 : decode prog_1_method_30_code 15 = .ok (.aload_n 0, 1) := by decide +kernel
theorem d48_16 : decode prog_1_method_30_code 16 = .ok (.getfield 39, 3) := by decide +kernel
theorem d48_19 : decode prog_1_method_30_code 19 = .ok (.invokevirtual 286, 3) := by decide +kernel
theorem d48_22 : decode prog_1_method_30_code 22 = .ok (.iload_n 1, 1) := by decide +kernel
theorem d48_23 : decode prog_1_method_30_code 23 = .ok (.ifCond .ne 13, 3) := by decide +kernel
theorem d48_26 : decode prog_1_method_30_code 26 = .ok (.aload_n 0, 1) := by decide +kernel
theorem d48_27 : decode prog_1_method_30_code 27 = .ok (.getfield 105, 3) := by decide +kernel
theorem d48_30 : decode prog_1_method_30_code 30 = .ok (.getfield 289, 3) := by decide +kernel
theorem d48_33 : decode prog_1_method_30_code 33 = .ok (.goto 10, 3) := by decide +kernel
theorem d48_36 : decode prog_1_method_30_code 36 = .ok (.aload_n 0, 1) := by decide +kernel
theorem d48_37 : decode prog_1_method_30_code 37 = .ok (.getfield 105, 3) := by decide +kernel
theorem d48_40 : decode prog_1_method_30_code 40 = .ok (.getfield 292, 3) := by decide +kernel
theorem d48_43 : decode prog_1_method_30_code 43 = .ok (.ireturn, 1) := by decide +kernel
noncomputable def T_48 : Nat → Option xF := bn 19 (bn 9 (bn 4 (bn 1 (bl 0 (y_iload 1 1)) (bl 1 (y_if yc2 9 4))) (bn 5 (bl 4 (y_iload 1 5)) (bn 6 (bl 5 (x_const 2147483649 6)) (bl 6 (y_icmp yc5 11 9))))) (bn 12 (bn 11 (bl 9 (x_const 2147483647 10)) (bl 11 (y_aload 0 12))) (bn 15 (bl 12 (y_getf 11 15 15)) (bn 16 (bl 15 (y_aload 0 16)) (bl 16 (y_getf 11 1 19)))))) (bn 30 (bn 23 (bn 22 (bl 19 (y_invV 9 37 2 22)) (bl 22 (y_iload 1 23))) (bn 26 (bl 23 (y_if yc1 36 26)) (bn 27 (bl 26 (y_aload 0 27)) (bl 27 (y_getf 11 15 30))))) (bn 36 (bn 33 (bl 30 (y_getf 9 1 33)) (bl 33 (x_goto 43))) (bn 37 (bl 36 (y_aload 0 37)) (bn 40 (bl 37 (y_getf 11 15 40)) (bl 40 (y_getf 9 2 43))))))
set_option maxRecDepth 100000 in
set_option maxHeartbeats 4000000 in
theorem T_48_ok (G : State → Nat → Nat → Prop) : xTree PX G prog_1_method_30_code "CapitalCase" false T_48 := (xT_n (xT_n (xT_n (xT_n (xT_l (yS (y_iload_eq _ _) (s_iload_n d48_0))) (xT_l (yS (y_if_eq yc2_eq _ _) (s_iflt d48_1 (by decide +kernel))))) (xT_n (xT_l (yS (y_iload_eq _ _) (s_iload_n d48_4))) (xT_n (xT_l (s_iconst d48_5 (by decide +kernel))) (xT_l (yS (y_icmp_eq yc5_eq _ _) (s_icmple d48_6 (by decide +kernel))))))) (xT_n (xT_n (xT_l (s_iconst d48_9 (by decide +kernel))) (xT_l (yS (y_aload_eq _ _) (s_aload_n d48_11)))) (xT_n (xT_l (yS (y_getf_eq _ _ _) (s_getf (T := TX11) (N := 16) d48_12 rfl inX11 (by decide) wd_568))) (xT_n (xT_l (yS (y_aload_eq _ _) (s_aload_n d48_15))) (xT_l (yS (y_getf_eq _ _ _) (s_getf (T := TX11) (N := 16) d48_16 rfl inX11 (by decide) wd_558))))))) (xT_n (xT_n (xT_n (xT_l (yS (y_invV_eq _ _ _ _) (s_invV (T := TX9) d48_19 cal_37 rfl wd_1143 wd_1144 wd_1145))) (xT_l (yS (y_iload_eq _ _) (s_iload_n d48_22)))) (xT_n (xT_l (yS (y_if_eq yc1_eq _ _) (s_ifne d48_23 (by decide +kernel)))) (xT_n (xT_l (yS (y_aload_eq _ _) (s_aload_n d48_26))) (xT_l (yS (y_getf_eq _ _ _) (s_getf (T := TX11) (N := 16) d48_27 rfl inX11 (by decide) wd_568)))))) (xT_n (xT_n (xT_l (yS (y_getf_eq _ _ _) (s_getf (T := TX9) (N := 3) d48_30 rfl inX9 (by decide) wd_543))) (xT_l (s_goto d48_33 (by decide +kernel)))) (xT_n (xT_l (yS (y_aload_eq _ _) (s_aload_n d48_36))) (xT_n (xT_l (yS (y_getf_eq _ _ _) (s_getf (T := TX11) (N := 16) d48_37 rfl inX11 (by decide) wd_568))) (xT_l (yS (y_getf_eq _ _ _) (s_getf (T := TX9) (N := 3) d48_40 rfl inX9 (by decide) wd_545))))))))
set_option maxRecDepth 100000 in
set_option maxHeartbeats 4000000 in
theorem M_48 : xMeth PX 48 (T_48, 2, [(10, 1), (43, 1)]) := ⟨⟨"CapitalCase", "bargains", "(I)I"⟩, prog_1_method_30_code, (some .int), rfl, by decide, fun G => T_48_ok G, xrt_ok (xR_c (Or.inl ⟨rfl, d48_10, rfl⟩) (xR_c (Or.inl ⟨rfl, d48_43, rfl⟩) (xR_n)))⟩
theorem d49_0 : decode prog_1_method_6_code 0 = .ok (.aload_n 0, 1) := by decide +kernel
theorem d49_1 : decode prog_1_method_6_code 1 = .ok (.getfield 39, 3) := by decide +kernel
theorem d49_4 : decode prog_1_method_6_code 4 = .ok (.aload_n 0, 1) := by decide +kernel
theorem d49_5 : decode prog_1_method_6_code 5 = .ok (.getfield 23, 3) := by decide +kernel
theorem d49_8 : decode prog_1_method_6_code 8 = .ok (.invokevirtual 127, 3) := by decide +kernel
theorem d49_11 : decode prog_1_method_6_code 11 = .ok (.aload_n 0, 1) := by decide +kernel
theorem d49_12 : decode prog_1_method_6_code 12 = .ok (.getfield 49, 3) := by decide +kernel
theorem d49_15 : decode prog_1_method_6_code 15 = .ok (.iconst 0, 1) := by decide +kernel
theorem d49_16 : decode prog_1_method_6_code 16 = .ok (.putfield 130, 3) := by decide +kernel
theorem d49_19 : decode prog_1_method_6_code 19 = .ok (.aload_n 0, 1) := by decide +kernel
theorem d49_20 : decode prog_1_method_6_code 20 = .ok (.getfield 64, 3) := by decide +kernel
theorem d49_23 : decode prog_1_method_6_code 23 = .ok (.iconst 0, 1) := by decide +kernel
theorem d49_24 : decode prog_1_method_6_code 24 = .ok (.putfield 133, 3) := by decide +kernel
theorem d49_27 : decode prog_1_method_6_code 27 = .ok (.iconst 0, 1) := by decide +kernel
theorem d49_28 : decode prog_1_method_6_code 28 = .ok (.istore_n 1, 1) := by decide +kernel
theorem d49_29 : decode prog_1_method_6_code 29 = .ok (.iload_n 1, 1) := by decide +kernel
theorem d49_30 : decode prog_1_method_6_code 30 = .ok (.iconst 3, 1) := by decide +kernel
theorem d49_31 : decode prog_1_method_6_code 31 = .ok (.if_icmp .ge 16, 3) := by decide +kernel
theorem d49_34 : decode prog_1_method_6_code 34 = .ok (.aload_n 0, 1) := by decide +kernel
theorem d49_35 : decode prog_1_method_6_code 35 = .ok (.getfield 57, 3) := by decide +kernel
theorem d49_38 : decode prog_1_method_6_code 38 = .ok (.iload_n 1, 1) := by decide +kernel
theorem d49_39 : decode prog_1_method_6_code 39 = .ok (.iconst 0, 1) := by decide +kernel
theorem d49_40 : decode prog_1_method_6_code 40 = .ok (.bastore, 1) := by decide +kernel
theorem d49_41 : decode prog_1_method_6_code 41 = .ok (.iinc 1 1, 3) := by decide +kernel
theorem d49_44 : decode prog_1_method_6_code 44 = .ok (.goto (-15), 3) := by decide +kernel
theorem d49_47 : decode prog_1_method_6_code 47 = .ok (.return_, 1) := by decide +kernel
noncomputable def T_49 : Nat → Option xF := bn 24 (bn 12 (bn 5 (bn 1 (bl 0 (y_aload 0 1)) (bn 4 (bl 1 (y_getf 11 1 4)) (bl 4 (y_aload 0 5)))) (bn 8 (bl 5 (y_getf 11 0 8)) (bn 11 (bl 8 (y_invV 8 33 2 11)) (bl 11 (y_aload 0 12))))) (bn 19 (bn 15 (bl 12 (y_getf 11 8 15)) (bn 16 (bl 15 (x_const 2147483648 16)) (bl 16 (y_putf 0 2 0 19)))) (bn 20 (bl 19 (y_aload 0 20)) (bn 23 (bl 20 (y_getf 11 13 23)) (bl 23 (x_const 2147483648 24)))))) (bn 34 (bn 29 (bn 27 (bl 24 (y_putf 5 3 0 27)) (bn 28 (bl 27 (x_const 2147483648 28)) (bl 28 (y_istore 1 29)))) (bn 30 (bl 29 (y_iload 1 30)) (bn 31 (bl 30 (x_const 2147483651 31)) (bl 31 (y_icmp yc3 47 34))))) (bn 39 (bn 35 (bl 34 (y_aload 0 35)) (bn 38 (bl 35 (y_getf 11 12 38)) (bl 38 (y_iload 1 39)))) (bn 41 (bn 40 (bl 39 (x_const 2147483648 40)) (bl 40 (x_bast 41))) (bn 44 (bl 41 (y_iinc 1 2147483649 44)) (bl 44 (x_goto 29))))))
set_option maxRecDepth 100000 in
set_option maxHeartbeats 4000000 in
theorem T_49_ok (G : State → Nat → Nat → Prop) : xTree PX G prog_1_method_6_code "CapitalCase" false T_49 := (xT_n (xT_n (xT_n (xT_n (xT_l (yS (y_aload_eq _ _) (s_aload_n d49_0))) (xT_n (xT_l (yS (y_getf_eq _ _ _) (s_getf (T := TX11) (N := 16) d49_1 rfl inX11 (by decide) wd_558))) (xT_l (yS (y_aload_eq _ _) (s_aload_n d49_4))))) (xT_n (xT_l (yS (y_getf_eq _ _ _) (s_getf (T := TX11) (N := 16) d49_5 rfl inX11 (by decide) wd_556))) (xT_n (xT_l (yS (y_invV_eq _ _ _ _) (s_invV (T := TX8) d49_8 cal_33 rfl wd_836 wd_837 wd_838))) (xT_l (yS (y_aload_eq _ _) (s_aload_n d49_11)))))) (xT_n (xT_n (xT_l (yS (y_getf_eq _ _ _) (s_getf (T := TX11) (N := 16) d49_12 rfl inX11 (by decide) wd_560))) (xT_n (xT_l (s_iconst d49_15 (by decide +kernel))) (xT_l (yS (y_putf_eq _ _ _ _) (s_putf (T := TX0) (N := 3) (ty := tyX0) d49_16 rfl inX0 tyX0_ok nmX0 (by decide) wd_387 (Or.inl ⟨rfl, rfl⟩) rfl))))) (xT_n (xT_l (yS (y_aload_eq _ _) (s_aload_n d49_19))) (xT_n (xT_l (yS (y_getf_eq _ _ _) (s_getf (T := TX11) (N := 16) d49_20 rfl inX11 (by decide) wd_563))) (xT_l (s_iconst d49_23 (by decide +kernel))))))) (xT_n (xT_n (xT_n (xT_l (yS (y_putf_eq _ _ _ _) (s_putf (T := TX5) (N := 4) (ty := tyX5) d49_24 rfl inX5 tyX5_ok nmX5 (by decide) wd_405 (Or.inl ⟨rfl, rfl⟩) rfl))) (xT_n (xT_l (s_iconst d49_27 (by decide +kernel))) (xT_l (yS (y_istore_eq _ _) (s_istore_n d49_28))))) (xT_n (xT_l (yS (y_iload_eq _ _) (s_iload_n d49_29))) (xT_n (xT_l (s_iconst d49_30 (by decide +kernel))) (xT_l (yS (y_icmp_eq yc3_eq _ _) (s_icmpge d49_31 (by decide +kernel))))))) (xT_n (xT_n (xT_l (yS (y_aload_eq _ _) (s_aload_n d49_34))) (xT_n (xT_l (yS (y_getf_eq _ _ _) (s_getf (T := TX11) (N := 16) d49_35 rfl inX11 (by decide) wd_562))) (xT_l (yS (y_iload_eq _ _) (s_iload_n d49_38))))) (xT_n (xT_n (xT_l (s_iconst d49_39 (by decide +kernel))) (xT_l (s_bast d49_40))) (xT_n (xT_l (yS (y_iinc_eq _ _ _) (s_iinc d49_41 (by decide +kernel)))) (xT_l (s_goto d49_44 (by decide +kernel))))))))
set_option maxRecDepth 100000 in
set_option maxHeartbeats 4000000 in
theorem M_49 : xMeth PX 49 (T_49, 2, [(47, 3)]) := ⟨⟨"CapitalCase", "beginAnew", "()V"⟩, prog_1_method_6_code, none, rfl, by decide, fun G => T_49_ok G, xrt_ok (xR_c (Or.inr (Or.inr (Or.inl ⟨rfl, d49_47, rfl⟩))) (xR_n))⟩
theorem d50_0 : decode prog_1_method_25_code 0 = .ok (.iload_n 1, 1) := by decide +kernel
theorem d50_1 : decode prog_1_method_25_code 1 = .ok (.ifCond .lt 8, 3) := by decide +kernel
theorem d50_4 : decode prog_1_method_25_code 4 = .ok (.iload_n 1, 1) := by decide +kernel
theorem d50_5 : decode prog_1_method_25_code 5 = .ok (.iconst 1, 1) := by decide +kernel
theorem d50_6 : decode prog_1_method_25_code 6 = .ok (.if_icmp .le 5, 3) := by decide +kernel
theorem d50_9 : decode prog_1_method_25_code 9 = .ok (.iconst (-1), 1) := by decide +kernel
theorem d50_10 : decode prog_1_method_25_code 10 = .ok (.ireturn, 1) := by decide +kernel
theorem d50_11 : decode prog_1_method_25_code 11 = .ok (.aload_n 0, 1) := by decide +kernel
theorem d50_12 : decode prog_1_method_25_code 12 = .ok (.getfield 89, 3) := by decide +kernel
theorem d50_15 : decode prog_1_method_25_code 15 = .ok (.aload_n 0, 1) := by decide +kernel
theorem d50_16 : decode prog_1_method_25_code 16 = .ok (.getfield 39, 3) := by decide +kernel
theorem d50_19 : decode prog_1_method_25_code 19 = .ok (.invokevirtual 266, 3) := by decide +kernel
theorem d50_22 : decode prog_1_method_25_code 22 = .ok (.iload_n 1, 1) := by decide +kernel
theorem d50_23 : decode prog_1_method_25_code 23 = .ok (.ifCond .ne 13, 3) := by decide +kernel
theorem d50_26 : decode prog_1_method_25_code 26 = .ok (.aload_n 0, 1) := by decide +kernel
theorem d50_27 : decode prog_1_method_25_code 27 = .ok (.getfield 89, 3) := by decide +kernel
theorem d50_30 : decode prog_1_method_25_code 30 = .ok (.getfield 269, 3) := by decide +kernel
theorem d50_33 : decode prog_1_method_25_code 33 = .ok (.goto 10, 3) := by decide +kernel
theorem d50_36 : decode prog_1_method_25_code 36 = .ok (.aload_n 0, 1) := by decide +kernel
theorem d50_37 : decode prog_1_method_25_code 37 = .ok (.getfield 89, 3) := by decide +kernel
theorem d50_40 : decode prog_1_method_25_code 40 = .ok (.getfield 272, 3) := by decide +kernel
theorem d50_43 : decode prog_1_method_25_code 43 = .ok (.ireturn, 1) := by decide +kernel
noncomputable def T_50 : Nat → Option xF := bn 19 (bn 9 (bn 4 (bn 1 (bl 0 (y_iload 1 1)) (bl 1 (y_if yc2 9 4))) (bn 5 (bl 4 (y_iload 1 5)) (bn 6 (bl 5 (x_const 2147483649 6)) (bl 6 (y_icmp yc5 11 9))))) (bn 12 (bn 11 (bl 9 (x_const 2147483647 10)) (bl 11 (y_aload 0 12))) (bn 15 (bl 12 (y_getf 11 4 15)) (bn 16 (bl 15 (y_aload 0 16)) (bl 16 (y_getf 11 1 19)))))) (bn 30 (bn 23 (bn 22 (bl 19 (y_invV 3 11 2 22)) (bl 22 (y_iload 1 23))) (bn 26 (bl 23 (y_if yc1 36 26)) (bn 27 (bl 26 (y_aload 0 27)) (bl 27 (y_getf 11 4 30))))) (bn 36 (bn 33 (bl 30 (y_getf 3 6 33)) (bl 33 (x_goto 43))) (bn 37 (bl 36 (y_aload 0 37)) (bn 40 (bl 37 (y_getf 11 4 40)) (bl 40 (y_getf 3 7 43))))))
set_option maxRecDepth 100000 in
set_option maxHeartbeats 4000000 in
theorem T_50_ok (G : State → Nat → Nat → Prop) : xTree PX G prog_1_method_25_code "CapitalCase" false T_50 := (xT_n (xT_n (xT_n (xT_n (xT_l (yS (y_iload_eq _ _) (s_iload_n d50_0))) (xT_l (yS (y_if_eq yc2_eq _ _) (s_iflt d50_1 (by decide +kernel))))) (xT_n (xT_l (yS (y_iload_eq _ _) (s_iload_n d50_4))) (xT_n (xT_l (s_iconst d50_5 (by decide +kernel))) (xT_l (yS (y_icmp_eq yc5_eq _ _) (s_icmple d50_6 (by decide +kernel))))))) (xT_n (xT_n (xT_l (s_iconst d50_9 (by decide +kernel))) (xT_l (yS (y_aload_eq _ _) (s_aload_n d50_11)))) (xT_n (xT_l (yS (y_getf_eq _ _ _) (s_getf (T := TX11) (N := 16) d50_12 rfl inX11 (by decide) wd_566))) (xT_n (xT_l (yS (y_aload_eq _ _) (s_aload_n d50_15))) (xT_l (yS (y_getf_eq _ _ _) (s_getf (T := TX11) (N := 16) d50_16 rfl inX11 (by decide) wd_558))))))) (xT_n (xT_n (xT_n (xT_l (yS (y_invV_eq _ _ _ _) (s_invV (T := TX3) d50_19 cal_11 rfl wd_1060 wd_1061 wd_1062))) (xT_l (yS (y_iload_eq _ _) (s_iload_n d50_22)))) (xT_n (xT_l (yS (y_if_eq yc1_eq _ _) (s_ifne d50_23 (by decide +kernel)))) (xT_n (xT_l (yS (y_aload_eq _ _) (s_aload_n d50_26))) (xT_l (yS (y_getf_eq _ _ _) (s_getf (T := TX11) (N := 16) d50_27 rfl inX11 (by decide) wd_566)))))) (xT_n (xT_n (xT_l (yS (y_getf_eq _ _ _) (s_getf (T := TX3) (N := 12) d50_30 rfl inX3 (by decide) wd_463))) (xT_l (s_goto d50_33 (by decide +kernel)))) (xT_n (xT_l (yS (y_aload_eq _ _) (s_aload_n d50_36))) (xT_n (xT_l (yS (y_getf_eq _ _ _) (s_getf (T := TX11) (N := 16) d50_37 rfl inX11 (by decide) wd_566))) (xT_l (yS (y_getf_eq _ _ _) (s_getf (T := TX3) (N := 12) d50_40 rfl inX3 (by decide) wd_465))))))))
set_option maxRecDepth 100000 in
set_option maxHeartbeats 4000000 in
theorem M_50 : xMeth PX 50 (T_50, 2, [(10, 1), (43, 1)]) := ⟨⟨"CapitalCase", "best", "(I)I"⟩, prog_1_method_25_code, (some .int), rfl, by decide, fun G => T_50_ok G, xrt_ok (xR_c (Or.inl ⟨rfl, d50_10, rfl⟩) (xR_c (Or.inl ⟨rfl, d50_43, rfl⟩) (xR_n)))⟩
theorem d51_0 : decode prog_1_method_32_code 0 = .ok (.aload_n 0, 1) := by decide +kernel
theorem d51_1 : decode prog_1_method_32_code 1 = .ok (.iload_n 1, 1) := by decide +kernel
theorem d51_2 : decode prog_1_method_32_code 2 = .ok (.invokevirtual 175, 3) := by decide +kernel
theorem d51_5 : decode prog_1_method_32_code 5 = .ok (.ifCond .ne 5, 3) := by decide +kernel
theorem d51_8 : decode prog_1_method_32_code 8 = .ok (.iconst (-1), 1) := by decide +kernel
theorem d51_9 : decode prog_1_method_32_code 9 = .ok (.ireturn, 1) := by decide +kernel
noncomputable def T_51 : Nat → Option xF := bn 2 (bn 1 (bl 0 (y_aload 0 1)) (bl 1 (y_iload 1 2))) (bn 5 (bl 2 (y_invV 11 64 2 5)) (bn 8 (bl 5 (y_if yc1 10 8)) (bl 8 (x_const 2147483647 9))))
set_option maxRecDepth 100000 in
set_option maxHeartbeats 4000000 in
theorem T_51_ok (G : State → Nat → Nat → Prop) : xTree PX G prog_1_method_32_code "CapitalCase" false T_51 := (xT_n (xT_n (xT_l (yS (y_aload_eq _ _) (s_aload_n d51_0))) (xT_l (yS (y_iload_eq _ _) (s_iload_n d51_1)))) (xT_n (xT_l (yS (y_invV_eq _ _ _ _) (s_invV (T := TX11) d51_2 cal_64 rfl wd_894 wd_896 wd_23))) (xT_n (xT_l (yS (y_if_eq yc1_eq _ _) (s_ifne d51_5 (by decide +kernel)))) (xT_l (s_iconst d51_8 (by decide +kernel))))))
set_option maxRecDepth 100000 in
set_option maxHeartbeats 4000000 in
theorem M_51 : xMeth PX 51 (T_51, 2, [(9, 1)]) := ⟨⟨"CapitalCase", "clash", "(I)I"⟩, prog_1_method_32_code, (some .int), rfl, by decide, fun G => T_51_ok G, xrt_ok (xR_c (Or.inl ⟨rfl, d51_9, rfl⟩) (xR_n))⟩
theorem d52_0 : decode prog_1_method_19_code 0 = .ok (.aload_n 0, 1) := by decide +kernel
theorem d52_1 : decode prog_1_method_19_code 1 = .ok (.iload_n 1, 1) := by decide +kernel
theorem d52_2 : decode prog_1_method_19_code 2 = .ok (.invokevirtual 175, 3) := by decide +kernel
theorem d52_5 : decode prog_1_method_19_code 5 = .ok (.ifCond .eq 17, 3) := by decide +kernel
theorem d52_22 : decode prog_1_method_19_code 22 = .ok (.iconst 0, 1) := by decide +kernel
theorem d52_23 : decode prog_1_method_19_code 23 = .ok (.ireturn, 1) := by decide +kernel
noncomputable def T_52 : Nat → Option xF := bn 2 (bn 1 (bl 0 (y_aload 0 1)) (bl 1 (y_iload 1 2))) (bn 5 (bl 2 (y_invV 11 64 2 5)) (bn 22 (bl 5 (y_if yc0 22 8)) (bl 22 (x_const 2147483648 23))))
set_option maxRecDepth 100000 in
set_option maxHeartbeats 4000000 in
theorem T_52_ok (G : State → Nat → Nat → Prop) : xTree PX G prog_1_method_19_code "CapitalCase" false T_52 := (xT_n (xT_n (xT_l (yS (y_aload_eq _ _) (s_aload_n d52_0))) (xT_l (yS (y_iload_eq _ _) (s_iload_n d52_1)))) (xT_n (xT_l (yS (y_invV_eq _ _ _ _) (s_invV (T := TX11) d52_2 cal_64 rfl wd_894 wd_896 wd_23))) (xT_n (xT_l (yS (y_if_eq yc0_eq _ _) (s_ifeq d52_5 (by decide +kernel)))) (xT_l (s_iconst d52_22 (by decide +kernel))))))
set_option maxRecDepth 100000 in
set_option maxHeartbeats 4000000 in
theorem M_52 : xMeth PX 52 (T_52, 2, [(23, 2)]) := ⟨⟨"CapitalCase", "clear", "(I)Z"⟩, prog_1_method_19_code, (some .boolean), rfl, by decide, fun G => T_52_ok G, xrt_ok (xR_c (Or.inr (Or.inl ⟨rfl, d52_23, rfl⟩)) (xR_n))⟩
theorem d53_0 : decode prog_1_method_44_code 0 = .ok (.iload_n 1, 1) := by decide +kernel
theorem d53_1 : decode prog_1_method_44_code 1 = .ok (.tableswitch 229 0 15 #[79, 87, 95, 103, 111, 119, 127, 138, 149, 157, 162, 170, 178, 183, 213, 218], 79) := by decide +kernel
theorem d53_80 : decode prog_1_method_44_code 80 = .ok (.aload_n 0, 1) := by decide +kernel
theorem d53_81 : decode prog_1_method_44_code 81 = .ok (.getfield 23, 3) := by decide +kernel
theorem d53_84 : decode prog_1_method_44_code 84 = .ok (.getfield 134, 3) := by decide +kernel
theorem d53_87 : decode prog_1_method_44_code 87 = .ok (.ireturn, 1) := by decide +kernel
theorem d53_88 : decode prog_1_method_44_code 88 = .ok (.aload_n 0, 1) := by decide +kernel
theorem d53_89 : decode prog_1_method_44_code 89 = .ok (.getfield 23, 3) := by decide +kernel
theorem d53_92 : decode prog_1_method_44_code 92 = .ok (.getfield 141, 3) := by decide +kernel
theorem d53_95 : decode prog_1_method_44_code 95 = .ok (.ireturn, 1) := by decide +kernel
theorem d53_96 : decode prog_1_method_44_code 96 = .ok (.aload_n 0, 1) := by decide +kernel
theorem d53_97 : decode prog_1_method_44_code 97 = .ok (.getfield 39, 3) := by decide +kernel
theorem d53_100 : decode prog_1_method_44_code 100 = .ok (.getfield 190, 3) := by decide +kernel
theorem d53_103 : decode prog_1_method_44_code 103 = .ok (.ireturn, 1) := by decide +kernel
theorem d53_104 : decode prog_1_method_44_code 104 = .ok (.aload_n 0, 1) := by decide +kernel
theorem d53_105 : decode prog_1_method_44_code 105 = .ok (.getfield 39, 3) := by decide +kernel
theorem d53_108 : decode prog_1_method_44_code 108 = .ok (.getfield 304, 3) := by decide +kernel
theorem d53_111 : decode prog_1_method_44_code 111 = .ok (.ireturn, 1) := by decide +kernel
theorem d53_112 : decode prog_1_method_44_code 112 = .ok (.aload_n 0, 1) := by decide +kernel
theorem d53_113 : decode prog_1_method_44_code 113 = .ok (.getfield 39, 3) := by decide +kernel
theorem d53_116 : decode prog_1_method_44_code 116 = .ok (.getfield 196, 3) := by decide +kernel
theorem d53_119 : decode prog_1_method_44_code 119 = .ok (.ireturn, 1) := by decide +kernel
theorem d53_120 : decode prog_1_method_44_code 120 = .ok (.aload_n 0, 1) := by decide +kernel
theorem d53_121 : decode prog_1_method_44_code 121 = .ok (.getfield 39, 3) := by decide +kernel
theorem d53_124 : decode prog_1_method_44_code 124 = .ok (.getfield 199, 3) := by decide +kernel
theorem d53_127 : decode prog_1_method_44_code 127 = .ok (.ireturn, 1) := by decide +kernel
theorem d53_128 : decode prog_1_method_44_code 128 = .ok (.aload_n 0, 1) := by decide +kernel
theorem d53_129 : decode prog_1_method_44_code 129 = .ok (.getfield 39, 3) := by decide +kernel
theorem d53_132 : decode prog_1_method_44_code 132 = .ok (.getfield 151, 3) := by decide +kernel
theorem d53_135 : decode prog_1_method_44_code 135 = .ok (.invokestatic 322, 3) := by decide +kernel
theorem d53_138 : decode prog_1_method_44_code 138 = .ok (.ireturn, 1) := by decide +kernel
theorem d53_139 : decode prog_1_method_44_code 139 = .ok (.aload_n 0, 1) := by decide +kernel
theorem d53_140 : decode prog_1_method_44_code 140 = .ok (.getfield 39, 3) := by decide +kernel
theorem d53_143 : decode prog_1_method_44_code 143 = .ok (.getfield 155, 3) := by decide +kernel
theorem d53_146 : decode prog_1_method_44_code 146 = .ok (.invokestatic 322, 3) := by decide +kernel
theorem d53_149 : decode prog_1_method_44_code 149 = .ok (.ireturn, 1) := by decide +kernel
theorem d53_150 : decode prog_1_method_44_code 150 = .ok (.aload_n 0, 1) := by decide +kernel
theorem d53_151 : decode prog_1_method_44_code 151 = .ok (.getfield 39, 3) := by decide +kernel
theorem d53_154 : decode prog_1_method_44_code 154 = .ok (.getfield 326, 3) := by decide +kernel
theorem d53_157 : decode prog_1_method_44_code 157 = .ok (.ireturn, 1) := by decide +kernel
theorem d53_158 : decode prog_1_method_44_code 158 = .ok (.aload_n 0, 1) := by decide +kernel
theorem d53_159 : decode prog_1_method_44_code 159 = .ok (.getfield 13, 3) := by decide +kernel
theorem d53_162 : decode prog_1_method_44_code 162 = .ok (.ireturn, 1) := by decide +kernel
theorem d53_163 : decode prog_1_method_44_code 163 = .ok (.aload_n 0, 1) := by decide +kernel
theorem d53_164 : decode prog_1_method_44_code 164 = .ok (.getfield 49, 3) := by decide +kernel
theorem d53_167 : decode prog_1_method_44_code 167 = .ok (.getfield 130, 3) := by decide +kernel
theorem d53_170 : decode prog_1_method_44_code 170 = .ok (.ireturn, 1) := by decide +kernel
theorem d53_171 : decode prog_1_method_44_code 171 = .ok (.aload_n 0, 1) := by decide +kernel
theorem d53_172 : decode prog_1_method_44_code 172 = .ok (.getfield 64, 3) := by decide +kernel
theorem d53_175 : decode prog_1_method_44_code 175 = .ok (.getfield 133, 3) := by decide +kernel
theorem d53_178 : decode prog_1_method_44_code 178 = .ok (.ireturn, 1) := by decide +kernel
theorem d53_179 : decode prog_1_method_44_code 179 = .ok (.aload_n 0, 1) := by decide +kernel
theorem d53_180 : decode prog_1_method_44_code 180 = .ok (.invokevirtual 329, 3) := by decide +kernel
theorem d53_183 : decode prog_1_method_44_code 183 = .ok (.ireturn, 1) := by decide +kernel
theorem d53_184 : decode prog_1_method_44_code 184 = .ok (.aload_n 0, 1) := by decide +kernel
theorem d53_185 : decode prog_1_method_44_code 185 = .ok (.getfield 82, 3) := by decide +kernel
theorem d53_188 : decode prog_1_method_44_code 188 = .ok (.aload_n 0, 1) := by decide +kernel
theorem d53_189 : decode prog_1_method_44_code 189 = .ok (.getfield 23, 3) := by decide +kernel
theorem d53_192 : decode prog_1_method_44_code 192 = .ok (.getfield 249, 3) := by decide +kernel
theorem d53_195 : decode prog_1_method_44_code 195 = .ok (.aload_n 0, 1) := by decide +kernel
theorem d53_196 : decode prog_1_method_44_code 196 = .ok (.getfield 39, 3) := by decide +kernel
theorem d53_199 : decode prog_1_method_44_code 199 = .ok (.getfield 190, 3) := by decide +kernel
theorem d53_202 : decode prog_1_method_44_code 202 = .ok (.invokevirtual 333, 3) := by decide +kernel
theorem d53_205 : decode prog_1_method_44_code 205 = .ok (.ifCond .eq 7, 3) := by decide +kernel
theorem d53_212 : decode prog_1_method_44_code 212 = .ok (.iconst 0, 1) := by decide +kernel
theorem d53_213 : decode prog_1_method_44_code 213 = .ok (.ireturn, 1) := by decide +kernel
theorem d53_214 : decode prog_1_method_44_code 214 = .ok (.aload_n 0, 1) := by decide +kernel
theorem d53_215 : decode prog_1_method_44_code 215 = .ok (.invokevirtual 336, 3) := by decide +kernel
theorem d53_218 : decode prog_1_method_44_code 218 = .ok (.ireturn, 1) := by decide +kernel
theorem d53_219 : decode prog_1_method_44_code 219 = .ok (.aload_n 0, 1) := by decide +kernel
theorem d53_220 : decode prog_1_method_44_code 220 = .ok (.getfield 39, 3) := by decide +kernel
theorem d53_223 : decode prog_1_method_44_code 223 = .ok (.getfield 246, 3) := by decide +kernel
theorem d53_226 : decode prog_1_method_44_code 226 = .ok (.invokestatic 322, 3) := by decide +kernel
theorem d53_229 : decode prog_1_method_44_code 229 = .ok (.ireturn, 1) := by decide +kernel
theorem d53_230 : decode prog_1_method_44_code 230 = .ok (.iconst (-1), 1) := by decide +kernel
theorem d53_231 : decode prog_1_method_44_code 231 = .ok (.ireturn, 1) := by decide +kernel
noncomputable def T_53 : Nat → Option xF := bn 151 (bn 112 (bn 92 (bn 81 (bn 1 (bl 0 (y_iload 1 1)) (bn 80 (bl 1 (x_tsw 2147483648 [80, 88, 96, 104, 112, 120, 128, 139, 150, 158, 163, 171, 179, 184, 214, 219] 230)) (bl 80 (y_aload 0 81)))) (bn 88 (bn 84 (bl 81 (y_getf 11 0 84)) (bl 84 (y_getf 6 0 87))) (bn 89 (bl 88 (y_aload 0 89)) (bl 89 (y_getf 11 0 92))))) (bn 100 (bn 96 (bl 92 (y_getf 6 1 95)) (bn 97 (bl 96 (y_aload 0 97)) (bl 97 (y_getf 11 1 100)))) (bn 105 (bn 104 (bl 100 (y_getf 8 7 103)) (bl 104 (y_aload 0 105))) (bn 108 (bl 105 (y_getf 11 1 108)) (bl 108 (y_getf 8 8 111)))))) (bn 129 (bn 120 (bn 113 (bl 112 (y_aload 0 113)) (bn 116 (bl 113 (y_getf 11 1 116)) (bl 116 (y_getf 8 5 119)))) (bn 124 (bn 121 (bl 120 (y_aload 0 121)) (bl 121 (y_getf 11 1 124))) (bn 128 (bl 124 (y_getf 8 6 127)) (bl 128 (y_aload 0 129))))) (bn 140 (bn 135 (bn 132 (bl 129 (y_getf 11 1 132)) (bl 132 (y_getf 8 0 135))) (bn 139 (bl 135 (y_inv 76 1 138)) (bl 139 (y_aload 0 140)))) (bn 146 (bn 143 (bl 140 (y_getf 11 1 143)) (bl 143 (y_getf 8 1 146))) (bn 150 (bl 146 (y_inv 76 1 149)) (bl 150 (y_aload 0 151))))))) (bn 189 (bn 171 (bn 159 (bn 154 (bl 151 (y_getf 11 1 154)) (bn 158 (bl 154 (y_getf 8 9 157)) (bl 158 (y_aload 0 159)))) (bn 164 (bn 163 (bl 159 (y_getf 11 6 162)) (bl 163 (y_aload 0 164))) (bn 167 (bl 164 (y_getf 11 8 167)) (bl 167 (y_getf 0 2 170))))) (bn 180 (bn 175 (bn 172 (bl 171 (y_aload 0 172)) (bl 172 (y_getf 11 13 175))) (bn 179 (bl 175 (y_getf 5 3 178)) (bl 179 (y_aload 0 180)))) (bn 185 (bn 184 (bl 180 (y_invV 11 59 1 183)) (bl 184 (y_aload 0 185))) (bn 188 (bl 185 (y_getf 11 3 188)) (bl 188 (y_aload 0 189)))))) (bn 212 (bn 196 (bn 192 (bl 189 (y_getf 11 0 192)) (bn 195 (bl 192 (y_getf 6 3 195)) (bl 195 (y_aload 0 196)))) (bn 202 (bn 199 (bl 196 (y_getf 11 1 199)) (bl 199 (y_getf 8 7 202))) (bn 205 (bl 202 (y_invV 4 18 3 205)) (bl 205 (y_if yc0 212 208))))) (bn 220 (bn 215 (bn 214 (bl 212 (x_const 2147483648 213)) (bl 214 (y_aload 0 215))) (bn 219 (bl 215 (y_invV 11 74 1 218)) (bl 219 (y_aload 0 220)))) (bn 226 (bn 223 (bl 220 (y_getf 11 1 223)) (bl 223 (y_getf 8 3 226))) (bn 230 (bl 226 (y_inv 76 1 229)) (bl 230 (x_const 2147483647 231)))))))
set_option maxRecDepth 100000 in
set_option maxHeartbeats 4000000 in
theorem T_53_ok (G : State → Nat → Nat → Prop) : xTree PX G prog_1_method_44_code "CapitalCase" false T_53 := (xT_n (xT_n (xT_n (xT_n (xT_n (xT_l (yS (y_iload_eq _ _) (s_iload_n d53_0))) (xT_n (xT_l (s_tsw d53_1 (by decide +kernel) (by decide +kernel) (by decide +kernel) (xTsw (by decide +kernel) (by decide +kernel)))) (xT_l (yS (y_aload_eq _ _) (s_aload_n d53_80))))) (xT_n (xT_n (xT_l (yS (y_getf_eq _ _ _) (s_getf (T := TX11) (N := 16) d53_81 rfl inX11 (by decide) wd_556))) (xT_l (yS (y_getf_eq _ _ _) (s_getf (T := TX6) (N := 15) d53_84 rfl inX6 (by decide) wd_167)))) (xT_n (xT_l (yS (y_aload_eq _ _) (s_aload_n d53_88))) (xT_l (yS (y_getf_eq _ _ _) (s_getf (T := TX11) (N := 16) d53_89 rfl inX11 (by decide) wd_556)))))) (xT_n (xT_n (xT_l (yS (y_getf_eq _ _ _) (s_getf (T := TX6) (N := 15) d53_92 rfl inX6 (by decide) wd_174))) (xT_n (xT_l (yS (y_aload_eq _ _) (s_aload_n d53_96))) (xT_l (yS (y_getf_eq _ _ _) (s_getf (T := TX11) (N := 16) d53_97 rfl inX11 (by decide) wd_558))))) (xT_n (xT_n (xT_l (yS (y_getf_eq _ _ _) (s_getf (T := TX8) (N := 10) d53_100 rfl inX8 (by decide) wd_349))) (xT_l (yS (y_aload_eq _ _) (s_aload_n d53_104)))) (xT_n (xT_l (yS (y_getf_eq _ _ _) (s_getf (T := TX11) (N := 16) d53_105 rfl inX11 (by decide) wd_558))) (xT_l (yS (y_getf_eq _ _ _) (s_getf (T := TX8) (N := 10) d53_108 rfl inX8 (by decide) wd_352))))))) (xT_n (xT_n (xT_n (xT_l (yS (y_aload_eq _ _) (s_aload_n d53_112))) (xT_n (xT_l (yS (y_getf_eq _ _ _) (s_getf (T := TX11) (N := 16) d53_113 rfl inX11 (by decide) wd_558))) (xT_l (yS (y_getf_eq _ _ _) (s_getf (T := TX8) (N := 10) d53_116 rfl inX8 (by decide) wd_340))))) (xT_n (xT_n (xT_l (yS (y_aload_eq _ _) (s_aload_n d53_120))) (xT_l (yS (y_getf_eq _ _ _) (s_getf (T := TX11) (N := 16) d53_121 rfl inX11 (by decide) wd_558)))) (xT_n (xT_l (yS (y_getf_eq _ _ _) (s_getf (T := TX8) (N := 10) d53_124 rfl inX8 (by decide) wd_343))) (xT_l (yS (y_aload_eq _ _) (s_aload_n d53_128)))))) (xT_n (xT_n (xT_n (xT_l (yS (y_getf_eq _ _ _) (s_getf (T := TX11) (N := 16) d53_129 rfl inX11 (by decide) wd_558))) (xT_l (yS (y_getf_eq _ _ _) (s_getf (T := TX8) (N := 10) d53_132 rfl inX8 (by decide) wd_324)))) (xT_n (xT_l (yS (y_inv_eq _ _ _) (s_invS d53_135 cal_76 wd_1245 wd_1246))) (xT_l (yS (y_aload_eq _ _) (s_aload_n d53_139))))) (xT_n (xT_n (xT_l (yS (y_getf_eq _ _ _) (s_getf (T := TX11) (N := 16) d53_140 rfl inX11 (by decide) wd_558))) (xT_l (yS (y_getf_eq _ _ _) (s_getf (T := TX8) (N := 10) d53_143 rfl inX8 (by decide) wd_328)))) (xT_n (xT_l (yS (y_inv_eq _ _ _) (s_invS d53_146 cal_76 wd_1245 wd_1246))) (xT_l (yS (y_aload_eq _ _) (s_aload_n d53_150)))))))) (xT_n (xT_n (xT_n (xT_n (xT_l (yS (y_getf_eq _ _ _) (s_getf (T := TX11) (N := 16) d53_151 rfl inX11 (by decide) wd_558))) (xT_n (xT_l (yS (y_getf_eq _ _ _) (s_getf (T := TX8) (N := 10) d53_154 rfl inX8 (by decide) wd_354))) (xT_l (yS (y_aload_eq _ _) (s_aload_n d53_158))))) (xT_n (xT_n (xT_l (yS (y_getf_eq _ _ _) (s_getf (T := TX11) (N := 16) d53_159 rfl inX11 (by decide) wd_554))) (xT_l (yS (y_aload_eq _ _) (s_aload_n d53_163)))) (xT_n (xT_l (yS (y_getf_eq _ _ _) (s_getf (T := TX11) (N := 16) d53_164 rfl inX11 (by decide) wd_560))) (xT_l (yS (y_getf_eq _ _ _) (s_getf (T := TX0) (N := 3) d53_167 rfl inX0 (by decide) wd_387)))))) (xT_n (xT_n (xT_n (xT_l (yS (y_aload_eq _ _) (s_aload_n d53_171))) (xT_l (yS (y_getf_eq _ _ _) (s_getf (T := TX11) (N := 16) d53_172 rfl inX11 (by decide) wd_563)))) (xT_n (xT_l (yS (y_getf_eq _ _ _) (s_getf (T := TX5) (N := 4) d53_175 rfl inX5 (by decide) wd_405))) (xT_l (yS (y_aload_eq _ _) (s_aload_n d53_179))))) (xT_n (xT_n (xT_l (yS (y_invV_eq _ _ _ _) (s_invV (T := TX11) d53_180 cal_59 rfl wd_1248 wd_1250 wd_42))) (xT_l (yS (y_aload_eq _ _) (s_aload_n d53_184)))) (xT_n (xT_l (yS (y_getf_eq _ _ _) (s_getf (T := TX11) (N := 16) d53_185 rfl inX11 (by decide) wd_565))) (xT_l (yS (y_aload_eq _ _) (s_aload_n d53_188))))))) (xT_n (xT_n (xT_n (xT_l (yS (y_getf_eq _ _ _) (s_getf (T := TX11) (N := 16) d53_189 rfl inX11 (by decide) wd_556))) (xT_n (xT_l (yS (y_getf_eq _ _ _) (s_getf (T := TX6) (N := 15) d53_192 rfl inX6 (by decide) wd_183))) (xT_l (yS (y_aload_eq _ _) (s_aload_n d53_195))))) (xT_n (xT_n (xT_l (yS (y_getf_eq _ _ _) (s_getf (T := TX11) (N := 16) d53_196 rfl inX11 (by decide) wd_558))) (xT_l (yS (y_getf_eq _ _ _) (s_getf (T := TX8) (N := 10) d53_199 rfl inX8 (by decide) wd_349)))) (xT_n (xT_l (yS (y_invV_eq _ _ _ _) (s_invV (T := TX4) d53_202 cal_18 rfl wd_1252 wd_1033 wd_1034))) (xT_l (yS (y_if_eq yc0_eq _ _) (s_ifeq d53_205 (by decide +kernel))))))) (xT_n (xT_n (xT_n (xT_l (s_iconst d53_212 (by decide +kernel))) (xT_l (yS (y_aload_eq _ _) (s_aload_n d53_214)))) (xT_n (xT_l (yS (y_invV_eq _ _ _ _) (s_invV (T := TX11) d53_215 cal_74 rfl wd_1253 wd_1255 wd_43))) (xT_l (yS (y_aload_eq _ _) (s_aload_n d53_219))))) (xT_n (xT_n (xT_l (yS (y_getf_eq _ _ _) (s_getf (T := TX11) (N := 16) d53_220 rfl inX11 (by decide) wd_558))) (xT_l (yS (y_getf_eq _ _ _) (s_getf (T := TX8) (N := 10) d53_223 rfl inX8 (by decide) wd_335)))) (xT_n (xT_l (yS (y_inv_eq _ _ _) (s_invS d53_226 cal_76 wd_1245 wd_1246))) (xT_l (s_iconst d53_230 (by decide +kernel)))))))))
set_option maxRecDepth 100000 in
set_option maxHeartbeats 4000000 in
theorem M_53 : xMeth PX 53 (T_53, 2, [(87, 1), (95, 1), (103, 1), (111, 1), (119, 1), (127, 1), (138, 1), (149, 1), (157, 1), (162, 1), (170, 1), (178, 1), (183, 1), (213, 1), (218, 1), (229, 1), (231, 1)]) := ⟨⟨"CapitalCase", "count", "(I)I"⟩, prog_1_method_44_code, (some .int), rfl, by decide, fun G => T_53_ok G, xrt_ok (xR_c (Or.inl ⟨rfl, d53_87, rfl⟩) (xR_c (Or.inl ⟨rfl, d53_95, rfl⟩) (xR_c (Or.inl ⟨rfl, d53_103, rfl⟩) (xR_c (Or.inl ⟨rfl, d53_111, rfl⟩) (xR_c (Or.inl ⟨rfl, d53_119, rfl⟩) (xR_c (Or.inl ⟨rfl, d53_127, rfl⟩) (xR_c (Or.inl ⟨rfl, d53_138, rfl⟩) (xR_c (Or.inl ⟨rfl, d53_149, rfl⟩) (xR_c (Or.inl ⟨rfl, d53_157, rfl⟩) (xR_c (Or.inl ⟨rfl, d53_162, rfl⟩) (xR_c (Or.inl ⟨rfl, d53_170, rfl⟩) (xR_c (Or.inl ⟨rfl, d53_178, rfl⟩) (xR_c (Or.inl ⟨rfl, d53_183, rfl⟩) (xR_c (Or.inl ⟨rfl, d53_213, rfl⟩) (xR_c (Or.inl ⟨rfl, d53_218, rfl⟩) (xR_c (Or.inl ⟨rfl, d53_229, rfl⟩) (xR_c (Or.inl ⟨rfl, d53_231, rfl⟩) (xR_n))))))))))))))))))⟩
