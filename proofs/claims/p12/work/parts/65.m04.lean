theorem em68_0 : decode prog_12_method_4_code 0 = .ok (.iconst 0, 1) := by decide +kernel
theorem em68_1 : decode prog_12_method_4_code 1 = .ok (.istore_n 2, 1) := by decide +kernel
theorem em68_2 : decode prog_12_method_4_code 2 = .ok (.iload_n 2, 1) := by decide +kernel
theorem em68_3 : decode prog_12_method_4_code 3 = .ok (.aload_n 0, 1) := by decide +kernel
theorem em68_4 : decode prog_12_method_4_code 4 = .ok (.getfield 22, 3) := by decide +kernel
theorem em68_7 : decode prog_12_method_4_code 7 = .ok (.getfield 46, 3) := by decide +kernel
theorem em68_10 : decode prog_12_method_4_code 10 = .ok (.if_icmp .ge 42, 3) := by decide +kernel
theorem em68_13 : decode prog_12_method_4_code 13 = .ok (.iload_n 1, 1) := by decide +kernel
theorem em68_14 : decode prog_12_method_4_code 14 = .ok (.iload_n 2, 1) := by decide +kernel
theorem em68_15 : decode prog_12_method_4_code 15 = .ok (.ishr, 1) := by decide +kernel
theorem em68_16 : decode prog_12_method_4_code 16 = .ok (.iconst 1, 1) := by decide +kernel
theorem em68_17 : decode prog_12_method_4_code 17 = .ok (.iand, 1) := by decide +kernel
theorem em68_18 : decode prog_12_method_4_code 18 = .ok (.iconst 1, 1) := by decide +kernel
theorem em68_19 : decode prog_12_method_4_code 19 = .ok (.if_icmp .ne 27, 3) := by decide +kernel
theorem em68_22 : decode prog_12_method_4_code 22 = .ok (.aload_n 0, 1) := by decide +kernel
theorem em68_23 : decode prog_12_method_4_code 23 = .ok (.getfield 34, 3) := by decide +kernel
theorem em68_26 : decode prog_12_method_4_code 26 = .ok (.iload_n 2, 1) := by decide +kernel
theorem em68_27 : decode prog_12_method_4_code 27 = .ok (.invokevirtual 103, 3) := by decide +kernel
theorem em68_30 : decode prog_12_method_4_code 30 = .ok (.ifCond .ne 16, 3) := by decide +kernel
theorem em68_33 : decode prog_12_method_4_code 33 = .ok (.aload_n 0, 1) := by decide +kernel
theorem em68_34 : decode prog_12_method_4_code 34 = .ok (.iload_n 1, 1) := by decide +kernel
theorem em68_35 : decode prog_12_method_4_code 35 = .ok (.iconst 1, 1) := by decide +kernel
theorem em68_36 : decode prog_12_method_4_code 36 = .ok (.iload_n 2, 1) := by decide +kernel
theorem em68_37 : decode prog_12_method_4_code 37 = .ok (.ishl, 1) := by decide +kernel
theorem em68_38 : decode prog_12_method_4_code 38 = .ok (.iconst 1, 1) := by decide +kernel
theorem em68_39 : decode prog_12_method_4_code 39 = .ok (.isub, 1) := by decide +kernel
theorem em68_40 : decode prog_12_method_4_code 40 = .ok (.iand, 1) := by decide +kernel
theorem em68_41 : decode prog_12_method_4_code 41 = .ok (.invokevirtual 94, 3) := by decide +kernel
theorem em68_44 : decode prog_12_method_4_code 44 = .ok (.iconst 0, 1) := by decide +kernel
theorem em68_45 : decode prog_12_method_4_code 45 = .ok (.ireturn, 1) := by decide +kernel
theorem em68_46 : decode prog_12_method_4_code 46 = .ok (.iinc 2 1, 3) := by decide +kernel
theorem em68_49 : decode prog_12_method_4_code 49 = .ok (.goto (-47), 3) := by decide +kernel
theorem em68_52 : decode prog_12_method_4_code 52 = .ok (.iconst 1, 1) := by decide +kernel
theorem em68_53 : decode prog_12_method_4_code 53 = .ok (.ireturn, 1) := by decide +kernel
/-! CapitalCase$TwoDays.takeAll:(I)Z -/
noncomputable def zTr_72 : Nat → Option aF := bn 26 (bn 14 (bn 4 (bn 2 (bn 1 (bl 0 (a_const 0 1)) (bl 1 (a_istore 2 2))) (bn 3 (bl 2 (a_iload 2 3)) (bl 3 (a_aload 0 4)))) (bn 10 (bn 7 (bl 4 (a_getf zG0 zT0 10 0 7)) (bl 7 (a_getf zG0 zT0 6 1 10))) (bn 13 (bl 10 (a_icmp 3 52 13)) (bl 13 (a_iload 1 14))))) (bn 18 (bn 16 (bn 15 (bl 14 (a_iload 2 15)) (bl 15 (a_bin fany 16))) (bn 17 (bl 16 (a_const 1 17)) (bl 17 (a_bin fand 18)))) (bn 22 (bn 19 (bl 18 (a_const 1 19)) (bl 19 (a_icmp 1 46 22))) (bn 23 (bl 22 (a_aload 0 23)) (bl 23 (a_getf zG0 zT0 10 3 26)))))) (bn 38 (bn 34 (bn 30 (bn 27 (bl 26 (a_iload 2 27)) (bl 27 (a_invV zG0 zprot (true, false) zc_30 (zbd 30) (2, 0, 0) 3 2 30))) (bn 33 (bl 30 (a_if 1 46 33)) (bl 33 (a_aload 0 34)))) (bn 36 (bn 35 (bl 34 (a_iload 1 35)) (bl 35 (a_const 1 36))) (bn 37 (bl 36 (a_iload 2 37)) (bl 37 (a_bin fshl 38))))) (bn 44 (bn 40 (bn 39 (bl 38 (a_const 1 39)) (bl 39 (a_bin fsub 40))) (bn 41 (bl 40 (a_bin fand 41)) (bl 41 (a_invV zG0 zprot (true, false) zc_69 (zbd 69) (2, 0, 0) 10 2 44)))) (bn 49 (bn 46 (bl 44 (a_const 0 45)) (bl 46 (a_iinc 2 1 49))) (bn 52 (bl 49 (a_goto 2)) (bl 52 (a_const 1 53))))))
set_option maxRecDepth 100000 in
set_option maxHeartbeats 4000000 in
theorem zTo_72 {pre : zPre} {post : zPost} (H : zTieC pre post) {d : Nat × Nat × Nat} (hd : zLe (2, 0, 0) d) : aTr zG0 zT0 zInv (true, false) PZ zbd pre post d prog_12_method_4_code "CapitalCase$TwoDays" zTr_72 := (xB_n (xB_n (xB_n (xB_n (xB_n (xB_l ⟨_, zs_iconst (v := 0) em68_0 (by decide +kernel), as_const (by decide +kernel)⟩) (xB_l ⟨_, zs_istore_n em68_1, as_istore⟩)) (xB_n (xB_l ⟨_, zs_iload_n em68_2, as_iload⟩) (xB_l ⟨_, zs_aload_n em68_3, as_aload⟩))) (xB_n (xB_n (xB_l ⟨_, zs_getf (T := TX10) (M := 9) (ci := 10) (j := 0) em68_4 rfl inX10 (by decide) wd_505 ((congrFun xo_11 22).trans rfl), as_getf zTie⟩) (xB_l ⟨_, zs_getf (T := TX6) (M := 15) (ci := 6) (j := 1) em68_7 rfl inX6 (by decide) wd_168 ((congrFun xo_11 46).trans rfl), as_getf zTie⟩)) (xB_n (xB_l ⟨_, zs_icmpge em68_10 (t := 52) (by decide), as_icmp⟩) (xB_l ⟨_, zs_iload_n em68_13, as_iload⟩)))) (xB_n (xB_n (xB_n (xB_l ⟨_, zs_iload_n em68_14, as_iload⟩) (xB_l ⟨_, zs_ishr em68_15, as_bin fany_ok⟩)) (xB_n (xB_l ⟨_, zs_iconst (v := 1) em68_16 (by decide +kernel), as_const (by decide +kernel)⟩) (xB_l ⟨_, zs_iand em68_17, as_bin fand_ok⟩))) (xB_n (xB_n (xB_l ⟨_, zs_iconst (v := 1) em68_18 (by decide +kernel), as_const (by decide +kernel)⟩) (xB_l ⟨_, zs_icmpne em68_19 (t := 46) (by decide), as_icmp⟩)) (xB_n (xB_l ⟨_, zs_aload_n em68_22, as_aload⟩) (xB_l ⟨_, zs_getf (T := TX10) (M := 9) (ci := 10) (j := 3) em68_23 rfl inX10 (by decide) wd_508 ((congrFun xo_11 34).trans rfl), as_getf zTie⟩))))) (xB_n (xB_n (xB_n (xB_n (xB_l ⟨_, zs_iload_n em68_26, as_iload⟩) (xB_l ⟨_, zs_invV (T := TX3) em68_27 zl_30 rfl wd_1111 wd_956 wd_957 ((congrFun xo_11 103).trans rfl) xm_30, ag_invV H zh_30 hd (by decide)⟩)) (xB_n (xB_l ⟨_, zs_ifne em68_30 (t := 46) (by decide), as_if⟩) (xB_l ⟨_, zs_aload_n em68_33, as_aload⟩))) (xB_n (xB_n (xB_l ⟨_, zs_iload_n em68_34, as_iload⟩) (xB_l ⟨_, zs_iconst (v := 1) em68_35 (by decide +kernel), as_const (by decide +kernel)⟩)) (xB_n (xB_l ⟨_, zs_iload_n em68_36, as_iload⟩) (xB_l ⟨_, zs_ishl em68_37, as_bin fshl_ok⟩)))) (xB_n (xB_n (xB_n (xB_l ⟨_, zs_iconst (v := 1) em68_38 (by decide +kernel), as_const (by decide +kernel)⟩) (xB_l ⟨_, zs_isub em68_39, as_bin fsub_ok⟩)) (xB_n (xB_l ⟨_, zs_iand em68_40, as_bin fand_ok⟩) (xB_l ⟨_, zs_invV (T := TX10) em68_41 zl_69 rfl wd_1112 wd_1114 wd_36 ((congrFun xo_11 94).trans rfl) xm_65, ag_invV H zh_69 hd (by decide)⟩))) (xB_n (xB_n (xB_l ⟨_, zs_iconst (v := 0) em68_44 (by decide +kernel), as_const (by decide +kernel)⟩) (xB_l ⟨_, zs_iinc (k := 1) em68_46 (by decide +kernel), as_iinc (by decide +kernel)⟩)) (xB_n (xB_l ⟨_, zs_goto em68_49 (t := 2) (by decide), as_goto⟩) (xB_l ⟨_, zs_iconst (v := 1) em68_52 (by decide +kernel), as_const (by decide +kernel)⟩))))))
set_option maxRecDepth 100000 in
set_option maxHeartbeats 4000000 in
theorem zM_72 : zOKa 72 zc_72 := z_auto (cuts := [(2, ([(0, 0), (0, 127), (0, 7), (0, 7)], [], [some (.inr (.inl (0, 59))), some (.inl (1, 0)), some (.inl (3, 0))], [], [(6, 2, 0)], (0, 0)), [(0, 2)], 7, [0, 0, 0, (-1)])]) (rets := [(45, 2), (53, 2)]) (fuel := 1000) rfl rfl (by decide) (xrt_ok (xR_c (Or.inr (Or.inl ⟨rfl, em68_45, rfl⟩)) (xR_c (Or.inr (Or.inl ⟨rfl, em68_53, rfl⟩)) (xR_n)))) (fun _ _ H _ hd => zTo_72 H hd) (by decide +kernel)
theorem em69_0 : decode prog_12_method_3_code 0 = .ok (.iconst 0, 1) := by decide +kernel
theorem em69_1 : decode prog_12_method_3_code 1 = .ok (.istore_n 3, 1) := by decide +kernel
theorem em69_2 : decode prog_12_method_3_code 2 = .ok (.iconst 0, 1) := by decide +kernel
theorem em69_3 : decode prog_12_method_3_code 3 = .ok (.istore 4, 2) := by decide +kernel
theorem em69_5 : decode prog_12_method_3_code 5 = .ok (.iload 4, 2) := by decide +kernel
theorem em69_7 : decode prog_12_method_3_code 7 = .ok (.aload_n 0, 1) := by decide +kernel
theorem em69_8 : decode prog_12_method_3_code 8 = .ok (.getfield 22, 3) := by decide +kernel
theorem em69_11 : decode prog_12_method_3_code 11 = .ok (.getfield 46, 3) := by decide +kernel
theorem em69_14 : decode prog_12_method_3_code 14 = .ok (.if_icmp .ge 30, 3) := by decide +kernel
theorem em69_17 : decode prog_12_method_3_code 17 = .ok (.iload_n 3, 1) := by decide +kernel
theorem em69_18 : decode prog_12_method_3_code 18 = .ok (.iload_n 2, 1) := by decide +kernel
theorem em69_19 : decode prog_12_method_3_code 19 = .ok (.iload 4, 2) := by decide +kernel
theorem em69_21 : decode prog_12_method_3_code 21 = .ok (.ishr, 1) := by decide +kernel
theorem em69_22 : decode prog_12_method_3_code 22 = .ok (.iconst 1, 1) := by decide +kernel
theorem em69_23 : decode prog_12_method_3_code 23 = .ok (.iand, 1) := by decide +kernel
theorem em69_24 : decode prog_12_method_3_code 24 = .ok (.iconst 1, 1) := by decide +kernel
theorem em69_25 : decode prog_12_method_3_code 25 = .ok (.if_icmp .ne 10, 3) := by decide +kernel
theorem em69_28 : decode prog_12_method_3_code 28 = .ok (.aload_n 1, 1) := by decide +kernel
theorem em69_29 : decode prog_12_method_3_code 29 = .ok (.iload 4, 2) := by decide +kernel
theorem em69_31 : decode prog_12_method_3_code 31 = .ok (.iaload, 1) := by decide +kernel
theorem em69_32 : decode prog_12_method_3_code 32 = .ok (.goto 4, 3) := by decide +kernel
theorem em69_35 : decode prog_12_method_3_code 35 = .ok (.iconst 0, 1) := by decide +kernel
theorem em69_36 : decode prog_12_method_3_code 36 = .ok (.iadd, 1) := by decide +kernel
theorem em69_37 : decode prog_12_method_3_code 37 = .ok (.istore_n 3, 1) := by decide +kernel
theorem em69_38 : decode prog_12_method_3_code 38 = .ok (.iinc 4 1, 3) := by decide +kernel
theorem em69_41 : decode prog_12_method_3_code 41 = .ok (.goto (-36), 3) := by decide +kernel
theorem em69_44 : decode prog_12_method_3_code 44 = .ok (.iload_n 3, 1) := by decide +kernel
theorem em69_45 : decode prog_12_method_3_code 45 = .ok (.ireturn, 1) := by decide +kernel
/-! CapitalCase$TwoDays.total:([II)I -/
noncomputable def zTr_73 : Nat → Option aF := bn 22 (bn 8 (bn 3 (bn 1 (bl 0 (a_const 0 1)) (bn 2 (bl 1 (a_istore 3 2)) (bl 2 (a_const 0 3)))) (bn 5 (bl 3 (a_istore 4 5)) (bn 7 (bl 5 (a_iload 4 7)) (bl 7 (a_aload 0 8))))) (bn 17 (bn 11 (bl 8 (a_getf zG0 zT0 10 0 11)) (bn 14 (bl 11 (a_getf zG0 zT0 6 1 14)) (bl 14 (a_icmp 3 44 17)))) (bn 19 (bn 18 (bl 17 (a_iload 3 18)) (bl 18 (a_iload 2 19))) (bn 21 (bl 19 (a_iload 4 21)) (bl 21 (a_bin fany 22)))))) (bn 32 (bn 25 (bn 23 (bl 22 (a_const 1 23)) (bn 24 (bl 23 (a_bin fand 24)) (bl 24 (a_const 1 25)))) (bn 29 (bn 28 (bl 25 (a_icmp 1 35 28)) (bl 28 (a_aload 1 29))) (bn 31 (bl 29 (a_iload 4 31)) (bl 31 (a_ald zG0 zT0 (false, false) ts0 32))))) (bn 37 (bn 35 (bl 32 (a_goto 36)) (bn 36 (bl 35 (a_const 0 36)) (bl 36 (a_bin fadd 37)))) (bn 41 (bn 38 (bl 37 (a_istore 3 38)) (bl 38 (a_iinc 4 1 41))) (bn 44 (bl 41 (a_goto 5)) (bl 44 (a_iload 3 45))))))
set_option maxRecDepth 100000 in
set_option maxHeartbeats 4000000 in
theorem zTo_73 {pre : zPre} {post : zPost} (H : zTieC pre post) {d : Nat × Nat × Nat} (hd : zLe (0, 0, 0) d) : aTr zG0 zT0 zInv (false, false) PZ zbd pre post d prog_12_method_3_code "CapitalCase$TwoDays" zTr_73 := (xB_n (xB_n (xB_n (xB_n (xB_l ⟨_, zs_iconst (v := 0) em69_0 (by decide +kernel), as_const (by decide +kernel)⟩) (xB_n (xB_l ⟨_, zs_istore_n em69_1, as_istore⟩) (xB_l ⟨_, zs_iconst (v := 0) em69_2 (by decide +kernel), as_const (by decide +kernel)⟩))) (xB_n (xB_l ⟨_, zs_istore em69_3, as_istore⟩) (xB_n (xB_l ⟨_, zs_iload em69_5, as_iload⟩) (xB_l ⟨_, zs_aload_n em69_7, as_aload⟩)))) (xB_n (xB_n (xB_l ⟨_, zs_getf (T := TX10) (M := 9) (ci := 10) (j := 0) em69_8 rfl inX10 (by decide) wd_505 ((congrFun xo_11 22).trans rfl), as_getf zTie⟩) (xB_n (xB_l ⟨_, zs_getf (T := TX6) (M := 15) (ci := 6) (j := 1) em69_11 rfl inX6 (by decide) wd_168 ((congrFun xo_11 46).trans rfl), as_getf zTie⟩) (xB_l ⟨_, zs_icmpge em69_14 (t := 44) (by decide), as_icmp⟩))) (xB_n (xB_n (xB_l ⟨_, zs_iload_n em69_17, as_iload⟩) (xB_l ⟨_, zs_iload_n em69_18, as_iload⟩)) (xB_n (xB_l ⟨_, zs_iload em69_19, as_iload⟩) (xB_l ⟨_, zs_ishr em69_21, as_bin fany_ok⟩))))) (xB_n (xB_n (xB_n (xB_l ⟨_, zs_iconst (v := 1) em69_22 (by decide +kernel), as_const (by decide +kernel)⟩) (xB_n (xB_l ⟨_, zs_iand em69_23, as_bin fand_ok⟩) (xB_l ⟨_, zs_iconst (v := 1) em69_24 (by decide +kernel), as_const (by decide +kernel)⟩))) (xB_n (xB_n (xB_l ⟨_, zs_icmpne em69_25 (t := 35) (by decide), as_icmp⟩) (xB_l ⟨_, zs_aload_n em69_28, as_aload⟩)) (xB_n (xB_l ⟨_, zs_iload em69_29, as_iload⟩) (xB_l ⟨_, zs_iald em69_31, ag_iald⟩)))) (xB_n (xB_n (xB_l ⟨_, zs_goto em69_32 (t := 36) (by decide), as_goto⟩) (xB_n (xB_l ⟨_, zs_iconst (v := 0) em69_35 (by decide +kernel), as_const (by decide +kernel)⟩) (xB_l ⟨_, zs_iadd em69_36, as_bin fadd_ok⟩))) (xB_n (xB_n (xB_l ⟨_, zs_istore_n em69_37, as_istore⟩) (xB_l ⟨_, zs_iinc (k := 1) em69_38 (by decide +kernel), as_iinc (by decide +kernel)⟩)) (xB_n (xB_l ⟨_, zs_goto em69_41 (t := 5) (by decide), as_goto⟩) (xB_l ⟨_, zs_iload_n em69_44, as_iload⟩))))))
set_option maxRecDepth 100000 in
set_option maxHeartbeats 4000000 in
theorem zM_73 : zOKa 73 zc_73 := z_auto (cuts := [(5, ([(0, 0), (0, 127), (0, 7), ((-2147483648), 2147483647), (0, 7)], [], [some (.inr (.inl (0, 59))), some (.inr (.inl (1, 2003))), some (.inl (1, 0)), some (.inl (3, 0)), some (.inl (4, 0))], [], [(6, 2, 0)], (0, 0)), [(0, 3), (0, 4)], 7, [0, 0, 0, 0, (-1)])]) (rets := [(45, 1)]) (fuel := 1000) rfl rfl (by decide) (xrt_ok (xR_c (Or.inl ⟨rfl, em69_45, rfl⟩) (xR_n))) (fun _ _ H _ hd => zTo_73 H hd) (by decide +kernel)
/-! CapitalCase$TwoDays.total:([II)I -/
noncomputable def zTr_74 : Nat → Option aF := bn 22 (bn 8 (bn 3 (bn 1 (bl 0 (a_const 0 1)) (bn 2 (bl 1 (a_istore 3 2)) (bl 2 (a_const 0 3)))) (bn 5 (bl 3 (a_istore 4 5)) (bn 7 (bl 5 (a_iload 4 7)) (bl 7 (a_aload 0 8))))) (bn 17 (bn 11 (bl 8 (a_getf zG0 zT0 10 0 11)) (bn 14 (bl 11 (a_getf zG0 zT0 6 1 14)) (bl 14 (a_icmp 3 44 17)))) (bn 19 (bn 18 (bl 17 (a_iload 3 18)) (bl 18 (a_iload 2 19))) (bn 21 (bl 19 (a_iload 4 21)) (bl 21 (a_bin fany 22)))))) (bn 32 (bn 25 (bn 23 (bl 22 (a_const 1 23)) (bn 24 (bl 23 (a_bin fand 24)) (bl 24 (a_const 1 25)))) (bn 29 (bn 28 (bl 25 (a_icmp 1 35 28)) (bl 28 (a_aload 1 29))) (bn 31 (bl 29 (a_iload 4 31)) (bl 31 (a_ald zG0 zT0 (false, false) ts0 32))))) (bn 37 (bn 35 (bl 32 (a_goto 36)) (bn 36 (bl 35 (a_const 0 36)) (bl 36 (a_bin fadd 37)))) (bn 41 (bn 38 (bl 37 (a_istore 3 38)) (bl 38 (a_iinc 4 1 41))) (bn 44 (bl 41 (a_goto 5)) (bl 44 (a_iload 3 45))))))
set_option maxRecDepth 100000 in
set_option maxHeartbeats 4000000 in
theorem zTo_74 {pre : zPre} {post : zPost} (H : zTieC pre post) {d : Nat × Nat × Nat} (hd : zLe (0, 0, 0) d) : aTr zG0 zT0 zInv (false, false) PZ zbd pre post d prog_12_method_3_code "CapitalCase$TwoDays" zTr_74 := (xB_n (xB_n (xB_n (xB_n (xB_l ⟨_, zs_iconst (v := 0) em69_0 (by decide +kernel), as_const (by decide +kernel)⟩) (xB_n (xB_l ⟨_, zs_istore_n em69_1, as_istore⟩) (xB_l ⟨_, zs_iconst (v := 0) em69_2 (by decide +kernel), as_const (by decide +kernel)⟩))) (xB_n (xB_l ⟨_, zs_istore em69_3, as_istore⟩) (xB_n (xB_l ⟨_, zs_iload em69_5, as_iload⟩) (xB_l ⟨_, zs_aload_n em69_7, as_aload⟩)))) (xB_n (xB_n (xB_l ⟨_, zs_getf (T := TX10) (M := 9) (ci := 10) (j := 0) em69_8 rfl inX10 (by decide) wd_505 ((congrFun xo_11 22).trans rfl), as_getf zTie⟩) (xB_n (xB_l ⟨_, zs_getf (T := TX6) (M := 15) (ci := 6) (j := 1) em69_11 rfl inX6 (by decide) wd_168 ((congrFun xo_11 46).trans rfl), as_getf zTie⟩) (xB_l ⟨_, zs_icmpge em69_14 (t := 44) (by decide), as_icmp⟩))) (xB_n (xB_n (xB_l ⟨_, zs_iload_n em69_17, as_iload⟩) (xB_l ⟨_, zs_iload_n em69_18, as_iload⟩)) (xB_n (xB_l ⟨_, zs_iload em69_19, as_iload⟩) (xB_l ⟨_, zs_ishr em69_21, as_bin fany_ok⟩))))) (xB_n (xB_n (xB_n (xB_l ⟨_, zs_iconst (v := 1) em69_22 (by decide +kernel), as_const (by decide +kernel)⟩) (xB_n (xB_l ⟨_, zs_iand em69_23, as_bin fand_ok⟩) (xB_l ⟨_, zs_iconst (v := 1) em69_24 (by decide +kernel), as_const (by decide +kernel)⟩))) (xB_n (xB_n (xB_l ⟨_, zs_icmpne em69_25 (t := 35) (by decide), as_icmp⟩) (xB_l ⟨_, zs_aload_n em69_28, as_aload⟩)) (xB_n (xB_l ⟨_, zs_iload em69_29, as_iload⟩) (xB_l ⟨_, zs_iald em69_31, ag_iald⟩)))) (xB_n (xB_n (xB_l ⟨_, zs_goto em69_32 (t := 36) (by decide), as_goto⟩) (xB_n (xB_l ⟨_, zs_iconst (v := 0) em69_35 (by decide +kernel), as_const (by decide +kernel)⟩) (xB_l ⟨_, zs_iadd em69_36, as_bin fadd_ok⟩))) (xB_n (xB_n (xB_l ⟨_, zs_istore_n em69_37, as_istore⟩) (xB_l ⟨_, zs_iinc (k := 1) em69_38 (by decide +kernel), as_iinc (by decide +kernel)⟩)) (xB_n (xB_l ⟨_, zs_goto em69_41 (t := 5) (by decide), as_goto⟩) (xB_l ⟨_, zs_iload_n em69_44, as_iload⟩))))))
set_option maxRecDepth 100000 in
set_option maxHeartbeats 4000000 in
theorem zM_74 : zOKa 74 zc_74 := z_auto (cuts := [(5, ([(0, 0), (0, 127), (0, 7), ((-2147483648), 2147483647), (0, 7)], [], [some (.inr (.inl (0, 59))), some (.inr (.inl (0, 66))), some (.inl (1, 0)), some (.inl (3, 0)), some (.inl (4, 0))], [], [(6, 2, 0)], (0, 0)), [(0, 3), (0, 4)], 7, [0, 0, 0, 0, (-1)])]) (rets := [(45, 1)]) (fuel := 1000) rfl rfl (by decide) (xrt_ok (xR_c (Or.inl ⟨rfl, em69_45, rfl⟩) (xR_n))) (fun _ _ H _ hd => zTo_74 H hd) (by decide +kernel)
theorem em70_0 : decode prog_1_method_3_code 0 = .ok (.bipush 24, 2) := by decide +kernel
theorem em70_2 : decode prog_1_method_3_code 2 = .ok (.istore_n 2, 1) := by decide +kernel
theorem em70_3 : decode prog_1_method_3_code 3 = .ok (.iload_n 2, 1) := by decide +kernel
theorem em70_4 : decode prog_1_method_3_code 4 = .ok (.ifCond .lt 42, 3) := by decide +kernel
theorem em70_7 : decode prog_1_method_3_code 7 = .ok (.aload_n 0, 1) := by decide +kernel
theorem em70_8 : decode prog_1_method_3_code 8 = .ok (.getfield 13, 3) := by decide +kernel
theorem em70_11 : decode prog_1_method_3_code 11 = .ok (.sipush 2000, 3) := by decide +kernel
theorem em70_14 : decode prog_1_method_3_code 14 = .ok (.if_icmp .ge 32, 3) := by decide +kernel
theorem em70_17 : decode prog_1_method_3_code 17 = .ok (.aload_n 0, 1) := by decide +kernel
theorem em70_18 : decode prog_1_method_3_code 18 = .ok (.getfield 9, 3) := by decide +kernel
theorem em70_21 : decode prog_1_method_3_code 21 = .ok (.aload_n 0, 1) := by decide +kernel
theorem em70_22 : decode prog_1_method_3_code 22 = .ok (.getfield 13, 3) := by decide +kernel
theorem em70_25 : decode prog_1_method_3_code 25 = .ok (.iload_n 1, 1) := by decide +kernel
theorem em70_26 : decode prog_1_method_3_code 26 = .ok (.iload_n 2, 1) := by decide +kernel
theorem em70_27 : decode prog_1_method_3_code 27 = .ok (.iushr, 1) := by decide +kernel
theorem em70_28 : decode prog_1_method_3_code 28 = .ok (.i2b, 1) := by decide +kernel
theorem em70_29 : decode prog_1_method_3_code 29 = .ok (.bastore, 1) := by decide +kernel
theorem em70_30 : decode prog_1_method_3_code 30 = .ok (.aload_n 0, 1) := by decide +kernel
theorem em70_31 : decode prog_1_method_3_code 31 = .ok (.dup, 1) := by decide +kernel
theorem em70_32 : decode prog_1_method_3_code 32 = .ok (.getfield 13, 3) := by decide +kernel
theorem em70_35 : decode prog_1_method_3_code 35 = .ok (.iconst 1, 1) := by decide +kernel
theorem em70_36 : decode prog_1_method_3_code 36 = .ok (.iadd, 1) := by decide +kernel
theorem em70_37 : decode prog_1_method_3_code 37 = .ok (.putfield 13, 3) := by decide +kernel
theorem em70_40 : decode prog_1_method_3_code 40 = .ok (.iinc 2 (-8), 3) := by decide +kernel
theorem em70_43 : decode prog_1_method_3_code 43 = .ok (.goto (-40), 3) := by decide +kernel
theorem em70_46 : decode prog_1_method_3_code 46 = .ok (.return_, 1) := by decide +kernel
/-! CapitalCase.append:(I)V -/
noncomputable def zTr_75 : Nat → Option aF := bn 25 (bn 11 (bn 4 (bn 2 (bl 0 (a_const 24 2)) (bn 3 (bl 2 (a_istore 2 3)) (bl 3 (a_iload 2 4)))) (bn 7 (bl 4 (a_if 2 46 7)) (bn 8 (bl 7 (a_aload 0 8)) (bl 8 (a_getf zG0 zT0 11 6 11))))) (bn 18 (bn 14 (bl 11 (a_const 2000 14)) (bn 17 (bl 14 (a_icmp 3 46 17)) (bl 17 (a_aload 0 18)))) (bn 21 (bl 18 (a_getf zG0 zT0 11 7 21)) (bn 22 (bl 21 (a_aload 0 22)) (bl 22 (a_getf zG0 zT0 11 6 25)))))) (bn 31 (bn 28 (bn 26 (bl 25 (a_iload 1 26)) (bn 27 (bl 26 (a_iload 2 27)) (bl 27 (a_bin fushr 28)))) (bn 29 (bl 28 (a_un fi2b 29)) (bn 30 (bl 29 (a_ast zG0 zT0 ts12 30)) (bl 30 (a_aload 0 31))))) (bn 36 (bn 32 (bl 31 (a_dup 32)) (bn 35 (bl 32 (a_getf zG0 zT0 11 6 35)) (bl 35 (a_const 1 36)))) (bn 40 (bn 37 (bl 36 (a_bin fadd 37)) (bl 37 (a_puti zG0 zT0 zprot 11 6 0 40))) (bn 43 (bl 40 (a_iinc 2 (-8) 43)) (bl 43 (a_goto 3))))))
set_option maxRecDepth 100000 in
set_option maxHeartbeats 4000000 in
theorem zTo_75 {pre : zPre} {post : zPost} (H : zTieC pre post) {d : Nat × Nat × Nat} (hd : zLe (0, 0, 0) d) : aTr zG0 zT0 zInv (false, false) PZ zbd pre post d prog_1_method_3_code "CapitalCase" zTr_75 := (xB_n (xB_n (xB_n (xB_n (xB_l ⟨_, zs_bipush (v := 24) em70_0 (by decide +kernel), as_const (by decide +kernel)⟩) (xB_n (xB_l ⟨_, zs_istore_n em70_2, as_istore⟩) (xB_l ⟨_, zs_iload_n em70_3, as_iload⟩))) (xB_n (xB_l ⟨_, zs_iflt em70_4 (t := 46) (by decide), as_if⟩) (xB_n (xB_l ⟨_, zs_aload_n em70_7, as_aload⟩) (xB_l ⟨_, zs_getf (T := TX11) (M := 16) (ci := 11) (j := 6) em70_8 rfl inX11 (by decide) wd_554 ((congrFun xo_0 13).trans rfl), as_getf zTie⟩)))) (xB_n (xB_n (xB_l ⟨_, zs_sipush (v := 2000) em70_11 (by decide +kernel), as_const (by decide +kernel)⟩) (xB_n (xB_l ⟨_, zs_icmpge em70_14 (t := 46) (by decide), as_icmp⟩) (xB_l ⟨_, zs_aload_n em70_17, as_aload⟩))) (xB_n (xB_l ⟨_, zs_getf (T := TX11) (M := 16) (ci := 11) (j := 7) em70_18 rfl inX11 (by decide) wd_553 ((congrFun xo_0 9).trans rfl), as_getf zTie⟩) (xB_n (xB_l ⟨_, zs_aload_n em70_21, as_aload⟩) (xB_l ⟨_, zs_getf (T := TX11) (M := 16) (ci := 11) (j := 6) em70_22 rfl inX11 (by decide) wd_554 ((congrFun xo_0 13).trans rfl), as_getf zTie⟩))))) (xB_n (xB_n (xB_n (xB_l ⟨_, zs_iload_n em70_25, as_iload⟩) (xB_n (xB_l ⟨_, zs_iload_n em70_26, as_iload⟩) (xB_l ⟨_, zs_iushr em70_27, as_bin fushr_ok⟩))) (xB_n (xB_l ⟨_, zs_i2b em70_28, as_un fi2b_ok⟩) (xB_n (xB_l ⟨_, zs_bast zInj0 em70_29, as_bast zTie⟩) (xB_l ⟨_, zs_aload_n em70_30, as_aload⟩)))) (xB_n (xB_n (xB_l ⟨_, zs_dup em70_31, as_dup⟩) (xB_n (xB_l ⟨_, zs_getf (T := TX11) (M := 16) (ci := 11) (j := 6) em70_32 rfl inX11 (by decide) wd_554 ((congrFun xo_0 13).trans rfl), as_getf zTie⟩) (xB_l ⟨_, zs_iconst (v := 1) em70_35 (by decide +kernel), as_const (by decide +kernel)⟩))) (xB_n (xB_n (xB_l ⟨_, zs_iadd em70_36, as_bin fadd_ok⟩) (xB_l ⟨_, zs_puti zInj0 (T := TX11) (M := 16) (ty := tyX11) (ci := 11) (j := 6) (kd := 0) em70_37 rfl inX11 tyX11_ok nmX11 (by decide) wd_554 (Or.inl ⟨rfl, rfl⟩) rfl ((congrFun xo_0 13).trans rfl), ag_puti0⟩)) (xB_n (xB_l ⟨_, zs_iinc (k := (-8)) em70_40 (by decide +kernel), as_iinc (by decide +kernel)⟩) (xB_l ⟨_, zs_goto em70_43 (t := 3) (by decide), as_goto⟩))))))
set_option maxRecDepth 100000 in
set_option maxHeartbeats 4000000 in
theorem zM_75 : zOKa 75 zc_75 := z_auto (cuts := []) (rets := [(46, 3)]) (fuel := 1000) rfl rfl (by decide) (xrt_ok (xR_c (Or.inr (Or.inr (Or.inl ⟨rfl, em70_46, rfl⟩))) (xR_n))) (fun _ _ H _ hd => zTo_75 H hd) (by decide +kernel)
theorem em71_0 : decode prog_1_method_41_code 0 = .ok (.iload_n 1, 1) := by decide +kernel
theorem em71_1 : decode prog_1_method_41_code 1 = .ok (.ifCond .lt 25, 3) := by decide +kernel
theorem em71_4 : decode prog_1_method_41_code 4 = .ok (.iload_n 1, 1) := by decide +kernel
theorem em71_5 : decode prog_1_method_41_code 5 = .ok (.aload_n 0, 1) := by decide +kernel
theorem em71_6 : decode prog_1_method_41_code 6 = .ok (.getfield 64, 3) := by decide +kernel
theorem em71_9 : decode prog_1_method_41_code 9 = .ok (.getfield 133, 3) := by decide +kernel
theorem em71_12 : decode prog_1_method_41_code 12 = .ok (.if_icmp .gt 14, 3) := by decide +kernel
theorem em71_15 : decode prog_1_method_41_code 15 = .ok (.iload_n 2, 1) := by decide +kernel
theorem em71_16 : decode prog_1_method_41_code 16 = .ok (.ifCond .lt 10, 3) := by decide +kernel
theorem em71_19 : decode prog_1_method_41_code 19 = .ok (.iload_n 2, 1) := by decide +kernel
theorem em71_20 : decode prog_1_method_41_code 20 = .ok (.sipush 999, 3) := by decide +kernel
theorem em71_23 : decode prog_1_method_41_code 23 = .ok (.if_icmp .le 5, 3) := by decide +kernel
theorem em71_26 : decode prog_1_method_41_code 26 = .ok (.iconst (-1), 1) := by decide +kernel
theorem em71_27 : decode prog_1_method_41_code 27 = .ok (.ireturn, 1) := by decide +kernel
theorem em71_28 : decode prog_1_method_41_code 28 = .ok (.aload_n 0, 1) := by decide +kernel
theorem em71_29 : decode prog_1_method_41_code 29 = .ok (.getfield 64, 3) := by decide +kernel
theorem em71_32 : decode prog_1_method_41_code 32 = .ok (.aload_n 0, 1) := by decide +kernel
theorem em71_33 : decode prog_1_method_41_code 33 = .ok (.getfield 39, 3) := by decide +kernel
theorem em71_36 : decode prog_1_method_41_code 36 = .ok (.aload_n 0, 1) := by decide +kernel
theorem em71_37 : decode prog_1_method_41_code 37 = .ok (.getfield 64, 3) := by decide +kernel
theorem em71_40 : decode prog_1_method_41_code 40 = .ok (.aload_n 0, 1) := by decide +kernel
theorem em71_41 : decode prog_1_method_41_code 41 = .ok (.getfield 39, 3) := by decide +kernel
theorem em71_44 : decode prog_1_method_41_code 44 = .ok (.aload_n 0, 1) := by decide +kernel
theorem em71_45 : decode prog_1_method_41_code 45 = .ok (.getfield 23, 3) := by decide +kernel
theorem em71_48 : decode prog_1_method_41_code 48 = .ok (.getfield 134, 3) := by decide +kernel
theorem em71_51 : decode prog_1_method_41_code 51 = .ok (.iload_n 1, 1) := by decide +kernel
theorem em71_52 : decode prog_1_method_41_code 52 = .ok (.invokevirtual 311, 3) := by decide +kernel
theorem em71_55 : decode prog_1_method_41_code 55 = .ok (.iload_n 2, 1) := by decide +kernel
theorem em71_56 : decode prog_1_method_41_code 56 = .ok (.invokevirtual 319, 3) := by decide +kernel
theorem em71_59 : decode prog_1_method_41_code 59 = .ok (.ireturn, 1) := by decide +kernel
/-! CapitalCase.ask:(II)I -/
noncomputable def zTr_76 : Nat → Option aF := bn 29 (bn 15 (bn 5 (bn 1 (bl 0 (a_iload 1 1)) (bn 4 (bl 1 (a_if 2 26 4)) (bl 4 (a_iload 1 5)))) (bn 9 (bn 6 (bl 5 (a_aload 0 6)) (bl 6 (a_getf zG0 zT0 11 13 9))) (bn 12 (bl 9 (a_getf zG0 zT0 5 3 12)) (bl 12 (a_icmp 4 26 15))))) (bn 20 (bn 16 (bl 15 (a_iload 2 16)) (bn 19 (bl 16 (a_if 2 26 19)) (bl 19 (a_iload 2 20)))) (bn 26 (bn 23 (bl 20 (a_const 999 23)) (bl 23 (a_icmp 5 28 26))) (bn 28 (bl 26 (a_const (-1) 27)) (bl 28 (a_aload 0 29)))))) (bn 44 (bn 36 (bn 32 (bl 29 (a_getf zG0 zT0 11 13 32)) (bn 33 (bl 32 (a_aload 0 33)) (bl 33 (a_getf zG0 zT0 11 1 36)))) (bn 40 (bn 37 (bl 36 (a_aload 0 37)) (bl 37 (a_getf zG0 zT0 11 13 40))) (bn 41 (bl 40 (a_aload 0 41)) (bl 41 (a_getf zG0 zT0 11 1 44))))) (bn 51 (bn 45 (bl 44 (a_aload 0 45)) (bn 48 (bl 45 (a_getf zG0 zT0 11 0 48)) (bl 48 (a_getf zG0 zT0 6 0 51)))) (bn 55 (bn 52 (bl 51 (a_iload 1 52)) (bl 52 (a_invV zG0 zprot (false, false) zc_41 (zbd 41) (2, 0, 0) 5 4 55))) (bn 56 (bl 55 (a_iload 2 56)) (bl 56 (a_invV zG0 zprot (false, false) zc_42 (zbd 42) (2, 0, 0) 5 4 59))))))
set_option maxRecDepth 100000 in
set_option maxHeartbeats 4000000 in
theorem zTo_76 {pre : zPre} {post : zPost} (H : zTieC pre post) {d : Nat × Nat × Nat} (hd : zLe (2, 0, 0) d) : aTr zG0 zT0 zInv (false, false) PZ zbd pre post d prog_1_method_41_code "CapitalCase" zTr_76 := (xB_n (xB_n (xB_n (xB_n (xB_l ⟨_, zs_iload_n em71_0, as_iload⟩) (xB_n (xB_l ⟨_, zs_iflt em71_1 (t := 26) (by decide), as_if⟩) (xB_l ⟨_, zs_iload_n em71_4, as_iload⟩))) (xB_n (xB_n (xB_l ⟨_, zs_aload_n em71_5, as_aload⟩) (xB_l ⟨_, zs_getf (T := TX11) (M := 16) (ci := 11) (j := 13) em71_6 rfl inX11 (by decide) wd_563 ((congrFun xo_0 64).trans rfl), as_getf zTie⟩)) (xB_n (xB_l ⟨_, zs_getf (T := TX5) (M := 4) (ci := 5) (j := 3) em71_9 rfl inX5 (by decide) wd_405 ((congrFun xo_0 133).trans rfl), as_getf zTie⟩) (xB_l ⟨_, zs_icmpgt em71_12 (t := 26) (by decide), as_icmp⟩)))) (xB_n (xB_n (xB_l ⟨_, zs_iload_n em71_15, as_iload⟩) (xB_n (xB_l ⟨_, zs_iflt em71_16 (t := 26) (by decide), as_if⟩) (xB_l ⟨_, zs_iload_n em71_19, as_iload⟩))) (xB_n (xB_n (xB_l ⟨_, zs_sipush (v := 999) em71_20 (by decide +kernel), as_const (by decide +kernel)⟩) (xB_l ⟨_, zs_icmple em71_23 (t := 28) (by decide), as_icmp⟩)) (xB_n (xB_l ⟨_, zs_iconst (v := (-1)) em71_26 (by decide +kernel), as_const (by decide +kernel)⟩) (xB_l ⟨_, zs_aload_n em71_28, as_aload⟩))))) (xB_n (xB_n (xB_n (xB_l ⟨_, zs_getf (T := TX11) (M := 16) (ci := 11) (j := 13) em71_29 rfl inX11 (by decide) wd_563 ((congrFun xo_0 64).trans rfl), as_getf zTie⟩) (xB_n (xB_l ⟨_, zs_aload_n em71_32, as_aload⟩) (xB_l ⟨_, zs_getf (T := TX11) (M := 16) (ci := 11) (j := 1) em71_33 rfl inX11 (by decide) wd_558 ((congrFun xo_0 39).trans rfl), as_getf zTie⟩))) (xB_n (xB_n (xB_l ⟨_, zs_aload_n em71_36, as_aload⟩) (xB_l ⟨_, zs_getf (T := TX11) (M := 16) (ci := 11) (j := 13) em71_37 rfl inX11 (by decide) wd_563 ((congrFun xo_0 64).trans rfl), as_getf zTie⟩)) (xB_n (xB_l ⟨_, zs_aload_n em71_40, as_aload⟩) (xB_l ⟨_, zs_getf (T := TX11) (M := 16) (ci := 11) (j := 1) em71_41 rfl inX11 (by decide) wd_558 ((congrFun xo_0 39).trans rfl), as_getf zTie⟩)))) (xB_n (xB_n (xB_l ⟨_, zs_aload_n em71_44, as_aload⟩) (xB_n (xB_l ⟨_, zs_getf (T := TX11) (M := 16) (ci := 11) (j := 0) em71_45 rfl inX11 (by decide) wd_556 ((congrFun xo_0 23).trans rfl), as_getf zTie⟩) (xB_l ⟨_, zs_getf (T := TX6) (M := 15) (ci := 6) (j := 0) em71_48 rfl inX6 (by decide) wd_167 ((congrFun xo_0 134).trans rfl), as_getf zTie⟩))) (xB_n (xB_n (xB_l ⟨_, zs_iload_n em71_51, as_iload⟩) (xB_l ⟨_, zs_invV (T := TX5) em71_52 zl_41 rfl wd_1213 wd_1214 wd_1215 ((congrFun xo_0 311).trans rfl) xm_40, ag_invV H zh_41 hd (by decide)⟩)) (xB_n (xB_l ⟨_, zs_iload_n em71_55, as_iload⟩) (xB_l ⟨_, zs_invV (T := TX5) em71_56 zl_42 rfl wd_1227 wd_1228 wd_1229 ((congrFun xo_0 319).trans rfl) xm_41, ag_invV H zh_42 hd (by decide)⟩))))))
set_option maxRecDepth 100000 in
set_option maxHeartbeats 4000000 in
theorem zM_76 : zOKa 76 zc_76 := z_auto (cuts := []) (rets := [(27, 1), (59, 1)]) (fuel := 1000) rfl rfl (by decide) (xrt_ok (xR_c (Or.inl ⟨rfl, em71_27, rfl⟩) (xR_c (Or.inl ⟨rfl, em71_59, rfl⟩) (xR_n)))) (fun _ _ H _ hd => zTo_76 H hd) (by decide +kernel)
theorem em73_0 : decode prog_1_method_30_code 0 = .ok (.iload_n 1, 1) := by decide +kernel
theorem em73_1 : decode prog_1_method_30_code 1 = .ok (.ifCond .lt 8, 3) := by decide +kernel
theorem em73_4 : decode prog_1_method_30_code 4 = .ok (.iload_n 1, 1) := by decide +kernel
theorem em73_5 : decode prog_1_method_30_code 5 = .ok (.iconst 1, 1) := by decide +kernel
theorem em73_6 : decode prog_1_method_30_code 6 = .ok (.if_icmp .le 5, 3) := by decide +kernel
theorem em73_9 : decode prog_1_method_30_code 9 = .ok (.iconst (-1), 1) := by decide +kernel
theorem em73_10 : decode prog_1_method_30_code 10 = .ok (.ireturn, 1) := by decide +kernel
theorem em73_11 : decode prog_1_method_30_code 11 = .ok (.aload_n 0, 1) := by decide +kernel
theorem em73_12 : decode prog_1_method_30_code 12 = .ok (.getfield 105, 3) := by decide +kernel
theorem em73_15 : decode prog_1_method_30_code 15 = .ok (.aload_n 0, 1) := by decide +kernel
theorem em73_16 : decode prog_1_method_30_code 16 = .ok (.getfield 39, 3) := by decide +kernel
theorem em73_19 : decode prog_1_method_30_code 19 = .ok (.invokevirtual 286, 3) := by decide +kernel
theorem em73_22 : decode prog_1_method_30_code 22 = .ok (.iload_n 1, 1) := by decide +kernel
theorem em73_23 : decode prog_1_method_30_code 23 = .ok (.ifCond .ne 13, 3) := by decide +kernel
theorem em73_26 : decode prog_1_method_30_code 26 = .ok (.aload_n 0, 1) := by decide +kernel
theorem em73_27 : decode prog_1_method_30_code 27 = .ok (.getfield 105, 3) := by decide +kernel
theorem em73_30 : decode prog_1_method_30_code 30 = .ok (.getfield 289, 3) := by decide +kernel
theorem em73_33 : decode prog_1_method_30_code 33 = .ok (.goto 10, 3) := by decide +kernel
theorem em73_36 : decode prog_1_method_30_code 36 = .ok (.aload_n 0, 1) := by decide +kernel
theorem em73_37 : decode prog_1_method_30_code 37 = .ok (.getfield 105, 3) := by decide +kernel
theorem em73_40 : decode prog_1_method_30_code 40 = .ok (.getfield 292, 3) := by decide +kernel
theorem em73_43 : decode prog_1_method_30_code 43 = .ok (.ireturn, 1) := by decide +kernel
/-! CapitalCase.bargains:(I)I -/
noncomputable def zTr_78 : Nat → Option aF := bn 19 (bn 9 (bn 4 (bn 1 (bl 0 (a_iload 1 1)) (bl 1 (a_if 2 9 4))) (bn 5 (bl 4 (a_iload 1 5)) (bn 6 (bl 5 (a_const 1 6)) (bl 6 (a_icmp 5 11 9))))) (bn 12 (bn 11 (bl 9 (a_const (-1) 10)) (bl 11 (a_aload 0 12))) (bn 15 (bl 12 (a_getf zG0 zT0 11 15 15)) (bn 16 (bl 15 (a_aload 0 16)) (bl 16 (a_getf zG0 zT0 11 1 19)))))) (bn 30 (bn 23 (bn 22 (bl 19 (a_invV zG0 zprot (false, false) zc_66 (zbd 66) (5, 0, 0) 9 2 22)) (bl 22 (a_iload 1 23))) (bn 26 (bl 23 (a_if 1 36 26)) (bn 27 (bl 26 (a_aload 0 27)) (bl 27 (a_getf zG0 zT0 11 15 30))))) (bn 36 (bn 33 (bl 30 (a_getf zG0 zT0 9 1 33)) (bl 33 (a_goto 43))) (bn 37 (bl 36 (a_aload 0 37)) (bn 40 (bl 37 (a_getf zG0 zT0 11 15 40)) (bl 40 (a_getf zG0 zT0 9 2 43))))))
set_option maxRecDepth 100000 in
set_option maxHeartbeats 4000000 in
theorem zTo_78 {pre : zPre} {post : zPost} (H : zTieC pre post) {d : Nat × Nat × Nat} (hd : zLe (5, 0, 0) d) : aTr zG0 zT0 zInv (false, false) PZ zbd pre post d prog_1_method_30_code "CapitalCase" zTr_78 := (xB_n (xB_n (xB_n (xB_n (xB_l ⟨_, zs_iload_n em73_0, as_iload⟩) (xB_l ⟨_, zs_iflt em73_1 (t := 9) (by decide), as_if⟩)) (xB_n (xB_l ⟨_, zs_iload_n em73_4, as_iload⟩) (xB_n (xB_l ⟨_, zs_iconst (v := 1) em73_5 (by decide +kernel), as_const (by decide +kernel)⟩) (xB_l ⟨_, zs_icmple em73_6 (t := 11) (by decide), as_icmp⟩)))) (xB_n (xB_n (xB_l ⟨_, zs_iconst (v := (-1)) em73_9 (by decide +kernel), as_const (by decide +kernel)⟩) (xB_l ⟨_, zs_aload_n em73_11, as_aload⟩)) (xB_n (xB_l ⟨_, zs_getf (T := TX11) (M := 16) (ci := 11) (j := 15) em73_12 rfl inX11 (by decide) wd_568 ((congrFun xo_0 105).trans rfl), as_getf zTie⟩) (xB_n (xB_l ⟨_, zs_aload_n em73_15, as_aload⟩) (xB_l ⟨_, zs_getf (T := TX11) (M := 16) (ci := 11) (j := 1) em73_16 rfl inX11 (by decide) wd_558 ((congrFun xo_0 39).trans rfl), as_getf zTie⟩))))) (xB_n (xB_n (xB_n (xB_l ⟨_, zs_invV (T := TX9) em73_19 zl_66 rfl wd_1143 wd_1144 wd_1145 ((congrFun xo_0 286).trans rfl) xm_62, ag_invV H zh_66 hd (by decide)⟩) (xB_l ⟨_, zs_iload_n em73_22, as_iload⟩)) (xB_n (xB_l ⟨_, zs_ifne em73_23 (t := 36) (by decide), as_if⟩) (xB_n (xB_l ⟨_, zs_aload_n em73_26, as_aload⟩) (xB_l ⟨_, zs_getf (T := TX11) (M := 16) (ci := 11) (j := 15) em73_27 rfl inX11 (by decide) wd_568 ((congrFun xo_0 105).trans rfl), as_getf zTie⟩)))) (xB_n (xB_n (xB_l ⟨_, zs_getf (T := TX9) (M := 3) (ci := 9) (j := 1) em73_30 rfl inX9 (by decide) wd_543 ((congrFun xo_0 289).trans rfl), as_getf zTie⟩) (xB_l ⟨_, zs_goto em73_33 (t := 43) (by decide), as_goto⟩)) (xB_n (xB_l ⟨_, zs_aload_n em73_36, as_aload⟩) (xB_n (xB_l ⟨_, zs_getf (T := TX11) (M := 16) (ci := 11) (j := 15) em73_37 rfl inX11 (by decide) wd_568 ((congrFun xo_0 105).trans rfl), as_getf zTie⟩) (xB_l ⟨_, zs_getf (T := TX9) (M := 3) (ci := 9) (j := 2) em73_40 rfl inX9 (by decide) wd_545 ((congrFun xo_0 292).trans rfl), as_getf zTie⟩))))))
set_option maxRecDepth 100000 in
set_option maxHeartbeats 4000000 in
theorem zM_78 : zOKa 78 zc_78 := z_auto (cuts := []) (rets := [(10, 1), (43, 1)]) (fuel := 1000) rfl rfl (by decide) (xrt_ok (xR_c (Or.inl ⟨rfl, em73_10, rfl⟩) (xR_c (Or.inl ⟨rfl, em73_43, rfl⟩) (xR_n)))) (fun _ _ H _ hd => zTo_78 H hd) (by decide +kernel)
theorem em74_0 : decode prog_1_method_6_code 0 = .ok (.aload_n 0, 1) := by decide +kernel
theorem em74_1 : decode prog_1_method_6_code 1 = .ok (.getfield 39, 3) := by decide +kernel
theorem em74_4 : decode prog_1_method_6_code 4 = .ok (.aload_n 0, 1) := by decide +kernel
theorem em74_5 : decode prog_1_method_6_code 5 = .ok (.getfield 23, 3) := by decide +kernel
theorem em74_8 : decode prog_1_method_6_code 8 = .ok (.invokevirtual 127, 3) := by decide +kernel
theorem em74_11 : decode prog_1_method_6_code 11 = .ok (.aload_n 0, 1) := by decide +kernel
theorem em74_12 : decode prog_1_method_6_code 12 = .ok (.getfield 49, 3) := by decide +kernel
theorem em74_15 : decode prog_1_method_6_code 15 = .ok (.iconst 0, 1) := by decide +kernel
theorem em74_16 : decode prog_1_method_6_code 16 = .ok (.putfield 130, 3) := by decide +kernel
theorem em74_19 : decode prog_1_method_6_code 19 = .ok (.aload_n 0, 1) := by decide +kernel
theorem em74_20 : decode prog_1_method_6_code 20 = .ok (.getfield 64, 3) := by decide +kernel
theorem em74_23 : decode prog_1_method_6_code 23 = .ok (.iconst 0, 1) := by decide +kernel
theorem em74_24 : decode prog_1_method_6_code 24 = .ok (.putfield 133, 3) := by decide +kernel
theorem em74_27 : decode prog_1_method_6_code 27 = .ok (.iconst 0, 1) := by decide +kernel
theorem em74_28 : decode prog_1_method_6_code 28 = .ok (.istore_n 1, 1) := by decide +kernel
theorem em74_29 : decode prog_1_method_6_code 29 = .ok (.iload_n 1, 1) := by decide +kernel
theorem em74_30 : decode prog_1_method_6_code 30 = .ok (.iconst 3, 1) := by decide +kernel
theorem em74_31 : decode prog_1_method_6_code 31 = .ok (.if_icmp .ge 16, 3) := by decide +kernel
theorem em74_34 : decode prog_1_method_6_code 34 = .ok (.aload_n 0, 1) := by decide +kernel
theorem em74_35 : decode prog_1_method_6_code 35 = .ok (.getfield 57, 3) := by decide +kernel
theorem em74_38 : decode prog_1_method_6_code 38 = .ok (.iload_n 1, 1) := by decide +kernel
theorem em74_39 : decode prog_1_method_6_code 39 = .ok (.iconst 0, 1) := by decide +kernel
theorem em74_40 : decode prog_1_method_6_code 40 = .ok (.bastore, 1) := by decide +kernel
theorem em74_41 : decode prog_1_method_6_code 41 = .ok (.iinc 1 1, 3) := by decide +kernel
theorem em74_44 : decode prog_1_method_6_code 44 = .ok (.goto (-15), 3) := by decide +kernel
theorem em74_47 : decode prog_1_method_6_code 47 = .ok (.return_, 1) := by decide +kernel
/-! CapitalCase.beginAnew:()V -/
noncomputable def zTr_79 : Nat → Option aF := bn 24 (bn 12 (bn 5 (bn 1 (bl 0 (a_aload 0 1)) (bn 4 (bl 1 (a_getf zG0 zT0 11 1 4)) (bl 4 (a_aload 0 5)))) (bn 8 (bl 5 (a_getf zG0 zT0 11 0 8)) (bn 11 (bl 8 (a_invV zG0 zprot (false, false) zc_54 (zbd 54) (2, 0, 0) 8 2 11)) (bl 11 (a_aload 0 12))))) (bn 19 (bn 15 (bl 12 (a_getf zG0 zT0 11 8 15)) (bn 16 (bl 15 (a_const 0 16)) (bl 16 (a_puti zG0 zT0 zprot 0 2 0 19)))) (bn 20 (bl 19 (a_aload 0 20)) (bn 23 (bl 20 (a_getf zG0 zT0 11 13 23)) (bl 23 (a_const 0 24)))))) (bn 34 (bn 29 (bn 27 (bl 24 (a_puti zG0 zT0 zprot 5 3 0 27)) (bn 28 (bl 27 (a_const 0 28)) (bl 28 (a_istore 1 29)))) (bn 30 (bl 29 (a_iload 1 30)) (bn 31 (bl 30 (a_const 3 31)) (bl 31 (a_icmp 3 47 34))))) (bn 39 (bn 35 (bl 34 (a_aload 0 35)) (bn 38 (bl 35 (a_getf zG0 zT0 11 12 38)) (bl 38 (a_iload 1 39)))) (bn 41 (bn 40 (bl 39 (a_const 0 40)) (bl 40 (a_ast zG0 zT0 ts12 41))) (bn 44 (bl 41 (a_iinc 1 1 44)) (bl 44 (a_goto 29))))))
set_option maxRecDepth 100000 in
set_option maxHeartbeats 4000000 in
theorem zTo_79 {pre : zPre} {post : zPost} (H : zTieC pre post) {d : Nat × Nat × Nat} (hd : zLe (2, 0, 0) d) : aTr zG0 zT0 zInv (false, false) PZ zbd pre post d prog_1_method_6_code "CapitalCase" zTr_79 := (xB_n (xB_n (xB_n (xB_n (xB_l ⟨_, zs_aload_n em74_0, as_aload⟩) (xB_n (xB_l ⟨_, zs_getf (T := TX11) (M := 16) (ci := 11) (j := 1) em74_1 rfl inX11 (by decide) wd_558 ((congrFun xo_0 39).trans rfl), as_getf zTie⟩) (xB_l ⟨_, zs_aload_n em74_4, as_aload⟩))) (xB_n (xB_l ⟨_, zs_getf (T := TX11) (M := 16) (ci := 11) (j := 0) em74_5 rfl inX11 (by decide) wd_556 ((congrFun xo_0 23).trans rfl), as_getf zTie⟩) (xB_n (xB_l ⟨_, zs_invV (T := TX8) em74_8 zl_54 rfl wd_836 wd_837 wd_838 ((congrFun xo_0 127).trans rfl) xm_50, ag_invV H zh_54 hd (by decide)⟩) (xB_l ⟨_, zs_aload_n em74_11, as_aload⟩)))) (xB_n (xB_n (xB_l ⟨_, zs_getf (T := TX11) (M := 16) (ci := 11) (j := 8) em74_12 rfl inX11 (by decide) wd_560 ((congrFun xo_0 49).trans rfl), as_getf zTie⟩) (xB_n (xB_l ⟨_, zs_iconst (v := 0) em74_15 (by decide +kernel), as_const (by decide +kernel)⟩) (xB_l ⟨_, zs_puti zInj0 (T := TX0) (M := 3) (ty := tyX0) (ci := 0) (j := 2) (kd := 0) em74_16 rfl inX0 tyX0_ok nmX0 (by decide) wd_387 (Or.inl ⟨rfl, rfl⟩) rfl ((congrFun xo_0 130).trans rfl), ag_puti0⟩))) (xB_n (xB_l ⟨_, zs_aload_n em74_19, as_aload⟩) (xB_n (xB_l ⟨_, zs_getf (T := TX11) (M := 16) (ci := 11) (j := 13) em74_20 rfl inX11 (by decide) wd_563 ((congrFun xo_0 64).trans rfl), as_getf zTie⟩) (xB_l ⟨_, zs_iconst (v := 0) em74_23 (by decide +kernel), as_const (by decide +kernel)⟩))))) (xB_n (xB_n (xB_n (xB_l ⟨_, zs_puti zInj0 (T := TX5) (M := 4) (ty := tyX5) (ci := 5) (j := 3) (kd := 0) em74_24 rfl inX5 tyX5_ok nmX5 (by decide) wd_405 (Or.inl ⟨rfl, rfl⟩) rfl ((congrFun xo_0 133).trans rfl), ag_puti0⟩) (xB_n (xB_l ⟨_, zs_iconst (v := 0) em74_27 (by decide +kernel), as_const (by decide +kernel)⟩) (xB_l ⟨_, zs_istore_n em74_28, as_istore⟩))) (xB_n (xB_l ⟨_, zs_iload_n em74_29, as_iload⟩) (xB_n (xB_l ⟨_, zs_iconst (v := 3) em74_30 (by decide +kernel), as_const (by decide +kernel)⟩) (xB_l ⟨_, zs_icmpge em74_31 (t := 47) (by decide), as_icmp⟩)))) (xB_n (xB_n (xB_l ⟨_, zs_aload_n em74_34, as_aload⟩) (xB_n (xB_l ⟨_, zs_getf (T := TX11) (M := 16) (ci := 11) (j := 12) em74_35 rfl inX11 (by decide) wd_562 ((congrFun xo_0 57).trans rfl), as_getf zTie⟩) (xB_l ⟨_, zs_iload_n em74_38, as_iload⟩))) (xB_n (xB_n (xB_l ⟨_, zs_iconst (v := 0) em74_39 (by decide +kernel), as_const (by decide +kernel)⟩) (xB_l ⟨_, zs_bast zInj0 em74_40, as_bast zTie⟩)) (xB_n (xB_l ⟨_, zs_iinc (k := 1) em74_41 (by decide +kernel), as_iinc (by decide +kernel)⟩) (xB_l ⟨_, zs_goto em74_44 (t := 29) (by decide), as_goto⟩))))))
set_option maxRecDepth 100000 in
set_option maxHeartbeats 4000000 in
theorem zM_79 : zOKa 79 zc_79 := z_auto (cuts := [(29, ([(0, 0), (0, 20), (0, 30), (0, 3)], [], [some (.inr (.inl (0, 0))), some (.inl (3, 0))], [], [(7, 0, 0), (9, 0, 0)], (0, 0)), [(0, 1)], 3, [0, 0, 0, (-1)])]) (rets := [(47, 3)]) (fuel := 1000) rfl rfl (by decide) (xrt_ok (xR_c (Or.inr (Or.inr (Or.inl ⟨rfl, em74_47, rfl⟩))) (xR_n))) (fun _ _ H _ hd => zTo_79 H hd) (by decide +kernel)
theorem em75_0 : decode prog_1_method_25_code 0 = .ok (.iload_n 1, 1) := by decide +kernel
theorem em75_1 : decode prog_1_method_25_code 1 = .ok (.ifCond .lt 8, 3) := by decide +kernel
theorem em75_4 : decode prog_1_method_25_code 4 = .ok (.iload_n 1, 1) := by decide +kernel
theorem em75_5 : decode prog_1_method_25_code 5 = .ok (.iconst 1, 1) := by decide +kernel
theorem em75_6 : decode prog_1_method_25_code 6 = .ok (.if_icmp .le 5, 3) := by decide +kernel
theorem em75_9 : decode prog_1_method_25_code 9 = .ok (.iconst (-1), 1) := by decide +kernel
theorem em75_10 : decode prog_1_method_25_code 10 = .ok (.ireturn, 1) := by decide +kernel
theorem em75_11 : decode prog_1_method_25_code 11 = .ok (.aload_n 0, 1) := by decide +kernel
theorem em75_12 : decode prog_1_method_25_code 12 = .ok (.getfield 89, 3) := by decide +kernel
theorem em75_15 : decode prog_1_method_25_code 15 = .ok (.aload_n 0, 1) := by decide +kernel
theorem em75_16 : decode prog_1_method_25_code 16 = .ok (.getfield 39, 3) := by decide +kernel
theorem em75_19 : decode prog_1_method_25_code 19 = .ok (.invokevirtual 266, 3) := by decide +kernel
theorem em75_22 : decode prog_1_method_25_code 22 = .ok (.iload_n 1, 1) := by decide +kernel
theorem em75_23 : decode prog_1_method_25_code 23 = .ok (.ifCond .ne 13, 3) := by decide +kernel
theorem em75_26 : decode prog_1_method_25_code 26 = .ok (.aload_n 0, 1) := by decide +kernel
theorem em75_27 : decode prog_1_method_25_code 27 = .ok (.getfield 89, 3) := by decide +kernel
theorem em75_30 : decode prog_1_method_25_code 30 = .ok (.getfield 269, 3) := by decide +kernel
theorem em75_33 : decode prog_1_method_25_code 33 = .ok (.goto 10, 3) := by decide +kernel
theorem em75_36 : decode prog_1_method_25_code 36 = .ok (.aload_n 0, 1) := by decide +kernel
theorem em75_37 : decode prog_1_method_25_code 37 = .ok (.getfield 89, 3) := by decide +kernel
theorem em75_40 : decode prog_1_method_25_code 40 = .ok (.getfield 272, 3) := by decide +kernel
theorem em75_43 : decode prog_1_method_25_code 43 = .ok (.ireturn, 1) := by decide +kernel
/-! CapitalCase.best:(I)I -/
noncomputable def zTr_80 : Nat → Option aF := bn 19 (bn 9 (bn 4 (bn 1 (bl 0 (a_iload 1 1)) (bl 1 (a_if 2 9 4))) (bn 5 (bl 4 (a_iload 1 5)) (bn 6 (bl 5 (a_const 1 6)) (bl 6 (a_icmp 5 11 9))))) (bn 12 (bn 11 (bl 9 (a_const (-1) 10)) (bl 11 (a_aload 0 12))) (bn 15 (bl 12 (a_getf zG0 zT0 11 4 15)) (bn 16 (bl 15 (a_aload 0 16)) (bl 16 (a_getf zG0 zT0 11 1 19)))))) (bn 30 (bn 23 (bn 22 (bl 19 (a_invV zG0 zprot (true, false) zc_28 (zbd 28) (22, 0, 0) 3 2 22)) (bl 22 (a_iload 1 23))) (bn 26 (bl 23 (a_if 1 36 26)) (bn 27 (bl 26 (a_aload 0 27)) (bl 27 (a_getf zG0 zT0 11 4 30))))) (bn 36 (bn 33 (bl 30 (a_getf zG0 zT0 3 6 33)) (bl 33 (a_goto 43))) (bn 37 (bl 36 (a_aload 0 37)) (bn 40 (bl 37 (a_getf zG0 zT0 11 4 40)) (bl 40 (a_getf zG0 zT0 3 7 43))))))
set_option maxRecDepth 100000 in
set_option maxHeartbeats 4000000 in
theorem zTo_80 {pre : zPre} {post : zPost} (H : zTieC pre post) {d : Nat × Nat × Nat} (hd : zLe (22, 0, 0) d) : aTr zG0 zT0 zInv (true, false) PZ zbd pre post d prog_1_method_25_code "CapitalCase" zTr_80 := (xB_n (xB_n (xB_n (xB_n (xB_l ⟨_, zs_iload_n em75_0, as_iload⟩) (xB_l ⟨_, zs_iflt em75_1 (t := 9) (by decide), as_if⟩)) (xB_n (xB_l ⟨_, zs_iload_n em75_4, as_iload⟩) (xB_n (xB_l ⟨_, zs_iconst (v := 1) em75_5 (by decide +kernel), as_const (by decide +kernel)⟩) (xB_l ⟨_, zs_icmple em75_6 (t := 11) (by decide), as_icmp⟩)))) (xB_n (xB_n (xB_l ⟨_, zs_iconst (v := (-1)) em75_9 (by decide +kernel), as_const (by decide +kernel)⟩) (xB_l ⟨_, zs_aload_n em75_11, as_aload⟩)) (xB_n (xB_l ⟨_, zs_getf (T := TX11) (M := 16) (ci := 11) (j := 4) em75_12 rfl inX11 (by decide) wd_566 ((congrFun xo_0 89).trans rfl), as_getf zTie⟩) (xB_n (xB_l ⟨_, zs_aload_n em75_15, as_aload⟩) (xB_l ⟨_, zs_getf (T := TX11) (M := 16) (ci := 11) (j := 1) em75_16 rfl inX11 (by decide) wd_558 ((congrFun xo_0 39).trans rfl), as_getf zTie⟩))))) (xB_n (xB_n (xB_n (xB_l ⟨_, zs_invV (T := TX3) em75_19 zl_28 rfl wd_1060 wd_1061 wd_1062 ((congrFun xo_0 266).trans rfl) xm_28, ag_invV H zh_28 hd (by decide)⟩) (xB_l ⟨_, zs_iload_n em75_22, as_iload⟩)) (xB_n (xB_l ⟨_, zs_ifne em75_23 (t := 36) (by decide), as_if⟩) (xB_n (xB_l ⟨_, zs_aload_n em75_26, as_aload⟩) (xB_l ⟨_, zs_getf (T := TX11) (M := 16) (ci := 11) (j := 4) em75_27 rfl inX11 (by decide) wd_566 ((congrFun xo_0 89).trans rfl), as_getf zTie⟩)))) (xB_n (xB_n (xB_l ⟨_, zs_getf (T := TX3) (M := 12) (ci := 3) (j := 6) em75_30 rfl inX3 (by decide) wd_463 ((congrFun xo_0 269).trans rfl), as_getf zTie⟩) (xB_l ⟨_, zs_goto em75_33 (t := 43) (by decide), as_goto⟩)) (xB_n (xB_l ⟨_, zs_aload_n em75_36, as_aload⟩) (xB_n (xB_l ⟨_, zs_getf (T := TX11) (M := 16) (ci := 11) (j := 4) em75_37 rfl inX11 (by decide) wd_566 ((congrFun xo_0 89).trans rfl), as_getf zTie⟩) (xB_l ⟨_, zs_getf (T := TX3) (M := 12) (ci := 3) (j := 7) em75_40 rfl inX3 (by decide) wd_465 ((congrFun xo_0 272).trans rfl), as_getf zTie⟩))))))
set_option maxRecDepth 100000 in
set_option maxHeartbeats 4000000 in
theorem zM_80 : zOKa 80 zc_80 := z_auto (cuts := []) (rets := [(10, 1), (43, 1)]) (fuel := 1000) rfl rfl (by decide) (xrt_ok (xR_c (Or.inl ⟨rfl, em75_10, rfl⟩) (xR_c (Or.inl ⟨rfl, em75_43, rfl⟩) (xR_n)))) (fun _ _ H _ hd => zTo_80 H hd) (by decide +kernel)
theorem em76_0 : decode prog_1_method_32_code 0 = .ok (.aload_n 0, 1) := by decide +kernel
theorem em76_1 : decode prog_1_method_32_code 1 = .ok (.iload_n 1, 1) := by decide +kernel
theorem em76_2 : decode prog_1_method_32_code 2 = .ok (.invokevirtual 175, 3) := by decide +kernel
theorem em76_5 : decode prog_1_method_32_code 5 = .ok (.ifCond .ne 5, 3) := by decide +kernel
theorem em76_8 : decode prog_1_method_32_code 8 = .ok (.iconst (-1), 1) := by decide +kernel
theorem em76_9 : decode prog_1_method_32_code 9 = .ok (.ireturn, 1) := by decide +kernel
theorem em76_10 : decode prog_1_method_32_code 10 = .ok (.aload_n 0, 1) := by decide +kernel
theorem em76_11 : decode prog_1_method_32_code 11 = .ok (.iload_n 1, 1) := by decide +kernel
theorem em76_12 : decode prog_1_method_32_code 12 = .ok (.invokevirtual 214, 3) := by decide +kernel
theorem em76_15 : decode prog_1_method_32_code 15 = .ok (.ifCond .eq 21, 3) := by decide +kernel
theorem em76_18 : decode prog_1_method_32_code 18 = .ok (.aload_n 0, 1) := by decide +kernel
theorem em76_19 : decode prog_1_method_32_code 19 = .ok (.iload_n 1, 1) := by decide +kernel
theorem em76_20 : decode prog_1_method_32_code 20 = .ok (.invokevirtual 217, 3) := by decide +kernel
theorem em76_23 : decode prog_1_method_32_code 23 = .ok (.ifCond .eq 13, 3) := by decide +kernel
theorem em76_26 : decode prog_1_method_32_code 26 = .ok (.aload_n 0, 1) := by decide +kernel
theorem em76_27 : decode prog_1_method_32_code 27 = .ok (.getfield 89, 3) := by decide +kernel
theorem em76_30 : decode prog_1_method_32_code 30 = .ok (.getfield 298, 3) := by decide +kernel
theorem em76_33 : decode prog_1_method_32_code 33 = .ok (.goto 5, 3) := by decide +kernel
theorem em76_36 : decode prog_1_method_32_code 36 = .ok (.bipush (-2), 2) := by decide +kernel
theorem em76_38 : decode prog_1_method_32_code 38 = .ok (.ireturn, 1) := by decide +kernel
/-! CapitalCase.clash:(I)I -/
noncomputable def zTr_81 : Nat → Option aF := bn 18 (bn 8 (bn 2 (bn 1 (bl 0 (a_aload 0 1)) (bl 1 (a_iload 1 2))) (bn 5 (bl 2 (a_invV zG0 zprot (true, false) zc_96 (zbd 96) (22, 0, 0) 11 2 5)) (bl 5 (a_if 1 10 8)))) (bn 11 (bn 10 (bl 8 (a_const (-1) 9)) (bl 10 (a_aload 0 11))) (bn 12 (bl 11 (a_iload 1 12)) (bn 15 (bl 12 (a_invV zG0 zprot (true, false) zc_95 (zbd 95) (22, 0, 0) 11 2 15)) (bl 15 (a_if 0 36 18)))))) (bn 26 (bn 20 (bn 19 (bl 18 (a_aload 0 19)) (bl 19 (a_iload 1 20))) (bn 23 (bl 20 (a_invV zG0 zprot (true, false) zc_83 (zbd 83) (22, 0, 0) 11 2 23)) (bl 23 (a_if 0 36 26)))) (bn 30 (bn 27 (bl 26 (a_aload 0 27)) (bl 27 (a_getf zG0 zT0 11 4 30))) (bn 33 (bl 30 (a_getf zG0 zT0 3 5 33)) (bn 36 (bl 33 (a_goto 38)) (bl 36 (a_const (-2) 38))))))
set_option maxRecDepth 100000 in
set_option maxHeartbeats 4000000 in
theorem zTo_81 {pre : zPre} {post : zPost} (H : zTieC pre post) {d : Nat × Nat × Nat} (hd : zLe (22, 0, 0) d) : aTr zG0 zT0 zInv (true, false) PZ zbd pre post d prog_1_method_32_code "CapitalCase" zTr_81 := (xB_n (xB_n (xB_n (xB_n (xB_l ⟨_, zs_aload_n em76_0, as_aload⟩) (xB_l ⟨_, zs_iload_n em76_1, as_iload⟩)) (xB_n (xB_l ⟨_, zs_invV (T := TX11) em76_2 zl_96 rfl wd_894 wd_896 wd_23 ((congrFun xo_0 175).trans rfl) xm_91, ag_invV H zh_96 hd (by decide)⟩) (xB_l ⟨_, zs_ifne em76_5 (t := 10) (by decide), as_if⟩))) (xB_n (xB_n (xB_l ⟨_, zs_iconst (v := (-1)) em76_8 (by decide +kernel), as_const (by decide +kernel)⟩) (xB_l ⟨_, zs_aload_n em76_10, as_aload⟩)) (xB_n (xB_l ⟨_, zs_iload_n em76_11, as_iload⟩) (xB_n (xB_l ⟨_, zs_invV (T := TX11) em76_12 zl_95 rfl wd_931 wd_933 wd_26 ((congrFun xo_0 214).trans rfl) xm_90, ag_invV H zh_95 hd (by decide)⟩) (xB_l ⟨_, zs_ifeq em76_15 (t := 36) (by decide), as_if⟩))))) (xB_n (xB_n (xB_n (xB_l ⟨_, zs_aload_n em76_18, as_aload⟩) (xB_l ⟨_, zs_iload_n em76_19, as_iload⟩)) (xB_n (xB_l ⟨_, zs_invV (T := TX11) em76_20 zl_83 rfl wd_939 wd_941 wd_27 ((congrFun xo_0 217).trans rfl) xm_78, ag_invV H zh_83 hd (by decide)⟩) (xB_l ⟨_, zs_ifeq em76_23 (t := 36) (by decide), as_if⟩))) (xB_n (xB_n (xB_l ⟨_, zs_aload_n em76_26, as_aload⟩) (xB_l ⟨_, zs_getf (T := TX11) (M := 16) (ci := 11) (j := 4) em76_27 rfl inX11 (by decide) wd_566 ((congrFun xo_0 89).trans rfl), as_getf zTie⟩)) (xB_n (xB_l ⟨_, zs_getf (T := TX3) (M := 12) (ci := 3) (j := 5) em76_30 rfl inX3 (by decide) wd_460 ((congrFun xo_0 298).trans rfl), as_getf zTie⟩) (xB_n (xB_l ⟨_, zs_goto em76_33 (t := 38) (by decide), as_goto⟩) (xB_l ⟨_, zs_bipush (v := (-2)) em76_36 (by decide +kernel), as_const (by decide +kernel)⟩))))))
set_option maxRecDepth 100000 in
set_option maxHeartbeats 4000000 in
theorem zM_81 : zOKa 81 zc_81 := z_auto (cuts := []) (rets := [(9, 1), (38, 1)]) (fuel := 1000) rfl rfl (by decide) (xrt_ok (xR_c (Or.inl ⟨rfl, em76_9, rfl⟩) (xR_c (Or.inl ⟨rfl, em76_38, rfl⟩) (xR_n)))) (fun _ _ H _ hd => zTo_81 H hd) (by decide +kernel)
theorem em77_0 : decode prog_1_method_19_code 0 = .ok (.aload_n 0, 1) := by decide +kernel
theorem em77_1 : decode prog_1_method_19_code 1 = .ok (.iload_n 1, 1) := by decide +kernel
theorem em77_2 : decode prog_1_method_19_code 2 = .ok (.invokevirtual 175, 3) := by decide +kernel
theorem em77_5 : decode prog_1_method_19_code 5 = .ok (.ifCond .eq 17, 3) := by decide +kernel
theorem em77_8 : decode prog_1_method_19_code 8 = .ok (.aload_n 0, 1) := by decide +kernel
theorem em77_9 : decode prog_1_method_19_code 9 = .ok (.getfield 39, 3) := by decide +kernel
theorem em77_12 : decode prog_1_method_19_code 12 = .ok (.getfield 196, 3) := by decide +kernel
theorem em77_15 : decode prog_1_method_19_code 15 = .ok (.iload_n 1, 1) := by decide +kernel
theorem em77_16 : decode prog_1_method_19_code 16 = .ok (.ishr, 1) := by decide +kernel
theorem em77_17 : decode prog_1_method_19_code 17 = .ok (.iconst 1, 1) := by decide +kernel
theorem em77_18 : decode prog_1_method_19_code 18 = .ok (.iand, 1) := by decide +kernel
theorem em77_19 : decode prog_1_method_19_code 19 = .ok (.ifCond .ne 5, 3) := by decide +kernel
theorem em77_22 : decode prog_1_method_19_code 22 = .ok (.iconst 0, 1) := by decide +kernel
theorem em77_23 : decode prog_1_method_19_code 23 = .ok (.ireturn, 1) := by decide +kernel
theorem em77_24 : decode prog_1_method_19_code 24 = .ok (.aload_n 0, 1) := by decide +kernel
theorem em77_25 : decode prog_1_method_19_code 25 = .ok (.getfield 49, 3) := by decide +kernel
theorem em77_28 : decode prog_1_method_19_code 28 = .ok (.aload_n 0, 1) := by decide +kernel
theorem em77_29 : decode prog_1_method_19_code 29 = .ok (.getfield 39, 3) := by decide +kernel
theorem em77_32 : decode prog_1_method_19_code 32 = .ok (.invokevirtual 220, 3) := by decide +kernel
theorem em77_35 : decode prog_1_method_19_code 35 = .ok (.aload_n 0, 1) := by decide +kernel
theorem em77_36 : decode prog_1_method_19_code 36 = .ok (.getfield 39, 3) := by decide +kernel
theorem em77_39 : decode prog_1_method_19_code 39 = .ok (.aload_n 0, 1) := by decide +kernel
theorem em77_40 : decode prog_1_method_19_code 40 = .ok (.getfield 23, 3) := by decide +kernel
theorem em77_43 : decode prog_1_method_19_code 43 = .ok (.iload_n 1, 1) := by decide +kernel
theorem em77_44 : decode prog_1_method_19_code 44 = .ok (.invokevirtual 238, 3) := by decide +kernel
theorem em77_47 : decode prog_1_method_19_code 47 = .ok (.iconst 1, 1) := by decide +kernel
theorem em77_48 : decode prog_1_method_19_code 48 = .ok (.ireturn, 1) := by decide +kernel
/-! CapitalCase.clear:(I)Z -/
noncomputable def zTr_82 : Nat → Option aF := bn 22 (bn 12 (bn 5 (bn 1 (bl 0 (a_aload 0 1)) (bn 2 (bl 1 (a_iload 1 2)) (bl 2 (a_invV zG0 zprot (true, false) zc_96 (zbd 96) (8, 6, 396) 11 2 5)))) (bn 8 (bl 5 (a_if 0 22 8)) (bn 9 (bl 8 (a_aload 0 9)) (bl 9 (a_getf zG0 zT0 11 1 12))))) (bn 17 (bn 15 (bl 12 (a_getf zG0 zT0 8 5 15)) (bn 16 (bl 15 (a_iload 1 16)) (bl 16 (a_bin fany 17)))) (bn 18 (bl 17 (a_const 1 18)) (bn 19 (bl 18 (a_bin fand 19)) (bl 19 (a_if 1 24 22)))))) (bn 35 (bn 28 (bn 24 (bl 22 (a_const 0 23)) (bn 25 (bl 24 (a_aload 0 25)) (bl 25 (a_getf zG0 zT0 11 8 28)))) (bn 29 (bl 28 (a_aload 0 29)) (bn 32 (bl 29 (a_getf zG0 zT0 11 1 32)) (bl 32 (a_invV zG0 zprot (true, false) zc_0 (zbd 0) (8, 6, 396) 0 2 35))))) (bn 40 (bn 36 (bl 35 (a_aload 0 36)) (bn 39 (bl 36 (a_getf zG0 zT0 11 1 39)) (bl 39 (a_aload 0 40)))) (bn 44 (bn 43 (bl 40 (a_getf zG0 zT0 11 0 43)) (bl 43 (a_iload 1 44))) (bn 47 (bl 44 (a_invV zG0 zprot (true, false) zc_59 (zbd 59) (8, 6, 396) 8 3 47)) (bl 47 (a_const 1 48))))))
set_option maxRecDepth 100000 in
set_option maxHeartbeats 4000000 in
theorem zTo_82 {pre : zPre} {post : zPost} (H : zTieC pre post) {d : Nat × Nat × Nat} (hd : zLe (8, 6, 396) d) : aTr zG0 zT0 zInv (true, false) PZ zbd pre post d prog_1_method_19_code "CapitalCase" zTr_82 := (xB_n (xB_n (xB_n (xB_n (xB_l ⟨_, zs_aload_n em77_0, as_aload⟩) (xB_n (xB_l ⟨_, zs_iload_n em77_1, as_iload⟩) (xB_l ⟨_, zs_invV (T := TX11) em77_2 zl_96 rfl wd_894 wd_896 wd_23 ((congrFun xo_0 175).trans rfl) xm_91, ag_invV H zh_96 hd (by decide)⟩))) (xB_n (xB_l ⟨_, zs_ifeq em77_5 (t := 22) (by decide), as_if⟩) (xB_n (xB_l ⟨_, zs_aload_n em77_8, as_aload⟩) (xB_l ⟨_, zs_getf (T := TX11) (M := 16) (ci := 11) (j := 1) em77_9 rfl inX11 (by decide) wd_558 ((congrFun xo_0 39).trans rfl), as_getf zTie⟩)))) (xB_n (xB_n (xB_l ⟨_, zs_getf (T := TX8) (M := 10) (ci := 8) (j := 5) em77_12 rfl inX8 (by decide) wd_340 ((congrFun xo_0 196).trans rfl), as_getf zTie⟩) (xB_n (xB_l ⟨_, zs_iload_n em77_15, as_iload⟩) (xB_l ⟨_, zs_ishr em77_16, as_bin fany_ok⟩))) (xB_n (xB_l ⟨_, zs_iconst (v := 1) em77_17 (by decide +kernel), as_const (by decide +kernel)⟩) (xB_n (xB_l ⟨_, zs_iand em77_18, as_bin fand_ok⟩) (xB_l ⟨_, zs_ifne em77_19 (t := 24) (by decide), as_if⟩))))) (xB_n (xB_n (xB_n (xB_l ⟨_, zs_iconst (v := 0) em77_22 (by decide +kernel), as_const (by decide +kernel)⟩) (xB_n (xB_l ⟨_, zs_aload_n em77_24, as_aload⟩) (xB_l ⟨_, zs_getf (T := TX11) (M := 16) (ci := 11) (j := 8) em77_25 rfl inX11 (by decide) wd_560 ((congrFun xo_0 49).trans rfl), as_getf zTie⟩))) (xB_n (xB_l ⟨_, zs_aload_n em77_28, as_aload⟩) (xB_n (xB_l ⟨_, zs_getf (T := TX11) (M := 16) (ci := 11) (j := 1) em77_29 rfl inX11 (by decide) wd_558 ((congrFun xo_0 39).trans rfl), as_getf zTie⟩) (xB_l ⟨_, zs_invV (T := TX0) em77_32 zl_0 rfl wd_967 wd_968 wd_969 ((congrFun xo_0 220).trans rfl) xm_0, ag_invV H zh_0 hd (by decide)⟩)))) (xB_n (xB_n (xB_l ⟨_, zs_aload_n em77_35, as_aload⟩) (xB_n (xB_l ⟨_, zs_getf (T := TX11) (M := 16) (ci := 11) (j := 1) em77_36 rfl inX11 (by decide) wd_558 ((congrFun xo_0 39).trans rfl), as_getf zTie⟩) (xB_l ⟨_, zs_aload_n em77_39, as_aload⟩))) (xB_n (xB_n (xB_l ⟨_, zs_getf (T := TX11) (M := 16) (ci := 11) (j := 0) em77_40 rfl inX11 (by decide) wd_556 ((congrFun xo_0 23).trans rfl), as_getf zTie⟩) (xB_l ⟨_, zs_iload_n em77_43, as_iload⟩)) (xB_n (xB_l ⟨_, zs_invV (T := TX8) em77_44 zl_59 rfl wd_985 wd_986 wd_987 ((congrFun xo_0 238).trans rfl) xm_55, ag_invV H zh_59 hd (by decide)⟩) (xB_l ⟨_, zs_iconst (v := 1) em77_47 (by decide +kernel), as_const (by decide +kernel)⟩))))))
set_option maxRecDepth 100000 in
set_option maxHeartbeats 4000000 in
theorem zM_82 : zOKa 82 zc_82 := z_auto (cuts := []) (rets := [(23, 2), (48, 2)]) (fuel := 1000) rfl rfl (by decide) (xrt_ok (xR_c (Or.inr (Or.inl ⟨rfl, em77_23, rfl⟩)) (xR_c (Or.inr (Or.inl ⟨rfl, em77_48, rfl⟩)) (xR_n)))) (fun _ _ H _ hd => zTo_82 H hd) (by decide +kernel)
theorem em78_0 : decode prog_1_method_18_code 0 = .ok (.aload_n 0, 1) := by decide +kernel
theorem em78_1 : decode prog_1_method_18_code 1 = .ok (.getfield 89, 3) := by decide +kernel
theorem em78_4 : decode prog_1_method_18_code 4 = .ok (.aload_n 0, 1) := by decide +kernel
theorem em78_5 : decode prog_1_method_18_code 5 = .ok (.getfield 39, 3) := by decide +kernel
theorem em78_8 : decode prog_1_method_18_code 8 = .ok (.iconst 1, 1) := by decide +kernel
theorem em78_9 : decode prog_1_method_18_code 9 = .ok (.iload_n 1, 1) := by decide +kernel
theorem em78_10 : decode prog_1_method_18_code 10 = .ok (.ishl, 1) := by decide +kernel
theorem em78_11 : decode prog_1_method_18_code 11 = .ok (.invokevirtual 231, 3) := by decide +kernel
theorem em78_14 : decode prog_1_method_18_code 14 = .ok (.aload_n 0, 1) := by decide +kernel
theorem em78_15 : decode prog_1_method_18_code 15 = .ok (.getfield 89, 3) := by decide +kernel
theorem em78_18 : decode prog_1_method_18_code 18 = .ok (.iload_n 1, 1) := by decide +kernel
theorem em78_19 : decode prog_1_method_18_code 19 = .ok (.invokevirtual 235, 3) := by decide +kernel
theorem em78_22 : decode prog_1_method_18_code 22 = .ok (.ireturn, 1) := by decide +kernel
/-! CapitalCase.couldBeSet:(I)Z -/
noncomputable def zTr_83 : Nat → Option aF := bn 10 (bn 5 (bn 1 (bl 0 (a_aload 0 1)) (bn 4 (bl 1 (a_getf zG0 zT0 11 4 4)) (bl 4 (a_aload 0 5)))) (bn 8 (bl 5 (a_getf zG0 zT0 11 1 8)) (bn 9 (bl 8 (a_const 1 9)) (bl 9 (a_iload 1 10))))) (bn 15 (bn 11 (bl 10 (a_bin fshl 11)) (bn 14 (bl 11 (a_invV zG0 zprot (true, false) zc_26 (zbd 26) (21, 0, 0) 3 3 14)) (bl 14 (a_aload 0 15)))) (bn 18 (bl 15 (a_getf zG0 zT0 11 4 18)) (bn 19 (bl 18 (a_iload 1 19)) (bl 19 (a_invV zG0 zprot (true, false) zc_30 (zbd 30) (21, 0, 0) 3 2 22)))))
set_option maxRecDepth 100000 in
set_option maxHeartbeats 4000000 in
theorem zTo_83 {pre : zPre} {post : zPost} (H : zTieC pre post) {d : Nat × Nat × Nat} (hd : zLe (21, 0, 0) d) : aTr zG0 zT0 zInv (true, false) PZ zbd pre post d prog_1_method_18_code "CapitalCase" zTr_83 := (xB_n (xB_n (xB_n (xB_l ⟨_, zs_aload_n em78_0, as_aload⟩) (xB_n (xB_l ⟨_, zs_getf (T := TX11) (M := 16) (ci := 11) (j := 4) em78_1 rfl inX11 (by decide) wd_566 ((congrFun xo_0 89).trans rfl), as_getf zTie⟩) (xB_l ⟨_, zs_aload_n em78_4, as_aload⟩))) (xB_n (xB_l ⟨_, zs_getf (T := TX11) (M := 16) (ci := 11) (j := 1) em78_5 rfl inX11 (by decide) wd_558 ((congrFun xo_0 39).trans rfl), as_getf zTie⟩) (xB_n (xB_l ⟨_, zs_iconst (v := 1) em78_8 (by decide +kernel), as_const (by decide +kernel)⟩) (xB_l ⟨_, zs_iload_n em78_9, as_iload⟩)))) (xB_n (xB_n (xB_l ⟨_, zs_ishl em78_10, as_bin fshl_ok⟩) (xB_n (xB_l ⟨_, zs_invV (T := TX3) em78_11 zl_26 rfl wd_943 wd_944 wd_945 ((congrFun xo_0 231).trans rfl) xm_26, ag_invV H zh_26 hd (by decide)⟩) (xB_l ⟨_, zs_aload_n em78_14, as_aload⟩))) (xB_n (xB_l ⟨_, zs_getf (T := TX11) (M := 16) (ci := 11) (j := 4) em78_15 rfl inX11 (by decide) wd_566 ((congrFun xo_0 89).trans rfl), as_getf zTie⟩) (xB_n (xB_l ⟨_, zs_iload_n em78_18, as_iload⟩) (xB_l ⟨_, zs_invV (T := TX3) em78_19 zl_30 rfl wd_955 wd_956 wd_957 ((congrFun xo_0 235).trans rfl) xm_30, ag_invV H zh_30 hd (by decide)⟩)))))
set_option maxRecDepth 100000 in
set_option maxHeartbeats 4000000 in
theorem zM_83 : zOKa 83 zc_83 := z_auto (cuts := []) (rets := [(22, 2)]) (fuel := 1000) rfl rfl (by decide) (xrt_ok (xR_c (Or.inr (Or.inl ⟨rfl, em78_22, rfl⟩)) (xR_n))) (fun _ _ H _ hd => zTo_83 H hd) (by decide +kernel)
theorem em79_0 : decode prog_1_method_44_code 0 = .ok (.iload_n 1, 1) := by decide +kernel
theorem em79_1 : decode prog_1_method_44_code 1 = .ok (.tableswitch 229 0 15 #[79, 87, 95, 103, 111, 119, 127, 138, 149, 157, 162, 170, 178, 183, 213, 218], 79) := by decide +kernel
theorem em79_80 : decode prog_1_method_44_code 80 = .ok (.aload_n 0, 1) := by decide +kernel
theorem em79_81 : decode prog_1_method_44_code 81 = .ok (.getfield 23, 3) := by decide +kernel
theorem em79_84 : decode prog_1_method_44_code 84 = .ok (.getfield 134, 3) := by decide +kernel
theorem em79_87 : decode prog_1_method_44_code 87 = .ok (.ireturn, 1) := by decide +kernel
theorem em79_88 : decode prog_1_method_44_code 88 = .ok (.aload_n 0, 1) := by decide +kernel
theorem em79_89 : decode prog_1_method_44_code 89 = .ok (.getfield 23, 3) := by decide +kernel
theorem em79_92 : decode prog_1_method_44_code 92 = .ok (.getfield 141, 3) := by decide +kernel
theorem em79_95 : decode prog_1_method_44_code 95 = .ok (.ireturn, 1) := by decide +kernel
theorem em79_96 : decode prog_1_method_44_code 96 = .ok (.aload_n 0, 1) := by decide +kernel
theorem em79_97 : decode prog_1_method_44_code 97 = .ok (.getfield 39, 3) := by decide +kernel
theorem em79_100 : decode prog_1_method_44_code 100 = .ok (.getfield 190, 3) := by decide +kernel
theorem em79_103 : decode prog_1_method_44_code 103 = .ok (.ireturn, 1) := by decide +kernel
theorem em79_104 : decode prog_1_method_44_code 104 = .ok (.aload_n 0, 1) := by decide +kernel
theorem em79_105 : decode prog_1_method_44_code 105 = .ok (.getfield 39, 3) := by decide +kernel
theorem em79_108 : decode prog_1_method_44_code 108 = .ok (.getfield 304, 3) := by decide +kernel
theorem em79_111 : decode prog_1_method_44_code 111 = .ok (.ireturn, 1) := by decide +kernel
theorem em79_112 : decode prog_1_method_44_code 112 = .ok (.aload_n 0, 1) := by decide +kernel
theorem em79_113 : decode prog_1_method_44_code 113 = .ok (.getfield 39, 3) := by decide +kernel
theorem em79_116 : decode prog_1_method_44_code 116 = .ok (.getfield 196, 3) := by decide +kernel
theorem em79_119 : decode prog_1_method_44_code 119 = .ok (.ireturn, 1) := by decide +kernel
theorem em79_120 : decode prog_1_method_44_code 120 = .ok (.aload_n 0, 1) := by decide +kernel
theorem em79_121 : decode prog_1_method_44_code 121 = .ok (.getfield 39, 3) := by decide +kernel
theorem em79_124 : decode prog_1_method_44_code 124 = .ok (.getfield 199, 3) := by decide +kernel
theorem em79_127 : decode prog_1_method_44_code 127 = .ok (.ireturn, 1) := by decide +kernel
theorem em79_128 : decode prog_1_method_44_code 128 = .ok (.aload_n 0, 1) := by decide +kernel
theorem em79_129 : decode prog_1_method_44_code 129 = .ok (.getfield 39, 3) := by decide +kernel
theorem em79_132 : decode prog_1_method_44_code 132 = .ok (.getfield 151, 3) := by decide +kernel
theorem em79_135 : decode prog_1_method_44_code 135 = .ok (.invokestatic 322, 3) := by decide +kernel
theorem em79_138 : decode prog_1_method_44_code 138 = .ok (.ireturn, 1) := by decide +kernel
theorem em79_139 : decode prog_1_method_44_code 139 = .ok (.aload_n 0, 1) := by decide +kernel
theorem em79_140 : decode prog_1_method_44_code 140 = .ok (.getfield 39, 3) := by decide +kernel
theorem em79_143 : decode prog_1_method_44_code 143 = .ok (.getfield 155, 3) := by decide +kernel
theorem em79_146 : decode prog_1_method_44_code 146 = .ok (.invokestatic 322, 3) := by decide +kernel
theorem em79_149 : decode prog_1_method_44_code 149 = .ok (.ireturn, 1) := by decide +kernel
theorem em79_150 : decode prog_1_method_44_code 150 = .ok (.aload_n 0, 1) := by decide +kernel
theorem em79_151 : decode prog_1_method_44_code 151 = .ok (.getfield 39, 3) := by decide +kernel
theorem em79_154 : decode prog_1_method_44_code 154 = .ok (.getfield 326, 3) := by decide +kernel
theorem em79_157 : decode prog_1_method_44_code 157 = .ok (.ireturn, 1) := by decide +kernel
theorem em79_158 : decode prog_1_method_44_code 158 = .ok (.aload_n 0, 1) := by decide +kernel
theorem em79_159 : decode prog_1_method_44_code 159 = .ok (.getfield 13, 3) := by decide +kernel
theorem em79_162 : decode prog_1_method_44_code 162 = .ok (.ireturn, 1) := by decide +kernel
theorem em79_163 : decode prog_1_method_44_code 163 = .ok (.aload_n 0, 1) := by decide +kernel
theorem em79_164 : decode prog_1_method_44_code 164 = .ok (.getfield 49, 3) := by decide +kernel
theorem em79_167 : decode prog_1_method_44_code 167 = .ok (.getfield 130, 3) := by decide +kernel
theorem em79_170 : decode prog_1_method_44_code 170 = .ok (.ireturn, 1) := by decide +kernel
theorem em79_171 : decode prog_1_method_44_code 171 = .ok (.aload_n 0, 1) := by decide +kernel
theorem em79_172 : decode prog_1_method_44_code 172 = .ok (.getfield 64, 3) := by decide +kernel
theorem em79_175 : decode prog_1_method_44_code 175 = .ok (.getfield 133, 3) := by decide +kernel
theorem em79_178 : decode prog_1_method_44_code 178 = .ok (.ireturn, 1) := by decide +kernel
theorem em79_179 : decode prog_1_method_44_code 179 = .ok (.aload_n 0, 1) := by decide +kernel
theorem em79_180 : decode prog_1_method_44_code 180 = .ok (.invokevirtual 329, 3) := by decide +kernel
theorem em79_183 : decode prog_1_method_44_code 183 = .ok (.ireturn, 1) := by decide +kernel
theorem em79_184 : decode prog_1_method_44_code 184 = .ok (.aload_n 0, 1) := by decide +kernel
theorem em79_185 : decode prog_1_method_44_code 185 = .ok (.getfield 82, 3) := by decide +kernel
theorem em79_188 : decode prog_1_method_44_code 188 = .ok (.aload_n 0, 1) := by decide +kernel
theorem em79_189 : decode prog_1_method_44_code 189 = .ok (.getfield 23, 3) := by decide +kernel
theorem em79_192 : decode prog_1_method_44_code 192 = .ok (.getfield 249, 3) := by decide +kernel
theorem em79_195 : decode prog_1_method_44_code 195 = .ok (.aload_n 0, 1) := by decide +kernel
theorem em79_196 : decode prog_1_method_44_code 196 = .ok (.getfield 39, 3) := by decide +kernel
theorem em79_199 : decode prog_1_method_44_code 199 = .ok (.getfield 190, 3) := by decide +kernel
theorem em79_202 : decode prog_1_method_44_code 202 = .ok (.invokevirtual 333, 3) := by decide +kernel
theorem em79_205 : decode prog_1_method_44_code 205 = .ok (.ifCond .eq 7, 3) := by decide +kernel
theorem em79_208 : decode prog_1_method_44_code 208 = .ok (.iconst 1, 1) := by decide +kernel
theorem em79_209 : decode prog_1_method_44_code 209 = .ok (.goto 4, 3) := by decide +kernel
theorem em79_212 : decode prog_1_method_44_code 212 = .ok (.iconst 0, 1) := by decide +kernel
theorem em79_213 : decode prog_1_method_44_code 213 = .ok (.ireturn, 1) := by decide +kernel
theorem em79_214 : decode prog_1_method_44_code 214 = .ok (.aload_n 0, 1) := by decide +kernel
theorem em79_215 : decode prog_1_method_44_code 215 = .ok (.invokevirtual 336, 3) := by decide +kernel
theorem em79_218 : decode prog_1_method_44_code 218 = .ok (.ireturn, 1) := by decide +kernel
theorem em79_219 : decode prog_1_method_44_code 219 = .ok (.aload_n 0, 1) := by decide +kernel
theorem em79_220 : decode prog_1_method_44_code 220 = .ok (.getfield 39, 3) := by decide +kernel
theorem em79_223 : decode prog_1_method_44_code 223 = .ok (.getfield 246, 3) := by decide +kernel
theorem em79_226 : decode prog_1_method_44_code 226 = .ok (.invokestatic 322, 3) := by decide +kernel
theorem em79_229 : decode prog_1_method_44_code 229 = .ok (.ireturn, 1) := by decide +kernel
theorem em79_230 : decode prog_1_method_44_code 230 = .ok (.iconst (-1), 1) := by decide +kernel
theorem em79_231 : decode prog_1_method_44_code 231 = .ok (.ireturn, 1) := by decide +kernel
/-! CapitalCase.count:(I)I -/
noncomputable def zTr_84 : Nat → Option aF := bn 154 (bn 113 (bn 92 (bn 81 (bn 1 (bl 0 (a_iload 1 1)) (bn 80 (bl 1 (a_tsw 0 [80, 88, 96, 104, 112, 120, 128, 139, 150, 158, 163, 171, 179, 184, 214, 219] 230)) (bl 80 (a_aload 0 81)))) (bn 88 (bn 84 (bl 81 (a_getf zG0 zT0 11 0 84)) (bl 84 (a_getf zG0 zT0 6 0 87))) (bn 89 (bl 88 (a_aload 0 89)) (bl 89 (a_getf zG0 zT0 11 0 92))))) (bn 104 (bn 97 (bn 96 (bl 92 (a_getf zG0 zT0 6 1 95)) (bl 96 (a_aload 0 97))) (bn 100 (bl 97 (a_getf zG0 zT0 11 1 100)) (bl 100 (a_getf zG0 zT0 8 7 103)))) (bn 108 (bn 105 (bl 104 (a_aload 0 105)) (bl 105 (a_getf zG0 zT0 11 1 108))) (bn 112 (bl 108 (a_getf zG0 zT0 8 8 111)) (bl 112 (a_aload 0 113)))))) (bn 132 (bn 121 (bn 116 (bl 113 (a_getf zG0 zT0 11 1 116)) (bn 120 (bl 116 (a_getf zG0 zT0 8 5 119)) (bl 120 (a_aload 0 121)))) (bn 128 (bn 124 (bl 121 (a_getf zG0 zT0 11 1 124)) (bl 124 (a_getf zG0 zT0 8 6 127))) (bn 129 (bl 128 (a_aload 0 129)) (bl 129 (a_getf zG0 zT0 11 1 132))))) (bn 143 (bn 139 (bn 135 (bl 132 (a_getf zG0 zT0 8 0 135)) (bl 135 (a_inv zG0 zprot (true, false) zc_109 (zbd 109) (23, 0, 0) 1 138))) (bn 140 (bl 139 (a_aload 0 140)) (bl 140 (a_getf zG0 zT0 11 1 143)))) (bn 150 (bn 146 (bl 143 (a_getf zG0 zT0 8 1 146)) (bl 146 (a_inv zG0 zprot (true, false) zc_110 (zbd 110) (23, 0, 0) 1 149))) (bn 151 (bl 150 (a_aload 0 151)) (bl 151 (a_getf zG0 zT0 11 1 154))))))) (bn 192 (bn 172 (bn 163 (bn 158 (bl 154 (a_getf zG0 zT0 8 9 157)) (bn 159 (bl 158 (a_aload 0 159)) (bl 159 (a_getf zG0 zT0 11 6 162)))) (bn 167 (bn 164 (bl 163 (a_aload 0 164)) (bl 164 (a_getf zG0 zT0 11 8 167))) (bn 171 (bl 167 (a_getf zG0 zT0 0 2 170)) (bl 171 (a_aload 0 172))))) (bn 184 (bn 179 (bn 175 (bl 172 (a_getf zG0 zT0 11 13 175)) (bl 175 (a_getf zG0 zT0 5 3 178))) (bn 180 (bl 179 (a_aload 0 180)) (bl 180 (a_invV zG0 zprot (true, false) zc_90 (zbd 90) (23, 0, 0) 11 1 183)))) (bn 188 (bn 185 (bl 184 (a_aload 0 185)) (bl 185 (a_getf zG0 zT0 11 3 188))) (bn 189 (bl 188 (a_aload 0 189)) (bl 189 (a_getf zG0 zT0 11 0 192)))))) (bn 212 (bn 202 (bn 196 (bn 195 (bl 192 (a_getf zG0 zT0 6 3 195)) (bl 195 (a_aload 0 196))) (bn 199 (bl 196 (a_getf zG0 zT0 11 1 199)) (bl 199 (a_getf zG0 zT0 8 7 202)))) (bn 208 (bn 205 (bl 202 (a_invV zG0 zprot (true, false) zc_38 (zbd 38) (23, 0, 0) 4 3 205)) (bl 205 (a_if 0 212 208))) (bn 209 (bl 208 (a_const 1 209)) (bl 209 (a_goto 213))))) (bn 220 (bn 215 (bn 214 (bl 212 (a_const 0 213)) (bl 214 (a_aload 0 215))) (bn 219 (bl 215 (a_invV zG0 zprot (true, false) zc_106 (zbd 106) (23, 0, 0) 11 1 218)) (bl 219 (a_aload 0 220)))) (bn 226 (bn 223 (bl 220 (a_getf zG0 zT0 11 1 223)) (bl 223 (a_getf zG0 zT0 8 3 226))) (bn 230 (bl 226 (a_inv zG0 zprot (true, false) zc_111 (zbd 111) (23, 0, 0) 1 229)) (bl 230 (a_const (-1) 231)))))))
set_option maxRecDepth 100000 in
set_option maxHeartbeats 4000000 in
theorem zTo_84 {pre : zPre} {post : zPost} (H : zTieC pre post) {d : Nat × Nat × Nat} (hd : zLe (23, 0, 0) d) : aTr zG0 zT0 zInv (true, false) PZ zbd pre post d prog_1_method_44_code "CapitalCase" zTr_84 := (xB_n (xB_n (xB_n (xB_n (xB_n (xB_l ⟨_, zs_iload_n em79_0, as_iload⟩) (xB_n (xB_l ⟨_, zs_tsw (ts := [80, 88, 96, 104, 112, 120, 128, 139, 150, 158, 163, 171, 179, 184, 214, 219]) (df := 230) em79_1 (by decide +kernel) (by decide +kernel) (ztsw (by decide +kernel) (by decide +kernel)), as_tsw⟩) (xB_l ⟨_, zs_aload_n em79_80, as_aload⟩))) (xB_n (xB_n (xB_l ⟨_, zs_getf (T := TX11) (M := 16) (ci := 11) (j := 0) em79_81 rfl inX11 (by decide) wd_556 ((congrFun xo_0 23).trans rfl), as_getf zTie⟩) (xB_l ⟨_, zs_getf (T := TX6) (M := 15) (ci := 6) (j := 0) em79_84 rfl inX6 (by decide) wd_167 ((congrFun xo_0 134).trans rfl), as_getf zTie⟩)) (xB_n (xB_l ⟨_, zs_aload_n em79_88, as_aload⟩) (xB_l ⟨_, zs_getf (T := TX11) (M := 16) (ci := 11) (j := 0) em79_89 rfl inX11 (by decide) wd_556 ((congrFun xo_0 23).trans rfl), as_getf zTie⟩)))) (xB_n (xB_n (xB_n (xB_l ⟨_, zs_getf (T := TX6) (M := 15) (ci := 6) (j := 1) em79_92 rfl inX6 (by decide) wd_174 ((congrFun xo_0 141).trans rfl), as_getf zTie⟩) (xB_l ⟨_, zs_aload_n em79_96, as_aload⟩)) (xB_n (xB_l ⟨_, zs_getf (T := TX11) (M := 16) (ci := 11) (j := 1) em79_97 rfl inX11 (by decide) wd_558 ((congrFun xo_0 39).trans rfl), as_getf zTie⟩) (xB_l ⟨_, zs_getf (T := TX8) (M := 10) (ci := 8) (j := 7) em79_100 rfl inX8 (by decide) wd_349 ((congrFun xo_0 190).trans rfl), as_getf zTie⟩))) (xB_n (xB_n (xB_l ⟨_, zs_aload_n em79_104, as_aload⟩) (xB_l ⟨_, zs_getf (T := TX11) (M := 16) (ci := 11) (j := 1) em79_105 rfl inX11 (by decide) wd_558 ((congrFun xo_0 39).trans rfl), as_getf zTie⟩)) (xB_n (xB_l ⟨_, zs_getf (T := TX8) (M := 10) (ci := 8) (j := 8) em79_108 rfl inX8 (by decide) wd_352 ((congrFun xo_0 304).trans rfl), as_getf zTie⟩) (xB_l ⟨_, zs_aload_n em79_112, as_aload⟩))))) (xB_n (xB_n (xB_n (xB_l ⟨_, zs_getf (T := TX11) (M := 16) (ci := 11) (j := 1) em79_113 rfl inX11 (by decide) wd_558 ((congrFun xo_0 39).trans rfl), as_getf zTie⟩) (xB_n (xB_l ⟨_, zs_getf (T := TX8) (M := 10) (ci := 8) (j := 5) em79_116 rfl inX8 (by decide) wd_340 ((congrFun xo_0 196).trans rfl), as_getf zTie⟩) (xB_l ⟨_, zs_aload_n em79_120, as_aload⟩))) (xB_n (xB_n (xB_l ⟨_, zs_getf (T := TX11) (M := 16) (ci := 11) (j := 1) em79_121 rfl inX11 (by decide) wd_558 ((congrFun xo_0 39).trans rfl), as_getf zTie⟩) (xB_l ⟨_, zs_getf (T := TX8) (M := 10) (ci := 8) (j := 6) em79_124 rfl inX8 (by decide) wd_343 ((congrFun xo_0 199).trans rfl), as_getf zTie⟩)) (xB_n (xB_l ⟨_, zs_aload_n em79_128, as_aload⟩) (xB_l ⟨_, zs_getf (T := TX11) (M := 16) (ci := 11) (j := 1) em79_129 rfl inX11 (by decide) wd_558 ((congrFun xo_0 39).trans rfl), as_getf zTie⟩)))) (xB_n (xB_n (xB_n (xB_l ⟨_, zs_getf (T := TX8) (M := 10) (ci := 8) (j := 0) em79_132 rfl inX8 (by decide) wd_324 ((congrFun xo_0 151).trans rfl), as_getf zTie⟩) (xB_l ⟨_, zs_invS em79_135 zl_109 wd_1245 wd_1246 ((congrFun xo_0 322).trans rfl) xm_104, ag_inv H zh_109 hd (by decide)⟩)) (xB_n (xB_l ⟨_, zs_aload_n em79_139, as_aload⟩) (xB_l ⟨_, zs_getf (T := TX11) (M := 16) (ci := 11) (j := 1) em79_140 rfl inX11 (by decide) wd_558 ((congrFun xo_0 39).trans rfl), as_getf zTie⟩))) (xB_n (xB_n (xB_l ⟨_, zs_getf (T := TX8) (M := 10) (ci := 8) (j := 1) em79_143 rfl inX8 (by decide) wd_328 ((congrFun xo_0 155).trans rfl), as_getf zTie⟩) (xB_l ⟨_, zs_invS em79_146 zl_110 wd_1245 wd_1246 ((congrFun xo_0 322).trans rfl) xm_104, ag_inv H zh_110 hd (by decide)⟩)) (xB_n (xB_l ⟨_, zs_aload_n em79_150, as_aload⟩) (xB_l ⟨_, zs_getf (T := TX11) (M := 16) (ci := 11) (j := 1) em79_151 rfl inX11 (by decide) wd_558 ((congrFun xo_0 39).trans rfl), as_getf zTie⟩)))))) (xB_n (xB_n (xB_n (xB_n (xB_l ⟨_, zs_getf (T := TX8) (M := 10) (ci := 8) (j := 9) em79_154 rfl inX8 (by decide) wd_354 ((congrFun xo_0 326).trans rfl), as_getf zTie⟩) (xB_n (xB_l ⟨_, zs_aload_n em79_158, as_aload⟩) (xB_l ⟨_, zs_getf (T := TX11) (M := 16) (ci := 11) (j := 6) em79_159 rfl inX11 (by decide) wd_554 ((congrFun xo_0 13).trans rfl), as_getf zTie⟩))) (xB_n (xB_n (xB_l ⟨_, zs_aload_n em79_163, as_aload⟩) (xB_l ⟨_, zs_getf (T := TX11) (M := 16) (ci := 11) (j := 8) em79_164 rfl inX11 (by decide) wd_560 ((congrFun xo_0 49).trans rfl), as_getf zTie⟩)) (xB_n (xB_l ⟨_, zs_getf (T := TX0) (M := 3) (ci := 0) (j := 2) em79_167 rfl inX0 (by decide) wd_387 ((congrFun xo_0 130).trans rfl), as_getf zTie⟩) (xB_l ⟨_, zs_aload_n em79_171, as_aload⟩)))) (xB_n (xB_n (xB_n (xB_l ⟨_, zs_getf (T := TX11) (M := 16) (ci := 11) (j := 13) em79_172 rfl inX11 (by decide) wd_563 ((congrFun xo_0 64).trans rfl), as_getf zTie⟩) (xB_l ⟨_, zs_getf (T := TX5) (M := 4) (ci := 5) (j := 3) em79_175 rfl inX5 (by decide) wd_405 ((congrFun xo_0 133).trans rfl), as_getf zTie⟩)) (xB_n (xB_l ⟨_, zs_aload_n em79_179, as_aload⟩) (xB_l ⟨_, zs_invV (T := TX11) em79_180 zl_90 rfl wd_1248 wd_1250 wd_42 ((congrFun xo_0 329).trans rfl) xm_85, ag_invV H zh_90 hd (by decide)⟩))) (xB_n (xB_n (xB_l ⟨_, zs_aload_n em79_184, as_aload⟩) (xB_l ⟨_, zs_getf (T := TX11) (M := 16) (ci := 11) (j := 3) em79_185 rfl inX11 (by decide) wd_565 ((congrFun xo_0 82).trans rfl), as_getf zTie⟩)) (xB_n (xB_l ⟨_, zs_aload_n em79_188, as_aload⟩) (xB_l ⟨_, zs_getf (T := TX11) (M := 16) (ci := 11) (j := 0) em79_189 rfl inX11 (by decide) wd_556 ((congrFun xo_0 23).trans rfl), as_getf zTie⟩))))) (xB_n (xB_n (xB_n (xB_n (xB_l ⟨_, zs_getf (T := TX6) (M := 15) (ci := 6) (j := 3) em79_192 rfl inX6 (by decide) wd_183 ((congrFun xo_0 249).trans rfl), as_getf zTie⟩) (xB_l ⟨_, zs_aload_n em79_195, as_aload⟩)) (xB_n (xB_l ⟨_, zs_getf (T := TX11) (M := 16) (ci := 11) (j := 1) em79_196 rfl inX11 (by decide) wd_558 ((congrFun xo_0 39).trans rfl), as_getf zTie⟩) (xB_l ⟨_, zs_getf (T := TX8) (M := 10) (ci := 8) (j := 7) em79_199 rfl inX8 (by decide) wd_349 ((congrFun xo_0 190).trans rfl), as_getf zTie⟩))) (xB_n (xB_n (xB_l ⟨_, zs_invV (T := TX4) em79_202 zl_38 rfl wd_1252 wd_1033 wd_1034 ((congrFun xo_0 333).trans rfl) xm_37, ag_invV H zh_38 hd (by decide)⟩) (xB_l ⟨_, zs_ifeq em79_205 (t := 212) (by decide), as_if⟩)) (xB_n (xB_l ⟨_, zs_iconst (v := 1) em79_208 (by decide +kernel), as_const (by decide +kernel)⟩) (xB_l ⟨_, zs_goto em79_209 (t := 213) (by decide), as_goto⟩)))) (xB_n (xB_n (xB_n (xB_l ⟨_, zs_iconst (v := 0) em79_212 (by decide +kernel), as_const (by decide +kernel)⟩) (xB_l ⟨_, zs_aload_n em79_214, as_aload⟩)) (xB_n (xB_l ⟨_, zs_invV (T := TX11) em79_215 zl_106 rfl wd_1253 wd_1255 wd_43 ((congrFun xo_0 336).trans rfl) xm_101, ag_invV H zh_106 hd (by decide)⟩) (xB_l ⟨_, zs_aload_n em79_219, as_aload⟩))) (xB_n (xB_n (xB_l ⟨_, zs_getf (T := TX11) (M := 16) (ci := 11) (j := 1) em79_220 rfl inX11 (by decide) wd_558 ((congrFun xo_0 39).trans rfl), as_getf zTie⟩) (xB_l ⟨_, zs_getf (T := TX8) (M := 10) (ci := 8) (j := 3) em79_223 rfl inX8 (by decide) wd_335 ((congrFun xo_0 246).trans rfl), as_getf zTie⟩)) (xB_n (xB_l ⟨_, zs_invS em79_226 zl_111 wd_1245 wd_1246 ((congrFun xo_0 322).trans rfl) xm_104, ag_inv H zh_111 hd (by decide)⟩) (xB_l ⟨_, zs_iconst (v := (-1)) em79_230 (by decide +kernel), as_const (by decide +kernel)⟩)))))))
set_option maxRecDepth 100000 in
set_option maxHeartbeats 4000000 in
theorem zM_84 : zOKa 84 zc_84 := z_auto (cuts := []) (rets := [(87, 1), (95, 1), (103, 1), (111, 1), (119, 1), (127, 1), (138, 1), (149, 1), (157, 1), (162, 1), (170, 1), (178, 1), (183, 1), (213, 1), (218, 1), (229, 1), (231, 1)]) (fuel := 1000) rfl rfl (by decide) (xrt_ok (xR_c (Or.inl ⟨rfl, em79_87, rfl⟩) (xR_c (Or.inl ⟨rfl, em79_95, rfl⟩) (xR_c (Or.inl ⟨rfl, em79_103, rfl⟩) (xR_c (Or.inl ⟨rfl, em79_111, rfl⟩) (xR_c (Or.inl ⟨rfl, em79_119, rfl⟩) (xR_c (Or.inl ⟨rfl, em79_127, rfl⟩) (xR_c (Or.inl ⟨rfl, em79_138, rfl⟩) (xR_c (Or.inl ⟨rfl, em79_149, rfl⟩) (xR_c (Or.inl ⟨rfl, em79_157, rfl⟩) (xR_c (Or.inl ⟨rfl, em79_162, rfl⟩) (xR_c (Or.inl ⟨rfl, em79_170, rfl⟩) (xR_c (Or.inl ⟨rfl, em79_178, rfl⟩) (xR_c (Or.inl ⟨rfl, em79_183, rfl⟩) (xR_c (Or.inl ⟨rfl, em79_213, rfl⟩) (xR_c (Or.inl ⟨rfl, em79_218, rfl⟩) (xR_c (Or.inl ⟨rfl, em79_229, rfl⟩) (xR_c (Or.inl ⟨rfl, em79_231, rfl⟩) (xR_n))))))))))))))))))) (fun _ _ H _ hd => zTo_84 H hd) (by decide +kernel)
theorem em80_0 : decode prog_1_method_22_code 0 = .ok (.iload_n 1, 1) := by decide +kernel
theorem em80_1 : decode prog_1_method_22_code 1 = .ok (.ifCond .lt 9, 3) := by decide +kernel
theorem em80_4 : decode prog_1_method_22_code 4 = .ok (.iload_n 1, 1) := by decide +kernel
theorem em80_5 : decode prog_1_method_22_code 5 = .ok (.bipush 60, 2) := by decide +kernel
theorem em80_7 : decode prog_1_method_22_code 7 = .ok (.if_icmp .le 5, 3) := by decide +kernel
theorem em80_10 : decode prog_1_method_22_code 10 = .ok (.iconst (-1), 1) := by decide +kernel
theorem em80_11 : decode prog_1_method_22_code 11 = .ok (.ireturn, 1) := by decide +kernel
theorem em80_12 : decode prog_1_method_22_code 12 = .ok (.iload_n 1, 1) := by decide +kernel
theorem em80_13 : decode prog_1_method_22_code 13 = .ok (.ifCond .le 33, 3) := by decide +kernel
theorem em80_16 : decode prog_1_method_22_code 16 = .ok (.aload_n 0, 1) := by decide +kernel
theorem em80_17 : decode prog_1_method_22_code 17 = .ok (.getfield 49, 3) := by decide +kernel
theorem em80_20 : decode prog_1_method_22_code 20 = .ok (.aload_n 0, 1) := by decide +kernel
theorem em80_21 : decode prog_1_method_22_code 21 = .ok (.getfield 39, 3) := by decide +kernel
theorem em80_24 : decode prog_1_method_22_code 24 = .ok (.invokevirtual 220, 3) := by decide +kernel
theorem em80_27 : decode prog_1_method_22_code 27 = .ok (.aload_n 0, 1) := by decide +kernel
theorem em80_28 : decode prog_1_method_22_code 28 = .ok (.getfield 82, 3) := by decide +kernel
theorem em80_31 : decode prog_1_method_22_code 31 = .ok (.aload_n 0, 1) := by decide +kernel
theorem em80_32 : decode prog_1_method_22_code 32 = .ok (.getfield 39, 3) := by decide +kernel
theorem em80_35 : decode prog_1_method_22_code 35 = .ok (.iload_n 1, 1) := by decide +kernel
theorem em80_36 : decode prog_1_method_22_code 36 = .ok (.aload_n 0, 1) := by decide +kernel
theorem em80_37 : decode prog_1_method_22_code 37 = .ok (.getfield 23, 3) := by decide +kernel
theorem em80_40 : decode prog_1_method_22_code 40 = .ok (.getfield 249, 3) := by decide +kernel
theorem em80_43 : decode prog_1_method_22_code 43 = .ok (.invokevirtual 252, 3) := by decide +kernel
theorem em80_46 : decode prog_1_method_22_code 46 = .ok (.aload_n 0, 1) := by decide +kernel
theorem em80_47 : decode prog_1_method_22_code 47 = .ok (.getfield 39, 3) := by decide +kernel
theorem em80_50 : decode prog_1_method_22_code 50 = .ok (.getfield 190, 3) := by decide +kernel
theorem em80_53 : decode prog_1_method_22_code 53 = .ok (.ireturn, 1) := by decide +kernel
/-! CapitalCase.days:(I)I -/
noncomputable def zTr_85 : Nat → Option aF := bn 24 (bn 12 (bn 5 (bn 1 (bl 0 (a_iload 1 1)) (bn 4 (bl 1 (a_if 2 10 4)) (bl 4 (a_iload 1 5)))) (bn 7 (bl 5 (a_const 60 7)) (bn 10 (bl 7 (a_icmp 5 12 10)) (bl 10 (a_const (-1) 11))))) (bn 17 (bn 13 (bl 12 (a_iload 1 13)) (bn 16 (bl 13 (a_if 5 46 16)) (bl 16 (a_aload 0 17)))) (bn 20 (bl 17 (a_getf zG0 zT0 11 8 20)) (bn 21 (bl 20 (a_aload 0 21)) (bl 21 (a_getf zG0 zT0 11 1 24)))))) (bn 36 (bn 31 (bn 27 (bl 24 (a_invV zG0 zprot (true, false) zc_0 (zbd 0) (10, 6, 396) 0 2 27)) (bn 28 (bl 27 (a_aload 0 28)) (bl 28 (a_getf zG0 zT0 11 3 31)))) (bn 32 (bl 31 (a_aload 0 32)) (bn 35 (bl 32 (a_getf zG0 zT0 11 1 35)) (bl 35 (a_iload 1 36))))) (bn 43 (bn 37 (bl 36 (a_aload 0 37)) (bn 40 (bl 37 (a_getf zG0 zT0 11 0 40)) (bl 40 (a_getf zG0 zT0 6 3 43)))) (bn 47 (bn 46 (bl 43 (a_invV zG0 zprot (true, false) zc_36 (zbd 36) (10, 6, 396) 4 4 46)) (bl 46 (a_aload 0 47))) (bn 50 (bl 47 (a_getf zG0 zT0 11 1 50)) (bl 50 (a_getf zG0 zT0 8 7 53))))))
set_option maxRecDepth 100000 in
set_option maxHeartbeats 4000000 in
theorem zTo_85 {pre : zPre} {post : zPost} (H : zTieC pre post) {d : Nat × Nat × Nat} (hd : zLe (10, 6, 396) d) : aTr zG0 zT0 zInv (true, false) PZ zbd pre post d prog_1_method_22_code "CapitalCase" zTr_85 := (xB_n (xB_n (xB_n (xB_n (xB_l ⟨_, zs_iload_n em80_0, as_iload⟩) (xB_n (xB_l ⟨_, zs_iflt em80_1 (t := 10) (by decide), as_if⟩) (xB_l ⟨_, zs_iload_n em80_4, as_iload⟩))) (xB_n (xB_l ⟨_, zs_bipush (v := 60) em80_5 (by decide +kernel), as_const (by decide +kernel)⟩) (xB_n (xB_l ⟨_, zs_icmple em80_7 (t := 12) (by decide), as_icmp⟩) (xB_l ⟨_, zs_iconst (v := (-1)) em80_10 (by decide +kernel), as_const (by decide +kernel)⟩)))) (xB_n (xB_n (xB_l ⟨_, zs_iload_n em80_12, as_iload⟩) (xB_n (xB_l ⟨_, zs_ifle em80_13 (t := 46) (by decide), as_if⟩) (xB_l ⟨_, zs_aload_n em80_16, as_aload⟩))) (xB_n (xB_l ⟨_, zs_getf (T := TX11) (M := 16) (ci := 11) (j := 8) em80_17 rfl inX11 (by decide) wd_560 ((congrFun xo_0 49).trans rfl), as_getf zTie⟩) (xB_n (xB_l ⟨_, zs_aload_n em80_20, as_aload⟩) (xB_l ⟨_, zs_getf (T := TX11) (M := 16) (ci := 11) (j := 1) em80_21 rfl inX11 (by decide) wd_558 ((congrFun xo_0 39).trans rfl), as_getf zTie⟩))))) (xB_n (xB_n (xB_n (xB_l ⟨_, zs_invV (T := TX0) em80_24 zl_0 rfl wd_967 wd_968 wd_969 ((congrFun xo_0 220).trans rfl) xm_0, ag_invV H zh_0 hd (by decide)⟩) (xB_n (xB_l ⟨_, zs_aload_n em80_27, as_aload⟩) (xB_l ⟨_, zs_getf (T := TX11) (M := 16) (ci := 11) (j := 3) em80_28 rfl inX11 (by decide) wd_565 ((congrFun xo_0 82).trans rfl), as_getf zTie⟩))) (xB_n (xB_l ⟨_, zs_aload_n em80_31, as_aload⟩) (xB_n (xB_l ⟨_, zs_getf (T := TX11) (M := 16) (ci := 11) (j := 1) em80_32 rfl inX11 (by decide) wd_558 ((congrFun xo_0 39).trans rfl), as_getf zTie⟩) (xB_l ⟨_, zs_iload_n em80_35, as_iload⟩)))) (xB_n (xB_n (xB_l ⟨_, zs_aload_n em80_36, as_aload⟩) (xB_n (xB_l ⟨_, zs_getf (T := TX11) (M := 16) (ci := 11) (j := 0) em80_37 rfl inX11 (by decide) wd_556 ((congrFun xo_0 23).trans rfl), as_getf zTie⟩) (xB_l ⟨_, zs_getf (T := TX6) (M := 15) (ci := 6) (j := 3) em80_40 rfl inX6 (by decide) wd_183 ((congrFun xo_0 249).trans rfl), as_getf zTie⟩))) (xB_n (xB_n (xB_l ⟨_, zs_invV (T := TX4) em80_43 zl_36 rfl wd_1005 wd_1006 wd_1007 ((congrFun xo_0 252).trans rfl) xm_35, ag_invV H zh_36 hd (by decide)⟩) (xB_l ⟨_, zs_aload_n em80_46, as_aload⟩)) (xB_n (xB_l ⟨_, zs_getf (T := TX11) (M := 16) (ci := 11) (j := 1) em80_47 rfl inX11 (by decide) wd_558 ((congrFun xo_0 39).trans rfl), as_getf zTie⟩) (xB_l ⟨_, zs_getf (T := TX8) (M := 10) (ci := 8) (j := 7) em80_50 rfl inX8 (by decide) wd_349 ((congrFun xo_0 190).trans rfl), as_getf zTie⟩))))))
set_option maxRecDepth 100000 in
set_option maxHeartbeats 4000000 in
theorem zM_85 : zOKa 85 zc_85 := z_auto (cuts := []) (rets := [(11, 1), (53, 1)]) (fuel := 1000) rfl rfl (by decide) (xrt_ok (xR_c (Or.inl ⟨rfl, em80_11, rfl⟩) (xR_c (Or.inl ⟨rfl, em80_53, rfl⟩) (xR_n)))) (fun _ _ H _ hd => zTo_85 H hd) (by decide +kernel)
theorem em81_0 : decode prog_1_method_2_code 0 = .ok (.aload_n 0, 1) := by decide +kernel
theorem em81_1 : decode prog_1_method_2_code 1 = .ok (.getfield 13, 3) := by decide +kernel
theorem em81_4 : decode prog_1_method_2_code 4 = .ok (.bipush 20, 2) := by decide +kernel
theorem em81_6 : decode prog_1_method_2_code 6 = .ok (.iadd, 1) := by decide +kernel
theorem em81_7 : decode prog_1_method_2_code 7 = .ok (.sipush 2000, 3) := by decide +kernel
theorem em81_10 : decode prog_1_method_2_code 10 = .ok (.if_icmp .le 5, 3) := by decide +kernel
theorem em81_13 : decode prog_1_method_2_code 13 = .ok (.iconst (-1), 1) := by decide +kernel
theorem em81_14 : decode prog_1_method_2_code 14 = .ok (.ireturn, 1) := by decide +kernel
theorem em81_15 : decode prog_1_method_2_code 15 = .ok (.aload_n 0, 1) := by decide +kernel
theorem em81_16 : decode prog_1_method_2_code 16 = .ok (.iload_n 1, 1) := by decide +kernel
theorem em81_17 : decode prog_1_method_2_code 17 = .ok (.invokevirtual 109, 3) := by decide +kernel
theorem em81_20 : decode prog_1_method_2_code 20 = .ok (.aload_n 0, 1) := by decide +kernel
theorem em81_21 : decode prog_1_method_2_code 21 = .ok (.iload_n 2, 1) := by decide +kernel
theorem em81_22 : decode prog_1_method_2_code 22 = .ok (.invokevirtual 109, 3) := by decide +kernel
theorem em81_25 : decode prog_1_method_2_code 25 = .ok (.aload_n 0, 1) := by decide +kernel
theorem em81_26 : decode prog_1_method_2_code 26 = .ok (.iload_n 3, 1) := by decide +kernel
theorem em81_27 : decode prog_1_method_2_code 27 = .ok (.invokevirtual 109, 3) := by decide +kernel
theorem em81_30 : decode prog_1_method_2_code 30 = .ok (.aload_n 0, 1) := by decide +kernel
theorem em81_31 : decode prog_1_method_2_code 31 = .ok (.iload 4, 2) := by decide +kernel
theorem em81_33 : decode prog_1_method_2_code 33 = .ok (.invokevirtual 109, 3) := by decide +kernel
theorem em81_36 : decode prog_1_method_2_code 36 = .ok (.aload_n 0, 1) := by decide +kernel
theorem em81_37 : decode prog_1_method_2_code 37 = .ok (.iload 5, 2) := by decide +kernel
theorem em81_39 : decode prog_1_method_2_code 39 = .ok (.invokevirtual 109, 3) := by decide +kernel
theorem em81_42 : decode prog_1_method_2_code 42 = .ok (.aload_n 0, 1) := by decide +kernel
theorem em81_43 : decode prog_1_method_2_code 43 = .ok (.getfield 13, 3) := by decide +kernel
theorem em81_46 : decode prog_1_method_2_code 46 = .ok (.ireturn, 1) := by decide +kernel
/-! CapitalCase.feed:(IIIII)I -/
noncomputable def zTr_86 : Nat → Option aF := bn 22 (bn 13 (bn 6 (bn 1 (bl 0 (a_aload 0 1)) (bn 4 (bl 1 (a_getf zG0 zT0 11 6 4)) (bl 4 (a_const 20 6)))) (bn 7 (bl 6 (a_bin fadd 7)) (bn 10 (bl 7 (a_const 2000 10)) (bl 10 (a_icmp 5 15 13))))) (bn 17 (bn 15 (bl 13 (a_const (-1) 14)) (bn 16 (bl 15 (a_aload 0 16)) (bl 16 (a_iload 1 17)))) (bn 20 (bl 17 (a_invV zG0 zprot (false, false) zc_75 (zbd 75) (1, 0, 0) 11 2 20)) (bn 21 (bl 20 (a_aload 0 21)) (bl 21 (a_iload 2 22)))))) (bn 33 (bn 27 (bn 25 (bl 22 (a_invV zG0 zprot (false, false) zc_75 (zbd 75) (1, 0, 0) 11 2 25)) (bn 26 (bl 25 (a_aload 0 26)) (bl 26 (a_iload 3 27)))) (bn 30 (bl 27 (a_invV zG0 zprot (false, false) zc_75 (zbd 75) (1, 0, 0) 11 2 30)) (bn 31 (bl 30 (a_aload 0 31)) (bl 31 (a_iload 4 33))))) (bn 39 (bn 36 (bl 33 (a_invV zG0 zprot (false, false) zc_75 (zbd 75) (1, 0, 0) 11 2 36)) (bn 37 (bl 36 (a_aload 0 37)) (bl 37 (a_iload 5 39)))) (bn 42 (bl 39 (a_invV zG0 zprot (false, false) zc_75 (zbd 75) (1, 0, 0) 11 2 42)) (bn 43 (bl 42 (a_aload 0 43)) (bl 43 (a_getf zG0 zT0 11 6 46))))))
set_option maxRecDepth 100000 in
set_option maxHeartbeats 4000000 in
theorem zTo_86 {pre : zPre} {post : zPost} (H : zTieC pre post) {d : Nat × Nat × Nat} (hd : zLe (1, 0, 0) d) : aTr zG0 zT0 zInv (false, false) PZ zbd pre post d prog_1_method_2_code "CapitalCase" zTr_86 := (xB_n (xB_n (xB_n (xB_n (xB_l ⟨_, zs_aload_n em81_0, as_aload⟩) (xB_n (xB_l ⟨_, zs_getf (T := TX11) (M := 16) (ci := 11) (j := 6) em81_1 rfl inX11 (by decide) wd_554 ((congrFun xo_0 13).trans rfl), as_getf zTie⟩) (xB_l ⟨_, zs_bipush (v := 20) em81_4 (by decide +kernel), as_const (by decide +kernel)⟩))) (xB_n (xB_l ⟨_, zs_iadd em81_6, as_bin fadd_ok⟩) (xB_n (xB_l ⟨_, zs_sipush (v := 2000) em81_7 (by decide +kernel), as_const (by decide +kernel)⟩) (xB_l ⟨_, zs_icmple em81_10 (t := 15) (by decide), as_icmp⟩)))) (xB_n (xB_n (xB_l ⟨_, zs_iconst (v := (-1)) em81_13 (by decide +kernel), as_const (by decide +kernel)⟩) (xB_n (xB_l ⟨_, zs_aload_n em81_15, as_aload⟩) (xB_l ⟨_, zs_iload_n em81_16, as_iload⟩))) (xB_n (xB_l ⟨_, zs_invV (T := TX11) em81_17 zl_75 rfl wd_606 wd_608 wd_1 ((congrFun xo_0 109).trans rfl) xm_70, ag_invV H zh_75 hd (by decide)⟩) (xB_n (xB_l ⟨_, zs_aload_n em81_20, as_aload⟩) (xB_l ⟨_, zs_iload_n em81_21, as_iload⟩))))) (xB_n (xB_n (xB_n (xB_l ⟨_, zs_invV (T := TX11) em81_22 zl_75 rfl wd_606 wd_608 wd_1 ((congrFun xo_0 109).trans rfl) xm_70, ag_invV H zh_75 hd (by decide)⟩) (xB_n (xB_l ⟨_, zs_aload_n em81_25, as_aload⟩) (xB_l ⟨_, zs_iload_n em81_26, as_iload⟩))) (xB_n (xB_l ⟨_, zs_invV (T := TX11) em81_27 zl_75 rfl wd_606 wd_608 wd_1 ((congrFun xo_0 109).trans rfl) xm_70, ag_invV H zh_75 hd (by decide)⟩) (xB_n (xB_l ⟨_, zs_aload_n em81_30, as_aload⟩) (xB_l ⟨_, zs_iload em81_31, as_iload⟩)))) (xB_n (xB_n (xB_l ⟨_, zs_invV (T := TX11) em81_33 zl_75 rfl wd_606 wd_608 wd_1 ((congrFun xo_0 109).trans rfl) xm_70, ag_invV H zh_75 hd (by decide)⟩) (xB_n (xB_l ⟨_, zs_aload_n em81_36, as_aload⟩) (xB_l ⟨_, zs_iload em81_37, as_iload⟩))) (xB_n (xB_l ⟨_, zs_invV (T := TX11) em81_39 zl_75 rfl wd_606 wd_608 wd_1 ((congrFun xo_0 109).trans rfl) xm_70, ag_invV H zh_75 hd (by decide)⟩) (xB_n (xB_l ⟨_, zs_aload_n em81_42, as_aload⟩) (xB_l ⟨_, zs_getf (T := TX11) (M := 16) (ci := 11) (j := 6) em81_43 rfl inX11 (by decide) wd_554 ((congrFun xo_0 13).trans rfl), as_getf zTie⟩))))))
set_option maxRecDepth 100000 in
set_option maxHeartbeats 4000000 in
theorem zM_86 : zOKa 86 zc_86 := z_auto (cuts := []) (rets := [(14, 1), (46, 1)]) (fuel := 1000) rfl rfl (by decide) (xrt_ok (xR_c (Or.inl ⟨rfl, em81_14, rfl⟩) (xR_c (Or.inl ⟨rfl, em81_46, rfl⟩) (xR_n)))) (fun _ _ H _ hd => zTo_86 H hd) (by decide +kernel)
theorem em82_0 : decode prog_1_method_39_code 0 = .ok (.aload_n 0, 1) := by decide +kernel
theorem em82_1 : decode prog_1_method_39_code 1 = .ok (.getfield 64, 3) := by decide +kernel
theorem em82_4 : decode prog_1_method_39_code 4 = .ok (.getfield 133, 3) := by decide +kernel
theorem em82_7 : decode prog_1_method_39_code 7 = .ok (.istore_n 1, 1) := by decide +kernel
theorem em82_8 : decode prog_1_method_39_code 8 = .ok (.aload_n 0, 1) := by decide +kernel
theorem em82_9 : decode prog_1_method_39_code 9 = .ok (.getfield 64, 3) := by decide +kernel
theorem em82_12 : decode prog_1_method_39_code 12 = .ok (.iconst 0, 1) := by decide +kernel
theorem em82_13 : decode prog_1_method_39_code 13 = .ok (.putfield 133, 3) := by decide +kernel
theorem em82_16 : decode prog_1_method_39_code 16 = .ok (.iload_n 1, 1) := by decide +kernel
theorem em82_17 : decode prog_1_method_39_code 17 = .ok (.ireturn, 1) := by decide +kernel
/-! CapitalCase.forget:()I -/
noncomputable def zTr_87 : Nat → Option aF := bn 8 (bn 4 (bn 1 (bl 0 (a_aload 0 1)) (bl 1 (a_getf zG0 zT0 11 13 4))) (bn 7 (bl 4 (a_getf zG0 zT0 5 3 7)) (bl 7 (a_istore 1 8)))) (bn 12 (bn 9 (bl 8 (a_aload 0 9)) (bl 9 (a_getf zG0 zT0 11 13 12))) (bn 13 (bl 12 (a_const 0 13)) (bn 16 (bl 13 (a_puti zG0 zT0 zprot 5 3 0 16)) (bl 16 (a_iload 1 17)))))
set_option maxRecDepth 100000 in
set_option maxHeartbeats 4000000 in
theorem zTo_87 {pre : zPre} {post : zPost} (H : zTieC pre post) {d : Nat × Nat × Nat} (hd : zLe (0, 0, 0) d) : aTr zG0 zT0 zInv (false, false) PZ zbd pre post d prog_1_method_39_code "CapitalCase" zTr_87 := (xB_n (xB_n (xB_n (xB_l ⟨_, zs_aload_n em82_0, as_aload⟩) (xB_l ⟨_, zs_getf (T := TX11) (M := 16) (ci := 11) (j := 13) em82_1 rfl inX11 (by decide) wd_563 ((congrFun xo_0 64).trans rfl), as_getf zTie⟩)) (xB_n (xB_l ⟨_, zs_getf (T := TX5) (M := 4) (ci := 5) (j := 3) em82_4 rfl inX5 (by decide) wd_405 ((congrFun xo_0 133).trans rfl), as_getf zTie⟩) (xB_l ⟨_, zs_istore_n em82_7, as_istore⟩))) (xB_n (xB_n (xB_l ⟨_, zs_aload_n em82_8, as_aload⟩) (xB_l ⟨_, zs_getf (T := TX11) (M := 16) (ci := 11) (j := 13) em82_9 rfl inX11 (by decide) wd_563 ((congrFun xo_0 64).trans rfl), as_getf zTie⟩)) (xB_n (xB_l ⟨_, zs_iconst (v := 0) em82_12 (by decide +kernel), as_const (by decide +kernel)⟩) (xB_n (xB_l ⟨_, zs_puti zInj0 (T := TX5) (M := 4) (ty := tyX5) (ci := 5) (j := 3) (kd := 0) em82_13 rfl inX5 tyX5_ok nmX5 (by decide) wd_405 (Or.inl ⟨rfl, rfl⟩) rfl ((congrFun xo_0 133).trans rfl), ag_puti0⟩) (xB_l ⟨_, zs_iload_n em82_16, as_iload⟩)))))
set_option maxRecDepth 100000 in
set_option maxHeartbeats 4000000 in
theorem zM_87 : zOKa 87 zc_87 := z_auto (cuts := []) (rets := [(17, 1)]) (fuel := 1000) rfl rfl (by decide) (xrt_ok (xR_c (Or.inl ⟨rfl, em82_17, rfl⟩) (xR_n))) (fun _ _ H _ hd => zTo_87 H hd) (by decide +kernel)
theorem em83_0 : decode prog_1_method_24_code 0 = .ok (.aload_n 0, 1) := by decide +kernel
theorem em83_1 : decode prog_1_method_24_code 1 = .ok (.iload_n 1, 1) := by decide +kernel
theorem em83_2 : decode prog_1_method_24_code 2 = .ok (.iload_n 2, 1) := by decide +kernel
theorem em83_3 : decode prog_1_method_24_code 3 = .ok (.invokevirtual 260, 3) := by decide +kernel
theorem em83_6 : decode prog_1_method_24_code 6 = .ok (.iconst (-1), 1) := by decide +kernel
theorem em83_7 : decode prog_1_method_24_code 7 = .ok (.if_icmp .ne 5, 3) := by decide +kernel
theorem em83_10 : decode prog_1_method_24_code 10 = .ok (.iconst (-1), 1) := by decide +kernel
theorem em83_11 : decode prog_1_method_24_code 11 = .ok (.ireturn, 1) := by decide +kernel
theorem em83_12 : decode prog_1_method_24_code 12 = .ok (.aload_n 0, 1) := by decide +kernel
theorem em83_13 : decode prog_1_method_24_code 13 = .ok (.iload_n 1, 1) := by decide +kernel
theorem em83_14 : decode prog_1_method_24_code 14 = .ok (.invokevirtual 187, 3) := by decide +kernel
theorem em83_17 : decode prog_1_method_24_code 17 = .ok (.lookupswitch 58 #[(0, 27), (3, 55)], 27) := by decide +kernel
theorem em83_44 : decode prog_1_method_24_code 44 = .ok (.aload_n 0, 1) := by decide +kernel
theorem em83_45 : decode prog_1_method_24_code 45 = .ok (.iload_n 1, 1) := by decide +kernel
theorem em83_46 : decode prog_1_method_24_code 46 = .ok (.invokevirtual 217, 3) := by decide +kernel
theorem em83_49 : decode prog_1_method_24_code 49 = .ok (.ifCond .eq 20, 3) := by decide +kernel
theorem em83_52 : decode prog_1_method_24_code 52 = .ok (.aload_n 0, 1) := by decide +kernel
theorem em83_53 : decode prog_1_method_24_code 53 = .ok (.getfield 89, 3) := by decide +kernel
theorem em83_56 : decode prog_1_method_24_code 56 = .ok (.getfield 224, 3) := by decide +kernel
theorem em83_59 : decode prog_1_method_24_code 59 = .ok (.iload_n 1, 1) := by decide +kernel
theorem em83_60 : decode prog_1_method_24_code 60 = .ok (.bipush 8, 2) := by decide +kernel
theorem em83_62 : decode prog_1_method_24_code 62 = .ok (.imul, 1) := by decide +kernel
theorem em83_63 : decode prog_1_method_24_code 63 = .ok (.iload_n 2, 1) := by decide +kernel
theorem em83_64 : decode prog_1_method_24_code 64 = .ok (.iadd, 1) := by decide +kernel
theorem em83_65 : decode prog_1_method_24_code 65 = .ok (.iaload, 1) := by decide +kernel
theorem em83_66 : decode prog_1_method_24_code 66 = .ok (.goto 5, 3) := by decide +kernel
theorem em83_69 : decode prog_1_method_24_code 69 = .ok (.bipush (-2), 2) := by decide +kernel
theorem em83_71 : decode prog_1_method_24_code 71 = .ok (.ireturn, 1) := by decide +kernel
theorem em83_72 : decode prog_1_method_24_code 72 = .ok (.bipush (-3), 2) := by decide +kernel
theorem em83_74 : decode prog_1_method_24_code 74 = .ok (.ireturn, 1) := by decide +kernel
theorem em83_75 : decode prog_1_method_24_code 75 = .ok (.aload_n 0, 1) := by decide +kernel
theorem em83_76 : decode prog_1_method_24_code 76 = .ok (.getfield 39, 3) := by decide +kernel
theorem em83_79 : decode prog_1_method_24_code 79 = .ok (.getfield 263, 3) := by decide +kernel
theorem em83_82 : decode prog_1_method_24_code 82 = .ok (.iload_n 1, 1) := by decide +kernel
theorem em83_83 : decode prog_1_method_24_code 83 = .ok (.bipush 8, 2) := by decide +kernel
theorem em83_85 : decode prog_1_method_24_code 85 = .ok (.imul, 1) := by decide +kernel
theorem em83_86 : decode prog_1_method_24_code 86 = .ok (.iload_n 2, 1) := by decide +kernel
theorem em83_87 : decode prog_1_method_24_code 87 = .ok (.iadd, 1) := by decide +kernel
theorem em83_88 : decode prog_1_method_24_code 88 = .ok (.iaload, 1) := by decide +kernel
theorem em83_89 : decode prog_1_method_24_code 89 = .ok (.ireturn, 1) := by decide +kernel
/-! CapitalCase.from:(II)I -/
noncomputable def zTr_88 : Nat → Option aF := bn 59 (bn 14 (bn 6 (bn 2 (bn 1 (bl 0 (a_aload 0 1)) (bl 1 (a_iload 1 2))) (bn 3 (bl 2 (a_iload 2 3)) (bl 3 (a_invV zG0 zprot (true, false) zc_118 (zbd 118) (22, 0, 0) 11 3 6)))) (bn 10 (bn 7 (bl 6 (a_const (-1) 7)) (bl 7 (a_icmp 1 12 10))) (bn 12 (bl 10 (a_const (-1) 11)) (bn 13 (bl 12 (a_aload 0 13)) (bl 13 (a_iload 1 14)))))) (bn 46 (bn 44 (bn 17 (bl 14 (a_invV zG0 zprot (true, false) zc_107 (zbd 107) (22, 0, 0) 11 2 17)) (bl 17 (a_lsw [(0, 44), (3, 72)] 75))) (bn 45 (bl 44 (a_aload 0 45)) (bl 45 (a_iload 1 46)))) (bn 52 (bn 49 (bl 46 (a_invV zG0 zprot (true, false) zc_83 (zbd 83) (22, 0, 0) 11 2 49)) (bl 49 (a_if 0 69 52))) (bn 53 (bl 52 (a_aload 0 53)) (bn 56 (bl 53 (a_getf zG0 zT0 11 4 56)) (bl 56 (a_getf zG0 zT0 3 3 59))))))) (bn 75 (bn 64 (bn 62 (bn 60 (bl 59 (a_iload 1 60)) (bl 60 (a_const 8 62))) (bn 63 (bl 62 (a_bin fmul 63)) (bl 63 (a_iload 2 64)))) (bn 66 (bn 65 (bl 64 (a_bin fadd 65)) (bl 65 (a_ald zG0 zT0 (true, false) ts0 66))) (bn 69 (bl 66 (a_goto 71)) (bn 72 (bl 69 (a_const (-2) 71)) (bl 72 (a_const (-3) 74)))))) (bn 83 (bn 79 (bn 76 (bl 75 (a_aload 0 76)) (bl 76 (a_getf zG0 zT0 11 1 79))) (bn 82 (bl 79 (a_getf zG0 zT0 8 4 82)) (bl 82 (a_iload 1 83)))) (bn 86 (bn 85 (bl 83 (a_const 8 85)) (bl 85 (a_bin fmul 86))) (bn 87 (bl 86 (a_iload 2 87)) (bn 88 (bl 87 (a_bin fadd 88)) (bl 88 (a_ald zG0 zT0 (true, false) ts0 89)))))))
set_option maxRecDepth 100000 in
set_option maxHeartbeats 4000000 in
theorem zTo_88 {pre : zPre} {post : zPost} (H : zTieC pre post) {d : Nat × Nat × Nat} (hd : zLe (22, 0, 0) d) : aTr zG0 zT0 zInv (true, false) PZ zbd pre post d prog_1_method_24_code "CapitalCase" zTr_88 := (xB_n (xB_n (xB_n (xB_n (xB_n (xB_l ⟨_, zs_aload_n em83_0, as_aload⟩) (xB_l ⟨_, zs_iload_n em83_1, as_iload⟩)) (xB_n (xB_l ⟨_, zs_iload_n em83_2, as_iload⟩) (xB_l ⟨_, zs_invV (T := TX11) em83_3 zl_118 rfl wd_1055 wd_911 wd_912 ((congrFun xo_0 260).trans rfl) xm_111, ag_invV H zh_118 hd (by decide)⟩))) (xB_n (xB_n (xB_l ⟨_, zs_iconst (v := (-1)) em83_6 (by decide +kernel), as_const (by decide +kernel)⟩) (xB_l ⟨_, zs_icmpne em83_7 (t := 12) (by decide), as_icmp⟩)) (xB_n (xB_l ⟨_, zs_iconst (v := (-1)) em83_10 (by decide +kernel), as_const (by decide +kernel)⟩) (xB_n (xB_l ⟨_, zs_aload_n em83_12, as_aload⟩) (xB_l ⟨_, zs_iload_n em83_13, as_iload⟩))))) (xB_n (xB_n (xB_n (xB_l ⟨_, zs_invV (T := TX11) em83_14 zl_107 rfl wd_898 wd_900 wd_24 ((congrFun xo_0 187).trans rfl) xm_102, ag_invV H zh_107 hd (by decide)⟩) (xB_l ⟨_, zs_lsw (ts := [(0, 44), (3, 72)]) (df := 75) em83_17 (by decide +kernel) (by decide +kernel) (by decide +kernel) (zlsw (by decide +kernel)), as_lsw⟩)) (xB_n (xB_l ⟨_, zs_aload_n em83_44, as_aload⟩) (xB_l ⟨_, zs_iload_n em83_45, as_iload⟩))) (xB_n (xB_n (xB_l ⟨_, zs_invV (T := TX11) em83_46 zl_83 rfl wd_939 wd_941 wd_27 ((congrFun xo_0 217).trans rfl) xm_78, ag_invV H zh_83 hd (by decide)⟩) (xB_l ⟨_, zs_ifeq em83_49 (t := 69) (by decide), as_if⟩)) (xB_n (xB_l ⟨_, zs_aload_n em83_52, as_aload⟩) (xB_n (xB_l ⟨_, zs_getf (T := TX11) (M := 16) (ci := 11) (j := 4) em83_53 rfl inX11 (by decide) wd_566 ((congrFun xo_0 89).trans rfl), as_getf zTie⟩) (xB_l ⟨_, zs_getf (T := TX3) (M := 12) (ci := 3) (j := 3) em83_56 rfl inX3 (by decide) wd_456 ((congrFun xo_0 224).trans rfl), as_getf zTie⟩)))))) (xB_n (xB_n (xB_n (xB_n (xB_l ⟨_, zs_iload_n em83_59, as_iload⟩) (xB_l ⟨_, zs_bipush (v := 8) em83_60 (by decide +kernel), as_const (by decide +kernel)⟩)) (xB_n (xB_l ⟨_, zs_imul em83_62, as_bin fmul_ok⟩) (xB_l ⟨_, zs_iload_n em83_63, as_iload⟩))) (xB_n (xB_n (xB_l ⟨_, zs_iadd em83_64, as_bin fadd_ok⟩) (xB_l ⟨_, zs_iald em83_65, ag_iald⟩)) (xB_n (xB_l ⟨_, zs_goto em83_66 (t := 71) (by decide), as_goto⟩) (xB_n (xB_l ⟨_, zs_bipush (v := (-2)) em83_69 (by decide +kernel), as_const (by decide +kernel)⟩) (xB_l ⟨_, zs_bipush (v := (-3)) em83_72 (by decide +kernel), as_const (by decide +kernel)⟩))))) (xB_n (xB_n (xB_n (xB_l ⟨_, zs_aload_n em83_75, as_aload⟩) (xB_l ⟨_, zs_getf (T := TX11) (M := 16) (ci := 11) (j := 1) em83_76 rfl inX11 (by decide) wd_558 ((congrFun xo_0 39).trans rfl), as_getf zTie⟩)) (xB_n (xB_l ⟨_, zs_getf (T := TX8) (M := 10) (ci := 8) (j := 4) em83_79 rfl inX8 (by decide) wd_337 ((congrFun xo_0 263).trans rfl), as_getf zTie⟩) (xB_l ⟨_, zs_iload_n em83_82, as_iload⟩))) (xB_n (xB_n (xB_l ⟨_, zs_bipush (v := 8) em83_83 (by decide +kernel), as_const (by decide +kernel)⟩) (xB_l ⟨_, zs_imul em83_85, as_bin fmul_ok⟩)) (xB_n (xB_l ⟨_, zs_iload_n em83_86, as_iload⟩) (xB_n (xB_l ⟨_, zs_iadd em83_87, as_bin fadd_ok⟩) (xB_l ⟨_, zs_iald em83_88, ag_iald⟩)))))))
set_option maxRecDepth 100000 in
set_option maxHeartbeats 4000000 in
theorem zM_88 : zOKa 88 zc_88 := z_auto (cuts := []) (rets := [(11, 1), (71, 1), (74, 1), (89, 1)]) (fuel := 1000) rfl rfl (by decide) (xrt_ok (xR_c (Or.inl ⟨rfl, em83_11, rfl⟩) (xR_c (Or.inl ⟨rfl, em83_71, rfl⟩) (xR_c (Or.inl ⟨rfl, em83_74, rfl⟩) (xR_c (Or.inl ⟨rfl, em83_89, rfl⟩) (xR_n)))))) (fun _ _ H _ hd => zTo_88 H hd) (by decide +kernel)
theorem em84_0 : decode prog_1_method_21_code 0 = .ok (.aload_n 0, 1) := by decide +kernel
theorem em84_1 : decode prog_1_method_21_code 1 = .ok (.iload_n 1, 1) := by decide +kernel
theorem em84_2 : decode prog_1_method_21_code 2 = .ok (.iload_n 3, 1) := by decide +kernel
theorem em84_3 : decode prog_1_method_21_code 3 = .ok (.invokevirtual 147, 3) := by decide +kernel
theorem em84_6 : decode prog_1_method_21_code 6 = .ok (.ifCond .eq 17, 3) := by decide +kernel
theorem em84_9 : decode prog_1_method_21_code 9 = .ok (.aload_n 0, 1) := by decide +kernel
theorem em84_10 : decode prog_1_method_21_code 10 = .ok (.iload_n 2, 1) := by decide +kernel
theorem em84_11 : decode prog_1_method_21_code 11 = .ok (.iload_n 3, 1) := by decide +kernel
theorem em84_12 : decode prog_1_method_21_code 12 = .ok (.invokevirtual 147, 3) := by decide +kernel
theorem em84_15 : decode prog_1_method_21_code 15 = .ok (.ifCond .eq 8, 3) := by decide +kernel
theorem em84_18 : decode prog_1_method_21_code 18 = .ok (.iload_n 1, 1) := by decide +kernel
theorem em84_19 : decode prog_1_method_21_code 19 = .ok (.iload_n 2, 1) := by decide +kernel
theorem em84_20 : decode prog_1_method_21_code 20 = .ok (.if_icmp .ne 5, 3) := by decide +kernel
theorem em84_23 : decode prog_1_method_21_code 23 = .ok (.iconst 0, 1) := by decide +kernel
theorem em84_24 : decode prog_1_method_21_code 24 = .ok (.ireturn, 1) := by decide +kernel
theorem em84_25 : decode prog_1_method_21_code 25 = .ok (.iload_n 2, 1) := by decide +kernel
theorem em84_26 : decode prog_1_method_21_code 26 = .ok (.iconst 5, 1) := by decide +kernel
theorem em84_27 : decode prog_1_method_21_code 27 = .ok (.imul, 1) := by decide +kernel
theorem em84_28 : decode prog_1_method_21_code 28 = .ok (.iload_n 1, 1) := by decide +kernel
theorem em84_29 : decode prog_1_method_21_code 29 = .ok (.iadd, 1) := by decide +kernel
theorem em84_30 : decode prog_1_method_21_code 30 = .ok (.bipush 8, 2) := by decide +kernel
theorem em84_32 : decode prog_1_method_21_code 32 = .ok (.imul, 1) := by decide +kernel
theorem em84_33 : decode prog_1_method_21_code 33 = .ok (.iload_n 3, 1) := by decide +kernel
theorem em84_34 : decode prog_1_method_21_code 34 = .ok (.iadd, 1) := by decide +kernel
theorem em84_35 : decode prog_1_method_21_code 35 = .ok (.istore 4, 2) := by decide +kernel
theorem em84_37 : decode prog_1_method_21_code 37 = .ok (.aload_n 0, 1) := by decide +kernel
theorem em84_38 : decode prog_1_method_21_code 38 = .ok (.getfield 39, 3) := by decide +kernel
theorem em84_41 : decode prog_1_method_21_code 41 = .ok (.getfield 246, 3) := by decide +kernel
theorem em84_44 : decode prog_1_method_21_code 44 = .ok (.iload 4, 2) := by decide +kernel
theorem em84_46 : decode prog_1_method_21_code 46 = .ok (.iaload, 1) := by decide +kernel
theorem em84_47 : decode prog_1_method_21_code 47 = .ok (.ifCond .eq 19, 3) := by decide +kernel
theorem em84_50 : decode prog_1_method_21_code 50 = .ok (.aload_n 0, 1) := by decide +kernel
theorem em84_51 : decode prog_1_method_21_code 51 = .ok (.getfield 39, 3) := by decide +kernel
theorem em84_54 : decode prog_1_method_21_code 54 = .ok (.iload_n 1, 1) := by decide +kernel
theorem em84_55 : decode prog_1_method_21_code 55 = .ok (.bipush 8, 2) := by decide +kernel
theorem em84_57 : decode prog_1_method_21_code 57 = .ok (.imul, 1) := by decide +kernel
theorem em84_58 : decode prog_1_method_21_code 58 = .ok (.iload_n 3, 1) := by decide +kernel
theorem em84_59 : decode prog_1_method_21_code 59 = .ok (.iadd, 1) := by decide +kernel
theorem em84_60 : decode prog_1_method_21_code 60 = .ok (.invokevirtual 158, 3) := by decide +kernel
theorem em84_63 : decode prog_1_method_21_code 63 = .ok (.ifCond .ne 5, 3) := by decide +kernel
theorem em84_66 : decode prog_1_method_21_code 66 = .ok (.iconst 0, 1) := by decide +kernel
theorem em84_67 : decode prog_1_method_21_code 67 = .ok (.ireturn, 1) := by decide +kernel
theorem em84_68 : decode prog_1_method_21_code 68 = .ok (.aload_n 0, 1) := by decide +kernel
theorem em84_69 : decode prog_1_method_21_code 69 = .ok (.getfield 49, 3) := by decide +kernel
theorem em84_72 : decode prog_1_method_21_code 72 = .ok (.aload_n 0, 1) := by decide +kernel
theorem em84_73 : decode prog_1_method_21_code 73 = .ok (.getfield 39, 3) := by decide +kernel
theorem em84_76 : decode prog_1_method_21_code 76 = .ok (.invokevirtual 220, 3) := by decide +kernel
theorem em84_79 : decode prog_1_method_21_code 79 = .ok (.aload_n 0, 1) := by decide +kernel
theorem em84_80 : decode prog_1_method_21_code 80 = .ok (.getfield 39, 3) := by decide +kernel
theorem em84_83 : decode prog_1_method_21_code 83 = .ok (.iload_n 1, 1) := by decide +kernel
theorem em84_84 : decode prog_1_method_21_code 84 = .ok (.iload_n 2, 1) := by decide +kernel
theorem em84_85 : decode prog_1_method_21_code 85 = .ok (.iload_n 3, 1) := by decide +kernel
theorem em84_86 : decode prog_1_method_21_code 86 = .ok (.invokevirtual 242, 3) := by decide +kernel
theorem em84_89 : decode prog_1_method_21_code 89 = .ok (.aload_n 0, 1) := by decide +kernel
theorem em84_90 : decode prog_1_method_21_code 90 = .ok (.getfield 39, 3) := by decide +kernel
theorem em84_93 : decode prog_1_method_21_code 93 = .ok (.getfield 246, 3) := by decide +kernel
theorem em84_96 : decode prog_1_method_21_code 96 = .ok (.iload 4, 2) := by decide +kernel
theorem em84_98 : decode prog_1_method_21_code 98 = .ok (.dup2, 1) := by decide +kernel
theorem em84_99 : decode prog_1_method_21_code 99 = .ok (.iaload, 1) := by decide +kernel
theorem em84_100 : decode prog_1_method_21_code 100 = .ok (.iconst 1, 1) := by decide +kernel
theorem em84_101 : decode prog_1_method_21_code 101 = .ok (.isub, 1) := by decide +kernel
theorem em84_102 : decode prog_1_method_21_code 102 = .ok (.iastore, 1) := by decide +kernel
theorem em84_103 : decode prog_1_method_21_code 103 = .ok (.iconst 1, 1) := by decide +kernel
theorem em84_104 : decode prog_1_method_21_code 104 = .ok (.ireturn, 1) := by decide +kernel
/-! CapitalCase.giveBack:(III)Z -/
noncomputable def zTr_89 : Nat → Option aF := bn 50 (bn 26 (bn 11 (bn 3 (bn 1 (bl 0 (a_aload 0 1)) (bn 2 (bl 1 (a_iload 1 2)) (bl 2 (a_iload 3 3)))) (bn 9 (bn 6 (bl 3 (a_invV zG0 zprot (false, false) zc_93 (zbd 93) (8, 6, 396) 11 3 6)) (bl 6 (a_if 0 23 9))) (bn 10 (bl 9 (a_aload 0 10)) (bl 10 (a_iload 2 11))))) (bn 19 (bn 15 (bn 12 (bl 11 (a_iload 3 12)) (bl 12 (a_invV zG0 zprot (false, false) zc_93 (zbd 93) (8, 6, 396) 11 3 15))) (bn 18 (bl 15 (a_if 0 23 18)) (bl 18 (a_iload 1 19)))) (bn 23 (bn 20 (bl 19 (a_iload 2 20)) (bl 20 (a_icmp 1 25 23))) (bn 25 (bl 23 (a_const 0 24)) (bl 25 (a_iload 2 26)))))) (bn 34 (bn 29 (bn 27 (bl 26 (a_const 5 27)) (bn 28 (bl 27 (a_bin fmul 28)) (bl 28 (a_iload 1 29)))) (bn 32 (bn 30 (bl 29 (a_bin fadd 30)) (bl 30 (a_const 8 32))) (bn 33 (bl 32 (a_bin fmul 33)) (bl 33 (a_iload 3 34))))) (bn 41 (bn 37 (bn 35 (bl 34 (a_bin fadd 35)) (bl 35 (a_istore 4 37))) (bn 38 (bl 37 (a_aload 0 38)) (bl 38 (a_getf zG0 zT0 11 1 41)))) (bn 46 (bn 44 (bl 41 (a_getf zG0 zT0 8 3 44)) (bl 44 (a_iload 4 46))) (bn 47 (bl 46 (a_ald zG0 zT0 (false, false) ts0 47)) (bl 47 (a_if 0 66 50))))))) (bn 79 (bn 60 (bn 55 (bn 51 (bl 50 (a_aload 0 51)) (bn 54 (bl 51 (a_getf zG0 zT0 11 1 54)) (bl 54 (a_iload 1 55)))) (bn 58 (bn 57 (bl 55 (a_const 8 57)) (bl 57 (a_bin fmul 58))) (bn 59 (bl 58 (a_iload 3 59)) (bl 59 (a_bin fadd 60))))) (bn 69 (bn 66 (bn 63 (bl 60 (a_invV zG0 zprot (false, false) zc_55 (zbd 55) (8, 6, 396) 8 2 63)) (bl 63 (a_if 1 68 66))) (bn 68 (bl 66 (a_const 0 67)) (bl 68 (a_aload 0 69)))) (bn 73 (bn 72 (bl 69 (a_getf zG0 zT0 11 8 72)) (bl 72 (a_aload 0 73))) (bn 76 (bl 73 (a_getf zG0 zT0 11 1 76)) (bl 76 (a_invV zG0 zprot (false, false) zc_0 (zbd 0) (8, 6, 396) 0 2 79)))))) (bn 93 (bn 85 (bn 83 (bn 80 (bl 79 (a_aload 0 80)) (bl 80 (a_getf zG0 zT0 11 1 83))) (bn 84 (bl 83 (a_iload 1 84)) (bl 84 (a_iload 2 85)))) (bn 89 (bn 86 (bl 85 (a_iload 3 86)) (bl 86 (a_invV zG0 zprot (false, false) zc_61 (zbd 61) (8, 6, 396) 8 4 89))) (bn 90 (bl 89 (a_aload 0 90)) (bl 90 (a_getf zG0 zT0 11 1 93))))) (bn 100 (bn 98 (bn 96 (bl 93 (a_getf zG0 zT0 8 3 96)) (bl 96 (a_iload 4 98))) (bn 99 (bl 98 (a_dup2 99)) (bl 99 (a_ald zG0 zT0 (false, false) ts0 100)))) (bn 102 (bn 101 (bl 100 (a_const 1 101)) (bl 101 (a_bin fsub 102))) (bn 103 (bl 102 (a_ast zG0 zT0 ts0 103)) (bl 103 (a_const 1 104)))))))
set_option maxRecDepth 100000 in
set_option maxHeartbeats 4000000 in
theorem zTo_89 {pre : zPre} {post : zPost} (H : zTieC pre post) {d : Nat × Nat × Nat} (hd : zLe (8, 6, 396) d) : aTr zG0 zT0 zInv (false, false) PZ zbd pre post d prog_1_method_21_code "CapitalCase" zTr_89 := (xB_n (xB_n (xB_n (xB_n (xB_n (xB_l ⟨_, zs_aload_n em84_0, as_aload⟩) (xB_n (xB_l ⟨_, zs_iload_n em84_1, as_iload⟩) (xB_l ⟨_, zs_iload_n em84_2, as_iload⟩))) (xB_n (xB_n (xB_l ⟨_, zs_invV (T := TX11) em84_3 zl_93 rfl wd_850 wd_852 wd_19 ((congrFun xo_0 147).trans rfl) xm_88, ag_invV H zh_93 hd (by decide)⟩) (xB_l ⟨_, zs_ifeq em84_6 (t := 23) (by decide), as_if⟩)) (xB_n (xB_l ⟨_, zs_aload_n em84_9, as_aload⟩) (xB_l ⟨_, zs_iload_n em84_10, as_iload⟩)))) (xB_n (xB_n (xB_n (xB_l ⟨_, zs_iload_n em84_11, as_iload⟩) (xB_l ⟨_, zs_invV (T := TX11) em84_12 zl_93 rfl wd_850 wd_852 wd_19 ((congrFun xo_0 147).trans rfl) xm_88, ag_invV H zh_93 hd (by decide)⟩)) (xB_n (xB_l ⟨_, zs_ifeq em84_15 (t := 23) (by decide), as_if⟩) (xB_l ⟨_, zs_iload_n em84_18, as_iload⟩))) (xB_n (xB_n (xB_l ⟨_, zs_iload_n em84_19, as_iload⟩) (xB_l ⟨_, zs_icmpne em84_20 (t := 25) (by decide), as_icmp⟩)) (xB_n (xB_l ⟨_, zs_iconst (v := 0) em84_23 (by decide +kernel), as_const (by decide +kernel)⟩) (xB_l ⟨_, zs_iload_n em84_25, as_iload⟩))))) (xB_n (xB_n (xB_n (xB_l ⟨_, zs_iconst (v := 5) em84_26 (by decide +kernel), as_const (by decide +kernel)⟩) (xB_n (xB_l ⟨_, zs_imul em84_27, as_bin fmul_ok⟩) (xB_l ⟨_, zs_iload_n em84_28, as_iload⟩))) (xB_n (xB_n (xB_l ⟨_, zs_iadd em84_29, as_bin fadd_ok⟩) (xB_l ⟨_, zs_bipush (v := 8) em84_30 (by decide +kernel), as_const (by decide +kernel)⟩)) (xB_n (xB_l ⟨_, zs_imul em84_32, as_bin fmul_ok⟩) (xB_l ⟨_, zs_iload_n em84_33, as_iload⟩)))) (xB_n (xB_n (xB_n (xB_l ⟨_, zs_iadd em84_34, as_bin fadd_ok⟩) (xB_l ⟨_, zs_istore em84_35, as_istore⟩)) (xB_n (xB_l ⟨_, zs_aload_n em84_37, as_aload⟩) (xB_l ⟨_, zs_getf (T := TX11) (M := 16) (ci := 11) (j := 1) em84_38 rfl inX11 (by decide) wd_558 ((congrFun xo_0 39).trans rfl), as_getf zTie⟩))) (xB_n (xB_n (xB_l ⟨_, zs_getf (T := TX8) (M := 10) (ci := 8) (j := 3) em84_41 rfl inX8 (by decide) wd_335 ((congrFun xo_0 246).trans rfl), as_getf zTie⟩) (xB_l ⟨_, zs_iload em84_44, as_iload⟩)) (xB_n (xB_l ⟨_, zs_iald em84_46, ag_iald⟩) (xB_l ⟨_, zs_ifeq em84_47 (t := 66) (by decide), as_if⟩)))))) (xB_n (xB_n (xB_n (xB_n (xB_l ⟨_, zs_aload_n em84_50, as_aload⟩) (xB_n (xB_l ⟨_, zs_getf (T := TX11) (M := 16) (ci := 11) (j := 1) em84_51 rfl inX11 (by decide) wd_558 ((congrFun xo_0 39).trans rfl), as_getf zTie⟩) (xB_l ⟨_, zs_iload_n em84_54, as_iload⟩))) (xB_n (xB_n (xB_l ⟨_, zs_bipush (v := 8) em84_55 (by decide +kernel), as_const (by decide +kernel)⟩) (xB_l ⟨_, zs_imul em84_57, as_bin fmul_ok⟩)) (xB_n (xB_l ⟨_, zs_iload_n em84_58, as_iload⟩) (xB_l ⟨_, zs_iadd em84_59, as_bin fadd_ok⟩)))) (xB_n (xB_n (xB_n (xB_l ⟨_, zs_invV (T := TX8) em84_60 zl_55 rfl wd_858 wd_859 wd_860 ((congrFun xo_0 158).trans rfl) xm_51, ag_invV H zh_55 hd (by decide)⟩) (xB_l ⟨_, zs_ifne em84_63 (t := 68) (by decide), as_if⟩)) (xB_n (xB_l ⟨_, zs_iconst (v := 0) em84_66 (by decide +kernel), as_const (by decide +kernel)⟩) (xB_l ⟨_, zs_aload_n em84_68, as_aload⟩))) (xB_n (xB_n (xB_l ⟨_, zs_getf (T := TX11) (M := 16) (ci := 11) (j := 8) em84_69 rfl inX11 (by decide) wd_560 ((congrFun xo_0 49).trans rfl), as_getf zTie⟩) (xB_l ⟨_, zs_aload_n em84_72, as_aload⟩)) (xB_n (xB_l ⟨_, zs_getf (T := TX11) (M := 16) (ci := 11) (j := 1) em84_73 rfl inX11 (by decide) wd_558 ((congrFun xo_0 39).trans rfl), as_getf zTie⟩) (xB_l ⟨_, zs_invV (T := TX0) em84_76 zl_0 rfl wd_967 wd_968 wd_969 ((congrFun xo_0 220).trans rfl) xm_0, ag_invV H zh_0 hd (by decide)⟩))))) (xB_n (xB_n (xB_n (xB_n (xB_l ⟨_, zs_aload_n em84_79, as_aload⟩) (xB_l ⟨_, zs_getf (T := TX11) (M := 16) (ci := 11) (j := 1) em84_80 rfl inX11 (by decide) wd_558 ((congrFun xo_0 39).trans rfl), as_getf zTie⟩)) (xB_n (xB_l ⟨_, zs_iload_n em84_83, as_iload⟩) (xB_l ⟨_, zs_iload_n em84_84, as_iload⟩))) (xB_n (xB_n (xB_l ⟨_, zs_iload_n em84_85, as_iload⟩) (xB_l ⟨_, zs_invV (T := TX8) em84_86 zl_61 rfl wd_993 wd_994 wd_995 ((congrFun xo_0 242).trans rfl) xm_57, ag_invV H zh_61 hd (by decide)⟩)) (xB_n (xB_l ⟨_, zs_aload_n em84_89, as_aload⟩) (xB_l ⟨_, zs_getf (T := TX11) (M := 16) (ci := 11) (j := 1) em84_90 rfl inX11 (by decide) wd_558 ((congrFun xo_0 39).trans rfl), as_getf zTie⟩)))) (xB_n (xB_n (xB_n (xB_l ⟨_, zs_getf (T := TX8) (M := 10) (ci := 8) (j := 3) em84_93 rfl inX8 (by decide) wd_335 ((congrFun xo_0 246).trans rfl), as_getf zTie⟩) (xB_l ⟨_, zs_iload em84_96, as_iload⟩)) (xB_n (xB_l ⟨_, zs_dup2 em84_98, as_dup2⟩) (xB_l ⟨_, zs_iald em84_99, ag_iald⟩))) (xB_n (xB_n (xB_l ⟨_, zs_iconst (v := 1) em84_100 (by decide +kernel), as_const (by decide +kernel)⟩) (xB_l ⟨_, zs_isub em84_101, as_bin fsub_ok⟩)) (xB_n (xB_l ⟨_, zs_iast zInj0 em84_102, as_iast zTie⟩) (xB_l ⟨_, zs_iconst (v := 1) em84_103 (by decide +kernel), as_const (by decide +kernel)⟩)))))))
set_option maxRecDepth 100000 in
set_option maxHeartbeats 4000000 in
theorem zM_89 : zOKa 89 zc_89 := z_auto (cuts := []) (rets := [(24, 2), (67, 2), (104, 2)]) (fuel := 1000) rfl rfl (by decide) (xrt_ok (xR_c (Or.inr (Or.inl ⟨rfl, em84_24, rfl⟩)) (xR_c (Or.inr (Or.inl ⟨rfl, em84_67, rfl⟩)) (xR_c (Or.inr (Or.inl ⟨rfl, em84_104, rfl⟩)) (xR_n))))) (fun _ _ H _ hd => zTo_89 H hd) (by decide +kernel)
theorem em85_0 : decode prog_1_method_46_code 0 = .ok (.iconst 0, 1) := by decide +kernel
theorem em85_1 : decode prog_1_method_46_code 1 = .ok (.istore_n 1, 1) := by decide +kernel
theorem em85_2 : decode prog_1_method_46_code 2 = .ok (.iconst 0, 1) := by decide +kernel
theorem em85_3 : decode prog_1_method_46_code 3 = .ok (.istore_n 2, 1) := by decide +kernel
theorem em85_4 : decode prog_1_method_46_code 4 = .ok (.iload_n 2, 1) := by decide +kernel
theorem em85_5 : decode prog_1_method_46_code 5 = .ok (.iconst 3, 1) := by decide +kernel
theorem em85_6 : decode prog_1_method_46_code 6 = .ok (.if_icmp .ge 21, 3) := by decide +kernel
theorem em85_9 : decode prog_1_method_46_code 9 = .ok (.aload_n 0, 1) := by decide +kernel
theorem em85_10 : decode prog_1_method_46_code 10 = .ok (.getfield 57, 3) := by decide +kernel
theorem em85_13 : decode prog_1_method_46_code 13 = .ok (.iload_n 2, 1) := by decide +kernel
theorem em85_14 : decode prog_1_method_46_code 14 = .ok (.baload, 1) := by decide +kernel
theorem em85_15 : decode prog_1_method_46_code 15 = .ok (.ifCond .eq 6, 3) := by decide +kernel
theorem em85_18 : decode prog_1_method_46_code 18 = .ok (.iinc 1 1, 3) := by decide +kernel
theorem em85_21 : decode prog_1_method_46_code 21 = .ok (.iinc 2 1, 3) := by decide +kernel
theorem em85_24 : decode prog_1_method_46_code 24 = .ok (.goto (-20), 3) := by decide +kernel
theorem em85_27 : decode prog_1_method_46_code 27 = .ok (.iload_n 1, 1) := by decide +kernel
theorem em85_28 : decode prog_1_method_46_code 28 = .ok (.ireturn, 1) := by decide +kernel
/-! CapitalCase.heldSlots:()I -/
noncomputable def zTr_90 : Nat → Option aF := bn 10 (bn 4 (bn 2 (bn 1 (bl 0 (a_const 0 1)) (bl 1 (a_istore 1 2))) (bn 3 (bl 2 (a_const 0 3)) (bl 3 (a_istore 2 4)))) (bn 6 (bn 5 (bl 4 (a_iload 2 5)) (bl 5 (a_const 3 6))) (bn 9 (bl 6 (a_icmp 3 27 9)) (bl 9 (a_aload 0 10))))) (bn 18 (bn 14 (bn 13 (bl 10 (a_getf zG0 zT0 11 12 13)) (bl 13 (a_iload 2 14))) (bn 15 (bl 14 (a_ald zG0 zT0 (false, false) ts12 15)) (bl 15 (a_if 0 21 18)))) (bn 24 (bn 21 (bl 18 (a_iinc 1 1 21)) (bl 21 (a_iinc 2 1 24))) (bn 27 (bl 24 (a_goto 4)) (bl 27 (a_iload 1 28)))))
set_option maxRecDepth 100000 in
set_option maxHeartbeats 4000000 in
theorem zTo_90 {pre : zPre} {post : zPost} (H : zTieC pre post) {d : Nat × Nat × Nat} (hd : zLe (0, 0, 0) d) : aTr zG0 zT0 zInv (false, false) PZ zbd pre post d prog_1_method_46_code "CapitalCase" zTr_90 := (xB_n (xB_n (xB_n (xB_n (xB_l ⟨_, zs_iconst (v := 0) em85_0 (by decide +kernel), as_const (by decide +kernel)⟩) (xB_l ⟨_, zs_istore_n em85_1, as_istore⟩)) (xB_n (xB_l ⟨_, zs_iconst (v := 0) em85_2 (by decide +kernel), as_const (by decide +kernel)⟩) (xB_l ⟨_, zs_istore_n em85_3, as_istore⟩))) (xB_n (xB_n (xB_l ⟨_, zs_iload_n em85_4, as_iload⟩) (xB_l ⟨_, zs_iconst (v := 3) em85_5 (by decide +kernel), as_const (by decide +kernel)⟩)) (xB_n (xB_l ⟨_, zs_icmpge em85_6 (t := 27) (by decide), as_icmp⟩) (xB_l ⟨_, zs_aload_n em85_9, as_aload⟩)))) (xB_n (xB_n (xB_n (xB_l ⟨_, zs_getf (T := TX11) (M := 16) (ci := 11) (j := 12) em85_10 rfl inX11 (by decide) wd_562 ((congrFun xo_0 57).trans rfl), as_getf zTie⟩) (xB_l ⟨_, zs_iload_n em85_13, as_iload⟩)) (xB_n (xB_l ⟨_, zs_bald em85_14, ag_bald⟩) (xB_l ⟨_, zs_ifeq em85_15 (t := 21) (by decide), as_if⟩))) (xB_n (xB_n (xB_l ⟨_, zs_iinc (k := 1) em85_18 (by decide +kernel), as_iinc (by decide +kernel)⟩) (xB_l ⟨_, zs_iinc (k := 1) em85_21 (by decide +kernel), as_iinc (by decide +kernel)⟩)) (xB_n (xB_l ⟨_, zs_goto em85_24 (t := 4) (by decide), as_goto⟩) (xB_l ⟨_, zs_iload_n em85_27, as_iload⟩)))))
set_option maxRecDepth 100000 in
set_option maxHeartbeats 4000000 in
theorem zM_90 : zOKa 90 zc_90 := z_auto (cuts := [(4, ([(0, 0), ((-2147483648), 2147483647), (0, 3)], [], [some (.inr (.inl (0, 0))), some (.inl (1, 0)), some (.inl (2, 0))], [], [], (0, 0)), [(0, 1), (0, 2)], 3, [0, 0, (-1)])]) (rets := [(28, 1)]) (fuel := 1000) rfl rfl (by decide) (xrt_ok (xR_c (Or.inl ⟨rfl, em85_28, rfl⟩) (xR_n))) (fun _ _ H _ hd => zTo_90 H hd) (by decide +kernel)
theorem em87_0 : decode prog_1_method_12_code 0 = .ok (.aload_n 0, 1) := by decide +kernel
theorem em87_1 : decode prog_1_method_12_code 1 = .ok (.iload_n 1, 1) := by decide +kernel
theorem em87_2 : decode prog_1_method_12_code 2 = .ok (.iload_n 2, 1) := by decide +kernel
theorem em87_3 : decode prog_1_method_12_code 3 = .ok (.invokevirtual 147, 3) := by decide +kernel
theorem em87_6 : decode prog_1_method_12_code 6 = .ok (.ifCond .ne 5, 3) := by decide +kernel
theorem em87_9 : decode prog_1_method_12_code 9 = .ok (.iconst (-1), 1) := by decide +kernel
theorem em87_10 : decode prog_1_method_12_code 10 = .ok (.ireturn, 1) := by decide +kernel
theorem em87_11 : decode prog_1_method_12_code 11 = .ok (.iload_n 1, 1) := by decide +kernel
theorem em87_12 : decode prog_1_method_12_code 12 = .ok (.bipush 8, 2) := by decide +kernel
theorem em87_14 : decode prog_1_method_12_code 14 = .ok (.imul, 1) := by decide +kernel
theorem em87_15 : decode prog_1_method_12_code 15 = .ok (.iload_n 2, 1) := by decide +kernel
theorem em87_16 : decode prog_1_method_12_code 16 = .ok (.iadd, 1) := by decide +kernel
theorem em87_17 : decode prog_1_method_12_code 17 = .ok (.istore 4, 2) := by decide +kernel
theorem em87_19 : decode prog_1_method_12_code 19 = .ok (.iload_n 3, 1) := by decide +kernel
theorem em87_20 : decode prog_1_method_12_code 20 = .ok (.tableswitch 121 0 6 #[44, 55, 66, 76, 87, 97, 107], 44) := by decide +kernel
theorem em87_64 : decode prog_1_method_12_code 64 = .ok (.aload_n 0, 1) := by decide +kernel
theorem em87_65 : decode prog_1_method_12_code 65 = .ok (.getfield 39, 3) := by decide +kernel
theorem em87_68 : decode prog_1_method_12_code 68 = .ok (.getfield 151, 3) := by decide +kernel
theorem em87_71 : decode prog_1_method_12_code 71 = .ok (.iload 4, 2) := by decide +kernel
theorem em87_73 : decode prog_1_method_12_code 73 = .ok (.iaload, 1) := by decide +kernel
theorem em87_74 : decode prog_1_method_12_code 74 = .ok (.ireturn, 1) := by decide +kernel
theorem em87_75 : decode prog_1_method_12_code 75 = .ok (.aload_n 0, 1) := by decide +kernel
theorem em87_76 : decode prog_1_method_12_code 76 = .ok (.getfield 39, 3) := by decide +kernel
theorem em87_79 : decode prog_1_method_12_code 79 = .ok (.getfield 155, 3) := by decide +kernel
theorem em87_82 : decode prog_1_method_12_code 82 = .ok (.iload 4, 2) := by decide +kernel
theorem em87_84 : decode prog_1_method_12_code 84 = .ok (.iaload, 1) := by decide +kernel
theorem em87_85 : decode prog_1_method_12_code 85 = .ok (.ireturn, 1) := by decide +kernel
theorem em87_86 : decode prog_1_method_12_code 86 = .ok (.aload_n 0, 1) := by decide +kernel
theorem em87_87 : decode prog_1_method_12_code 87 = .ok (.getfield 39, 3) := by decide +kernel
theorem em87_90 : decode prog_1_method_12_code 90 = .ok (.iload 4, 2) := by decide +kernel
theorem em87_92 : decode prog_1_method_12_code 92 = .ok (.invokevirtual 158, 3) := by decide +kernel
theorem em87_95 : decode prog_1_method_12_code 95 = .ok (.ireturn, 1) := by decide +kernel
theorem em87_96 : decode prog_1_method_12_code 96 = .ok (.aload_n 0, 1) := by decide +kernel
theorem em87_97 : decode prog_1_method_12_code 97 = .ok (.getfield 39, 3) := by decide +kernel
theorem em87_100 : decode prog_1_method_12_code 100 = .ok (.getfield 161, 3) := by decide +kernel
theorem em87_103 : decode prog_1_method_12_code 103 = .ok (.iload 4, 2) := by decide +kernel
theorem em87_105 : decode prog_1_method_12_code 105 = .ok (.iaload, 1) := by decide +kernel
theorem em87_106 : decode prog_1_method_12_code 106 = .ok (.ireturn, 1) := by decide +kernel
theorem em87_107 : decode prog_1_method_12_code 107 = .ok (.aload_n 0, 1) := by decide +kernel
theorem em87_108 : decode prog_1_method_12_code 108 = .ok (.getfield 39, 3) := by decide +kernel
theorem em87_111 : decode prog_1_method_12_code 111 = .ok (.iload_n 1, 1) := by decide +kernel
theorem em87_112 : decode prog_1_method_12_code 112 = .ok (.iload_n 2, 1) := by decide +kernel
theorem em87_113 : decode prog_1_method_12_code 113 = .ok (.invokevirtual 164, 3) := by decide +kernel
theorem em87_116 : decode prog_1_method_12_code 116 = .ok (.ireturn, 1) := by decide +kernel
theorem em87_117 : decode prog_1_method_12_code 117 = .ok (.aload_n 0, 1) := by decide +kernel
theorem em87_118 : decode prog_1_method_12_code 118 = .ok (.getfield 39, 3) := by decide +kernel
theorem em87_121 : decode prog_1_method_12_code 121 = .ok (.iload_n 1, 1) := by decide +kernel
theorem em87_122 : decode prog_1_method_12_code 122 = .ok (.iload_n 2, 1) := by decide +kernel
theorem em87_123 : decode prog_1_method_12_code 123 = .ok (.invokevirtual 168, 3) := by decide +kernel
theorem em87_126 : decode prog_1_method_12_code 126 = .ok (.ireturn, 1) := by decide +kernel
theorem em87_127 : decode prog_1_method_12_code 127 = .ok (.aload_n 0, 1) := by decide +kernel
theorem em87_128 : decode prog_1_method_12_code 128 = .ok (.getfield 73, 3) := by decide +kernel
theorem em87_131 : decode prog_1_method_12_code 131 = .ok (.aload_n 0, 1) := by decide +kernel
theorem em87_132 : decode prog_1_method_12_code 132 = .ok (.getfield 39, 3) := by decide +kernel
theorem em87_135 : decode prog_1_method_12_code 135 = .ok (.iload_n 1, 1) := by decide +kernel
theorem em87_136 : decode prog_1_method_12_code 136 = .ok (.iload_n 2, 1) := by decide +kernel
theorem em87_137 : decode prog_1_method_12_code 137 = .ok (.invokevirtual 171, 3) := by decide +kernel
theorem em87_140 : decode prog_1_method_12_code 140 = .ok (.ireturn, 1) := by decide +kernel
theorem em87_141 : decode prog_1_method_12_code 141 = .ok (.iconst (-1), 1) := by decide +kernel
theorem em87_142 : decode prog_1_method_12_code 142 = .ok (.ireturn, 1) := by decide +kernel
/-! CapitalCase.house:(III)I -/
noncomputable def zTr_92 : Nat → Option aF := bn 87 (bn 19 (bn 11 (bn 3 (bn 1 (bl 0 (a_aload 0 1)) (bn 2 (bl 1 (a_iload 1 2)) (bl 2 (a_iload 2 3)))) (bn 6 (bl 3 (a_invV zG0 zprot (true, false) zc_93 (zbd 93) (7, 0, 0) 11 3 6)) (bn 9 (bl 6 (a_if 1 11 9)) (bl 9 (a_const (-1) 10))))) (bn 15 (bn 12 (bl 11 (a_iload 1 12)) (bn 14 (bl 12 (a_const 8 14)) (bl 14 (a_bin fmul 15)))) (bn 16 (bl 15 (a_iload 2 16)) (bn 17 (bl 16 (a_bin fadd 17)) (bl 17 (a_istore 4 19)))))) (bn 73 (bn 65 (bn 20 (bl 19 (a_iload 3 20)) (bn 64 (bl 20 (a_tsw 0 [64, 75, 86, 96, 107, 117, 127] 141)) (bl 64 (a_aload 0 65)))) (bn 68 (bl 65 (a_getf zG0 zT0 11 1 68)) (bn 71 (bl 68 (a_getf zG0 zT0 8 0 71)) (bl 71 (a_iload 4 73))))) (bn 79 (bn 75 (bl 73 (a_ald zG0 zT0 (true, false) ts0 74)) (bn 76 (bl 75 (a_aload 0 76)) (bl 76 (a_getf zG0 zT0 11 1 79)))) (bn 84 (bn 82 (bl 79 (a_getf zG0 zT0 8 1 82)) (bl 82 (a_iload 4 84))) (bn 86 (bl 84 (a_ald zG0 zT0 (true, false) ts0 85)) (bl 86 (a_aload 0 87))))))) (bn 117 (bn 103 (bn 96 (bn 90 (bl 87 (a_getf zG0 zT0 11 1 90)) (bn 92 (bl 90 (a_iload 4 92)) (bl 92 (a_invV zG0 zprot (true, false) zc_55 (zbd 55) (7, 0, 0) 8 2 95)))) (bn 97 (bl 96 (a_aload 0 97)) (bn 100 (bl 97 (a_getf zG0 zT0 11 1 100)) (bl 100 (a_getf zG0 zT0 8 2 103))))) (bn 108 (bn 105 (bl 103 (a_iload 4 105)) (bn 107 (bl 105 (a_ald zG0 zT0 (true, false) ts0 106)) (bl 107 (a_aload 0 108)))) (bn 112 (bn 111 (bl 108 (a_getf zG0 zT0 11 1 111)) (bl 111 (a_iload 1 112))) (bn 113 (bl 112 (a_iload 2 113)) (bl 113 (a_invV zG0 zprot (true, false) zc_57 (zbd 57) (7, 0, 0) 8 3 116)))))) (bn 128 (bn 122 (bn 118 (bl 117 (a_aload 0 118)) (bn 121 (bl 118 (a_getf zG0 zT0 11 1 121)) (bl 121 (a_iload 1 122)))) (bn 123 (bl 122 (a_iload 2 123)) (bn 127 (bl 123 (a_invV zG0 zprot (true, false) zc_58 (zbd 58) (7, 0, 0) 8 3 126)) (bl 127 (a_aload 0 128))))) (bn 135 (bn 131 (bl 128 (a_getf zG0 zT0 11 5 131)) (bn 132 (bl 131 (a_aload 0 132)) (bl 132 (a_getf zG0 zT0 11 1 135)))) (bn 137 (bn 136 (bl 135 (a_iload 1 136)) (bl 136 (a_iload 2 137))) (bn 141 (bl 137 (a_invV zG0 zprot (true, false) zc_8 (zbd 8) (7, 0, 0) 1 4 140)) (bl 141 (a_const (-1) 142)))))))
set_option maxRecDepth 100000 in
set_option maxHeartbeats 4000000 in
theorem zTo_92 {pre : zPre} {post : zPost} (H : zTieC pre post) {d : Nat × Nat × Nat} (hd : zLe (7, 0, 0) d) : aTr zG0 zT0 zInv (true, false) PZ zbd pre post d prog_1_method_12_code "CapitalCase" zTr_92 := (xB_n (xB_n (xB_n (xB_n (xB_n (xB_l ⟨_, zs_aload_n em87_0, as_aload⟩) (xB_n (xB_l ⟨_, zs_iload_n em87_1, as_iload⟩) (xB_l ⟨_, zs_iload_n em87_2, as_iload⟩))) (xB_n (xB_l ⟨_, zs_invV (T := TX11) em87_3 zl_93 rfl wd_850 wd_852 wd_19 ((congrFun xo_0 147).trans rfl) xm_88, ag_invV H zh_93 hd (by decide)⟩) (xB_n (xB_l ⟨_, zs_ifne em87_6 (t := 11) (by decide), as_if⟩) (xB_l ⟨_, zs_iconst (v := (-1)) em87_9 (by decide +kernel), as_const (by decide +kernel)⟩)))) (xB_n (xB_n (xB_l ⟨_, zs_iload_n em87_11, as_iload⟩) (xB_n (xB_l ⟨_, zs_bipush (v := 8) em87_12 (by decide +kernel), as_const (by decide +kernel)⟩) (xB_l ⟨_, zs_imul em87_14, as_bin fmul_ok⟩))) (xB_n (xB_l ⟨_, zs_iload_n em87_15, as_iload⟩) (xB_n (xB_l ⟨_, zs_iadd em87_16, as_bin fadd_ok⟩) (xB_l ⟨_, zs_istore em87_17, as_istore⟩))))) (xB_n (xB_n (xB_n (xB_l ⟨_, zs_iload_n em87_19, as_iload⟩) (xB_n (xB_l ⟨_, zs_tsw (ts := [64, 75, 86, 96, 107, 117, 127]) (df := 141) em87_20 (by decide +kernel) (by decide +kernel) (ztsw (by decide +kernel) (by decide +kernel)), as_tsw⟩) (xB_l ⟨_, zs_aload_n em87_64, as_aload⟩))) (xB_n (xB_l ⟨_, zs_getf (T := TX11) (M := 16) (ci := 11) (j := 1) em87_65 rfl inX11 (by decide) wd_558 ((congrFun xo_0 39).trans rfl), as_getf zTie⟩) (xB_n (xB_l ⟨_, zs_getf (T := TX8) (M := 10) (ci := 8) (j := 0) em87_68 rfl inX8 (by decide) wd_324 ((congrFun xo_0 151).trans rfl), as_getf zTie⟩) (xB_l ⟨_, zs_iload em87_71, as_iload⟩)))) (xB_n (xB_n (xB_l ⟨_, zs_iald em87_73, ag_iald⟩) (xB_n (xB_l ⟨_, zs_aload_n em87_75, as_aload⟩) (xB_l ⟨_, zs_getf (T := TX11) (M := 16) (ci := 11) (j := 1) em87_76 rfl inX11 (by decide) wd_558 ((congrFun xo_0 39).trans rfl), as_getf zTie⟩))) (xB_n (xB_n (xB_l ⟨_, zs_getf (T := TX8) (M := 10) (ci := 8) (j := 1) em87_79 rfl inX8 (by decide) wd_328 ((congrFun xo_0 155).trans rfl), as_getf zTie⟩) (xB_l ⟨_, zs_iload em87_82, as_iload⟩)) (xB_n (xB_l ⟨_, zs_iald em87_84, ag_iald⟩) (xB_l ⟨_, zs_aload_n em87_86, as_aload⟩)))))) (xB_n (xB_n (xB_n (xB_n (xB_l ⟨_, zs_getf (T := TX11) (M := 16) (ci := 11) (j := 1) em87_87 rfl inX11 (by decide) wd_558 ((congrFun xo_0 39).trans rfl), as_getf zTie⟩) (xB_n (xB_l ⟨_, zs_iload em87_90, as_iload⟩) (xB_l ⟨_, zs_invV (T := TX8) em87_92 zl_55 rfl wd_858 wd_859 wd_860 ((congrFun xo_0 158).trans rfl) xm_51, ag_invV H zh_55 hd (by decide)⟩))) (xB_n (xB_l ⟨_, zs_aload_n em87_96, as_aload⟩) (xB_n (xB_l ⟨_, zs_getf (T := TX11) (M := 16) (ci := 11) (j := 1) em87_97 rfl inX11 (by decide) wd_558 ((congrFun xo_0 39).trans rfl), as_getf zTie⟩) (xB_l ⟨_, zs_getf (T := TX8) (M := 10) (ci := 8) (j := 2) em87_100 rfl inX8 (by decide) wd_333 ((congrFun xo_0 161).trans rfl), as_getf zTie⟩)))) (xB_n (xB_n (xB_l ⟨_, zs_iload em87_103, as_iload⟩) (xB_n (xB_l ⟨_, zs_iald em87_105, ag_iald⟩) (xB_l ⟨_, zs_aload_n em87_107, as_aload⟩))) (xB_n (xB_n (xB_l ⟨_, zs_getf (T := TX11) (M := 16) (ci := 11) (j := 1) em87_108 rfl inX11 (by decide) wd_558 ((congrFun xo_0 39).trans rfl), as_getf zTie⟩) (xB_l ⟨_, zs_iload_n em87_111, as_iload⟩)) (xB_n (xB_l ⟨_, zs_iload_n em87_112, as_iload⟩) (xB_l ⟨_, zs_invV (T := TX8) em87_113 zl_57 rfl wd_863 wd_864 wd_865 ((congrFun xo_0 164).trans rfl) xm_53, ag_invV H zh_57 hd (by decide)⟩))))) (xB_n (xB_n (xB_n (xB_l ⟨_, zs_aload_n em87_117, as_aload⟩) (xB_n (xB_l ⟨_, zs_getf (T := TX11) (M := 16) (ci := 11) (j := 1) em87_118 rfl inX11 (by decide) wd_558 ((congrFun xo_0 39).trans rfl), as_getf zTie⟩) (xB_l ⟨_, zs_iload_n em87_121, as_iload⟩))) (xB_n (xB_l ⟨_, zs_iload_n em87_122, as_iload⟩) (xB_n (xB_l ⟨_, zs_invV (T := TX8) em87_123 zl_58 rfl wd_867 wd_868 wd_869 ((congrFun xo_0 168).trans rfl) xm_54, ag_invV H zh_58 hd (by decide)⟩) (xB_l ⟨_, zs_aload_n em87_127, as_aload⟩)))) (xB_n (xB_n (xB_l ⟨_, zs_getf (T := TX11) (M := 16) (ci := 11) (j := 5) em87_128 rfl inX11 (by decide) wd_564 ((congrFun xo_0 73).trans rfl), as_getf zTie⟩) (xB_n (xB_l ⟨_, zs_aload_n em87_131, as_aload⟩) (xB_l ⟨_, zs_getf (T := TX11) (M := 16) (ci := 11) (j := 1) em87_132 rfl inX11 (by decide) wd_558 ((congrFun xo_0 39).trans rfl), as_getf zTie⟩))) (xB_n (xB_n (xB_l ⟨_, zs_iload_n em87_135, as_iload⟩) (xB_l ⟨_, zs_iload_n em87_136, as_iload⟩)) (xB_n (xB_l ⟨_, zs_invV (T := TX1) em87_137 zl_8 rfl wd_871 wd_872 wd_873 ((congrFun xo_0 171).trans rfl) xm_8, ag_invV H zh_8 hd (by decide)⟩) (xB_l ⟨_, zs_iconst (v := (-1)) em87_141 (by decide +kernel), as_const (by decide +kernel)⟩)))))))
set_option maxRecDepth 100000 in
set_option maxHeartbeats 4000000 in
theorem zM_92 : zOKa 92 zc_92 := z_auto (cuts := []) (rets := [(10, 1), (74, 1), (85, 1), (95, 1), (106, 1), (116, 1), (126, 1), (140, 1), (142, 1)]) (fuel := 1000) rfl rfl (by decide) (xrt_ok (xR_c (Or.inl ⟨rfl, em87_10, rfl⟩) (xR_c (Or.inl ⟨rfl, em87_74, rfl⟩) (xR_c (Or.inl ⟨rfl, em87_85, rfl⟩) (xR_c (Or.inl ⟨rfl, em87_95, rfl⟩) (xR_c (Or.inl ⟨rfl, em87_106, rfl⟩) (xR_c (Or.inl ⟨rfl, em87_116, rfl⟩) (xR_c (Or.inl ⟨rfl, em87_126, rfl⟩) (xR_c (Or.inl ⟨rfl, em87_140, rfl⟩) (xR_c (Or.inl ⟨rfl, em87_142, rfl⟩) (xR_n))))))))))) (fun _ _ H _ hd => zTo_92 H hd) (by decide +kernel)
