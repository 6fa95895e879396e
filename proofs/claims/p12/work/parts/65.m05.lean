theorem em88_0 : decode prog_1_method_9_code 0 = .ok (.aload_n 0, 1) := by decide +kernel
theorem em88_1 : decode prog_1_method_9_code 1 = .ok (.iload_n 1, 1) := by decide +kernel
theorem em88_2 : decode prog_1_method_9_code 2 = .ok (.invokevirtual 137, 3) := by decide +kernel
theorem em88_5 : decode prog_1_method_9_code 5 = .ok (.ifCond .eq 17, 3) := by decide +kernel
theorem em88_8 : decode prog_1_method_9_code 8 = .ok (.iload_n 2, 1) := by decide +kernel
theorem em88_9 : decode prog_1_method_9_code 9 = .ok (.ifCond .lt 13, 3) := by decide +kernel
theorem em88_12 : decode prog_1_method_9_code 12 = .ok (.iload_n 2, 1) := by decide +kernel
theorem em88_13 : decode prog_1_method_9_code 13 = .ok (.bipush 8, 2) := by decide +kernel
theorem em88_15 : decode prog_1_method_9_code 15 = .ok (.if_icmp .ge 7, 3) := by decide +kernel
theorem em88_18 : decode prog_1_method_9_code 18 = .ok (.iconst 1, 1) := by decide +kernel
theorem em88_19 : decode prog_1_method_9_code 19 = .ok (.goto 4, 3) := by decide +kernel
theorem em88_22 : decode prog_1_method_9_code 22 = .ok (.iconst 0, 1) := by decide +kernel
theorem em88_23 : decode prog_1_method_9_code 23 = .ok (.ireturn, 1) := by decide +kernel
/-! CapitalCase.isCell:(II)Z -/
noncomputable def zTr_93 : Nat → Option aF := bn 12 (bn 5 (bn 1 (bl 0 (a_aload 0 1)) (bn 2 (bl 1 (a_iload 1 2)) (bl 2 (a_invV zG0 zprot (false, false) zc_94 (zbd 94) (1, 0, 0) 11 2 5)))) (bn 8 (bl 5 (a_if 0 22 8)) (bn 9 (bl 8 (a_iload 2 9)) (bl 9 (a_if 2 22 12))))) (bn 18 (bn 13 (bl 12 (a_iload 2 13)) (bn 15 (bl 13 (a_const 8 15)) (bl 15 (a_icmp 3 22 18)))) (bn 19 (bl 18 (a_const 1 19)) (bn 22 (bl 19 (a_goto 23)) (bl 22 (a_const 0 23)))))
set_option maxRecDepth 100000 in
set_option maxHeartbeats 4000000 in
theorem zTo_93 {pre : zPre} {post : zPost} (H : zTieC pre post) {d : Nat × Nat × Nat} (hd : zLe (1, 0, 0) d) : aTr zG0 zT0 zInv (false, false) PZ zbd pre post d prog_1_method_9_code "CapitalCase" zTr_93 := (xB_n (xB_n (xB_n (xB_l ⟨_, zs_aload_n em88_0, as_aload⟩) (xB_n (xB_l ⟨_, zs_iload_n em88_1, as_iload⟩) (xB_l ⟨_, zs_invV (T := TX11) em88_2 zl_94 rfl wd_854 wd_856 wd_20 ((congrFun xo_0 137).trans rfl) xm_89, ag_invV H zh_94 hd (by decide)⟩))) (xB_n (xB_l ⟨_, zs_ifeq em88_5 (t := 22) (by decide), as_if⟩) (xB_n (xB_l ⟨_, zs_iload_n em88_8, as_iload⟩) (xB_l ⟨_, zs_iflt em88_9 (t := 22) (by decide), as_if⟩)))) (xB_n (xB_n (xB_l ⟨_, zs_iload_n em88_12, as_iload⟩) (xB_n (xB_l ⟨_, zs_bipush (v := 8) em88_13 (by decide +kernel), as_const (by decide +kernel)⟩) (xB_l ⟨_, zs_icmpge em88_15 (t := 22) (by decide), as_icmp⟩))) (xB_n (xB_l ⟨_, zs_iconst (v := 1) em88_18 (by decide +kernel), as_const (by decide +kernel)⟩) (xB_n (xB_l ⟨_, zs_goto em88_19 (t := 23) (by decide), as_goto⟩) (xB_l ⟨_, zs_iconst (v := 0) em88_22 (by decide +kernel), as_const (by decide +kernel)⟩)))))
set_option maxRecDepth 100000 in
set_option maxHeartbeats 4000000 in
theorem zM_93 : zOKa 93 zc_93 := z_auto (cuts := []) (rets := [(23, 2)]) (fuel := 1000) rfl rfl (by decide) (xrt_ok (xR_c (Or.inr (Or.inl ⟨rfl, em88_23, rfl⟩)) (xR_n))) (fun _ _ H _ hd => zTo_93 H hd) (by decide +kernel)
theorem em89_0 : decode prog_1_method_8_code 0 = .ok (.iload_n 1, 1) := by decide +kernel
theorem em89_1 : decode prog_1_method_8_code 1 = .ok (.ifCond .lt 18, 3) := by decide +kernel
theorem em89_4 : decode prog_1_method_8_code 4 = .ok (.iload_n 1, 1) := by decide +kernel
theorem em89_5 : decode prog_1_method_8_code 5 = .ok (.aload_n 0, 1) := by decide +kernel
theorem em89_6 : decode prog_1_method_8_code 6 = .ok (.getfield 23, 3) := by decide +kernel
theorem em89_9 : decode prog_1_method_8_code 9 = .ok (.getfield 134, 3) := by decide +kernel
theorem em89_12 : decode prog_1_method_8_code 12 = .ok (.if_icmp .ge 7, 3) := by decide +kernel
theorem em89_15 : decode prog_1_method_8_code 15 = .ok (.iconst 1, 1) := by decide +kernel
theorem em89_16 : decode prog_1_method_8_code 16 = .ok (.goto 4, 3) := by decide +kernel
theorem em89_19 : decode prog_1_method_8_code 19 = .ok (.iconst 0, 1) := by decide +kernel
theorem em89_20 : decode prog_1_method_8_code 20 = .ok (.ireturn, 1) := by decide +kernel
/-! CapitalCase.isHouse:(I)Z -/
noncomputable def zTr_94 : Nat → Option aF := bn 9 (bn 4 (bn 1 (bl 0 (a_iload 1 1)) (bl 1 (a_if 2 19 4))) (bn 5 (bl 4 (a_iload 1 5)) (bn 6 (bl 5 (a_aload 0 6)) (bl 6 (a_getf zG0 zT0 11 0 9))))) (bn 15 (bn 12 (bl 9 (a_getf zG0 zT0 6 0 12)) (bl 12 (a_icmp 3 19 15))) (bn 16 (bl 15 (a_const 1 16)) (bn 19 (bl 16 (a_goto 20)) (bl 19 (a_const 0 20)))))
set_option maxRecDepth 100000 in
set_option maxHeartbeats 4000000 in
theorem zTo_94 {pre : zPre} {post : zPost} (H : zTieC pre post) {d : Nat × Nat × Nat} (hd : zLe (0, 0, 0) d) : aTr zG0 zT0 zInv (false, false) PZ zbd pre post d prog_1_method_8_code "CapitalCase" zTr_94 := (xB_n (xB_n (xB_n (xB_l ⟨_, zs_iload_n em89_0, as_iload⟩) (xB_l ⟨_, zs_iflt em89_1 (t := 19) (by decide), as_if⟩)) (xB_n (xB_l ⟨_, zs_iload_n em89_4, as_iload⟩) (xB_n (xB_l ⟨_, zs_aload_n em89_5, as_aload⟩) (xB_l ⟨_, zs_getf (T := TX11) (M := 16) (ci := 11) (j := 0) em89_6 rfl inX11 (by decide) wd_556 ((congrFun xo_0 23).trans rfl), as_getf zTie⟩)))) (xB_n (xB_n (xB_l ⟨_, zs_getf (T := TX6) (M := 15) (ci := 6) (j := 0) em89_9 rfl inX6 (by decide) wd_167 ((congrFun xo_0 134).trans rfl), as_getf zTie⟩) (xB_l ⟨_, zs_icmpge em89_12 (t := 19) (by decide), as_icmp⟩)) (xB_n (xB_l ⟨_, zs_iconst (v := 1) em89_15 (by decide +kernel), as_const (by decide +kernel)⟩) (xB_n (xB_l ⟨_, zs_goto em89_16 (t := 20) (by decide), as_goto⟩) (xB_l ⟨_, zs_iconst (v := 0) em89_19 (by decide +kernel), as_const (by decide +kernel)⟩)))))
set_option maxRecDepth 100000 in
set_option maxHeartbeats 4000000 in
theorem zM_94 : zOKa 94 zc_94 := z_auto (cuts := []) (rets := [(20, 2)]) (fuel := 1000) rfl rfl (by decide) (xrt_ok (xR_c (Or.inr (Or.inl ⟨rfl, em89_20, rfl⟩)) (xR_n))) (fun _ _ H _ hd => zTo_94 H hd) (by decide +kernel)
theorem em90_0 : decode prog_1_method_11_code 0 = .ok (.aload_n 0, 1) := by decide +kernel
theorem em90_1 : decode prog_1_method_11_code 1 = .ok (.getfield 39, 3) := by decide +kernel
theorem em90_4 : decode prog_1_method_11_code 4 = .ok (.aload_n 0, 1) := by decide +kernel
theorem em90_5 : decode prog_1_method_11_code 5 = .ok (.getfield 23, 3) := by decide +kernel
theorem em90_8 : decode prog_1_method_11_code 8 = .ok (.getfield 141, 3) := by decide +kernel
theorem em90_11 : decode prog_1_method_11_code 11 = .ok (.invokevirtual 144, 3) := by decide +kernel
theorem em90_14 : decode prog_1_method_11_code 14 = .ok (.iload_n 1, 1) := by decide +kernel
theorem em90_15 : decode prog_1_method_11_code 15 = .ok (.ishr, 1) := by decide +kernel
theorem em90_16 : decode prog_1_method_11_code 16 = .ok (.iconst 1, 1) := by decide +kernel
theorem em90_17 : decode prog_1_method_11_code 17 = .ok (.iand, 1) := by decide +kernel
theorem em90_18 : decode prog_1_method_11_code 18 = .ok (.iconst 1, 1) := by decide +kernel
theorem em90_19 : decode prog_1_method_11_code 19 = .ok (.if_icmp .ne 7, 3) := by decide +kernel
theorem em90_22 : decode prog_1_method_11_code 22 = .ok (.iconst 1, 1) := by decide +kernel
theorem em90_23 : decode prog_1_method_11_code 23 = .ok (.goto 4, 3) := by decide +kernel
theorem em90_26 : decode prog_1_method_11_code 26 = .ok (.iconst 0, 1) := by decide +kernel
theorem em90_27 : decode prog_1_method_11_code 27 = .ok (.ireturn, 1) := by decide +kernel
/-! CapitalCase.isOpen:(I)Z -/
noncomputable def zTr_95 : Nat → Option aF := bn 15 (bn 5 (bn 1 (bl 0 (a_aload 0 1)) (bn 4 (bl 1 (a_getf zG0 zT0 11 1 4)) (bl 4 (a_aload 0 5)))) (bn 11 (bn 8 (bl 5 (a_getf zG0 zT0 11 0 8)) (bl 8 (a_getf zG0 zT0 6 1 11))) (bn 14 (bl 11 (a_invV zG0 zprot (false, false) zc_62 (zbd 62) (1, 0, 0) 8 2 14)) (bl 14 (a_iload 1 15))))) (bn 19 (bn 17 (bn 16 (bl 15 (a_bin fany 16)) (bl 16 (a_const 1 17))) (bn 18 (bl 17 (a_bin fand 18)) (bl 18 (a_const 1 19)))) (bn 23 (bn 22 (bl 19 (a_icmp 1 26 22)) (bl 22 (a_const 1 23))) (bn 26 (bl 23 (a_goto 27)) (bl 26 (a_const 0 27)))))
set_option maxRecDepth 100000 in
set_option maxHeartbeats 4000000 in
theorem zTo_95 {pre : zPre} {post : zPost} (H : zTieC pre post) {d : Nat × Nat × Nat} (hd : zLe (1, 0, 0) d) : aTr zG0 zT0 zInv (false, false) PZ zbd pre post d prog_1_method_11_code "CapitalCase" zTr_95 := (xB_n (xB_n (xB_n (xB_l ⟨_, zs_aload_n em90_0, as_aload⟩) (xB_n (xB_l ⟨_, zs_getf (T := TX11) (M := 16) (ci := 11) (j := 1) em90_1 rfl inX11 (by decide) wd_558 ((congrFun xo_0 39).trans rfl), as_getf zTie⟩) (xB_l ⟨_, zs_aload_n em90_4, as_aload⟩))) (xB_n (xB_n (xB_l ⟨_, zs_getf (T := TX11) (M := 16) (ci := 11) (j := 0) em90_5 rfl inX11 (by decide) wd_556 ((congrFun xo_0 23).trans rfl), as_getf zTie⟩) (xB_l ⟨_, zs_getf (T := TX6) (M := 15) (ci := 6) (j := 1) em90_8 rfl inX6 (by decide) wd_174 ((congrFun xo_0 141).trans rfl), as_getf zTie⟩)) (xB_n (xB_l ⟨_, zs_invV (T := TX8) em90_11 zl_62 rfl wd_935 wd_936 wd_937 ((congrFun xo_0 144).trans rfl) xm_58, ag_invV H zh_62 hd (by decide)⟩) (xB_l ⟨_, zs_iload_n em90_14, as_iload⟩)))) (xB_n (xB_n (xB_n (xB_l ⟨_, zs_ishr em90_15, as_bin fany_ok⟩) (xB_l ⟨_, zs_iconst (v := 1) em90_16 (by decide +kernel), as_const (by decide +kernel)⟩)) (xB_n (xB_l ⟨_, zs_iand em90_17, as_bin fand_ok⟩) (xB_l ⟨_, zs_iconst (v := 1) em90_18 (by decide +kernel), as_const (by decide +kernel)⟩))) (xB_n (xB_n (xB_l ⟨_, zs_icmpne em90_19 (t := 26) (by decide), as_icmp⟩) (xB_l ⟨_, zs_iconst (v := 1) em90_22 (by decide +kernel), as_const (by decide +kernel)⟩)) (xB_n (xB_l ⟨_, zs_goto em90_23 (t := 27) (by decide), as_goto⟩) (xB_l ⟨_, zs_iconst (v := 0) em90_26 (by decide +kernel), as_const (by decide +kernel)⟩)))))
set_option maxRecDepth 100000 in
set_option maxHeartbeats 4000000 in
theorem zM_95 : zOKa 95 zc_95 := z_auto (cuts := []) (rets := [(27, 2)]) (fuel := 1000) rfl rfl (by decide) (xrt_ok (xR_c (Or.inr (Or.inl ⟨rfl, em90_27, rfl⟩)) (xR_n))) (fun _ _ H _ hd => zTo_95 H hd) (by decide +kernel)
theorem em91_0 : decode prog_1_method_10_code 0 = .ok (.iload_n 1, 1) := by decide +kernel
theorem em91_1 : decode prog_1_method_10_code 1 = .ok (.ifCond .lt 18, 3) := by decide +kernel
theorem em91_4 : decode prog_1_method_10_code 4 = .ok (.iload_n 1, 1) := by decide +kernel
theorem em91_5 : decode prog_1_method_10_code 5 = .ok (.aload_n 0, 1) := by decide +kernel
theorem em91_6 : decode prog_1_method_10_code 6 = .ok (.getfield 23, 3) := by decide +kernel
theorem em91_9 : decode prog_1_method_10_code 9 = .ok (.getfield 141, 3) := by decide +kernel
theorem em91_12 : decode prog_1_method_10_code 12 = .ok (.if_icmp .ge 7, 3) := by decide +kernel
theorem em91_15 : decode prog_1_method_10_code 15 = .ok (.iconst 1, 1) := by decide +kernel
theorem em91_16 : decode prog_1_method_10_code 16 = .ok (.goto 4, 3) := by decide +kernel
theorem em91_19 : decode prog_1_method_10_code 19 = .ok (.iconst 0, 1) := by decide +kernel
theorem em91_20 : decode prog_1_method_10_code 20 = .ok (.ireturn, 1) := by decide +kernel
/-! CapitalCase.isVerse:(I)Z -/
noncomputable def zTr_96 : Nat → Option aF := bn 9 (bn 4 (bn 1 (bl 0 (a_iload 1 1)) (bl 1 (a_if 2 19 4))) (bn 5 (bl 4 (a_iload 1 5)) (bn 6 (bl 5 (a_aload 0 6)) (bl 6 (a_getf zG0 zT0 11 0 9))))) (bn 15 (bn 12 (bl 9 (a_getf zG0 zT0 6 1 12)) (bl 12 (a_icmp 3 19 15))) (bn 16 (bl 15 (a_const 1 16)) (bn 19 (bl 16 (a_goto 20)) (bl 19 (a_const 0 20)))))
set_option maxRecDepth 100000 in
set_option maxHeartbeats 4000000 in
theorem zTo_96 {pre : zPre} {post : zPost} (H : zTieC pre post) {d : Nat × Nat × Nat} (hd : zLe (0, 0, 0) d) : aTr zG0 zT0 zInv (false, false) PZ zbd pre post d prog_1_method_10_code "CapitalCase" zTr_96 := (xB_n (xB_n (xB_n (xB_l ⟨_, zs_iload_n em91_0, as_iload⟩) (xB_l ⟨_, zs_iflt em91_1 (t := 19) (by decide), as_if⟩)) (xB_n (xB_l ⟨_, zs_iload_n em91_4, as_iload⟩) (xB_n (xB_l ⟨_, zs_aload_n em91_5, as_aload⟩) (xB_l ⟨_, zs_getf (T := TX11) (M := 16) (ci := 11) (j := 0) em91_6 rfl inX11 (by decide) wd_556 ((congrFun xo_0 23).trans rfl), as_getf zTie⟩)))) (xB_n (xB_n (xB_l ⟨_, zs_getf (T := TX6) (M := 15) (ci := 6) (j := 1) em91_9 rfl inX6 (by decide) wd_174 ((congrFun xo_0 141).trans rfl), as_getf zTie⟩) (xB_l ⟨_, zs_icmpge em91_12 (t := 19) (by decide), as_icmp⟩)) (xB_n (xB_l ⟨_, zs_iconst (v := 1) em91_15 (by decide +kernel), as_const (by decide +kernel)⟩) (xB_n (xB_l ⟨_, zs_goto em91_16 (t := 20) (by decide), as_goto⟩) (xB_l ⟨_, zs_iconst (v := 0) em91_19 (by decide +kernel), as_const (by decide +kernel)⟩)))))
set_option maxRecDepth 100000 in
set_option maxHeartbeats 4000000 in
theorem zM_96 : zOKa 96 zc_96 := z_auto (cuts := []) (rets := [(20, 2)]) (fuel := 1000) rfl rfl (by decide) (xrt_ok (xR_c (Or.inr (Or.inl ⟨rfl, em91_20, rfl⟩)) (xR_n))) (fun _ _ H _ hd => zTo_96 H hd) (by decide +kernel)
theorem em92_0 : decode prog_1_method_33_code 0 = .ok (.aload_n 0, 1) := by decide +kernel
theorem em92_1 : decode prog_1_method_33_code 1 = .ok (.getfield 39, 3) := by decide +kernel
theorem em92_4 : decode prog_1_method_33_code 4 = .ok (.aload_n 0, 1) := by decide +kernel
theorem em92_5 : decode prog_1_method_33_code 5 = .ok (.getfield 23, 3) := by decide +kernel
theorem em92_8 : decode prog_1_method_33_code 8 = .ok (.getfield 141, 3) := by decide +kernel
theorem em92_11 : decode prog_1_method_33_code 11 = .ok (.invokevirtual 144, 3) := by decide +kernel
theorem em92_14 : decode prog_1_method_33_code 14 = .ok (.istore_n 1, 1) := by decide +kernel
theorem em92_15 : decode prog_1_method_33_code 15 = .ok (.iconst 0, 1) := by decide +kernel
theorem em92_16 : decode prog_1_method_33_code 16 = .ok (.istore_n 2, 1) := by decide +kernel
theorem em92_17 : decode prog_1_method_33_code 17 = .ok (.iload_n 2, 1) := by decide +kernel
theorem em92_18 : decode prog_1_method_33_code 18 = .ok (.aload_n 0, 1) := by decide +kernel
theorem em92_19 : decode prog_1_method_33_code 19 = .ok (.getfield 23, 3) := by decide +kernel
theorem em92_22 : decode prog_1_method_33_code 22 = .ok (.getfield 141, 3) := by decide +kernel
theorem em92_25 : decode prog_1_method_33_code 25 = .ok (.if_icmp .ge 36, 3) := by decide +kernel
theorem em92_28 : decode prog_1_method_33_code 28 = .ok (.aload_n 0, 1) := by decide +kernel
theorem em92_29 : decode prog_1_method_33_code 29 = .ok (.getfield 23, 3) := by decide +kernel
theorem em92_32 : decode prog_1_method_33_code 32 = .ok (.getfield 181, 3) := by decide +kernel
theorem em92_35 : decode prog_1_method_33_code 35 = .ok (.iload_n 2, 1) := by decide +kernel
theorem em92_36 : decode prog_1_method_33_code 36 = .ok (.iaload, 1) := by decide +kernel
theorem em92_37 : decode prog_1_method_33_code 37 = .ok (.aload_n 0, 1) := by decide +kernel
theorem em92_38 : decode prog_1_method_33_code 38 = .ok (.getfield 39, 3) := by decide +kernel
theorem em92_41 : decode prog_1_method_33_code 41 = .ok (.getfield 190, 3) := by decide +kernel
theorem em92_44 : decode prog_1_method_33_code 44 = .ok (.if_icmp .lt 11, 3) := by decide +kernel
theorem em92_47 : decode prog_1_method_33_code 47 = .ok (.iload_n 1, 1) := by decide +kernel
theorem em92_48 : decode prog_1_method_33_code 48 = .ok (.iconst 1, 1) := by decide +kernel
theorem em92_49 : decode prog_1_method_33_code 49 = .ok (.iload_n 2, 1) := by decide +kernel
theorem em92_50 : decode prog_1_method_33_code 50 = .ok (.ishl, 1) := by decide +kernel
theorem em92_51 : decode prog_1_method_33_code 51 = .ok (.iconst (-1), 1) := by decide +kernel
theorem em92_52 : decode prog_1_method_33_code 52 = .ok (.ixor, 1) := by decide +kernel
theorem em92_53 : decode prog_1_method_33_code 53 = .ok (.iand, 1) := by decide +kernel
theorem em92_54 : decode prog_1_method_33_code 54 = .ok (.istore_n 1, 1) := by decide +kernel
theorem em92_55 : decode prog_1_method_33_code 55 = .ok (.iinc 2 1, 3) := by decide +kernel
theorem em92_58 : decode prog_1_method_33_code 58 = .ok (.goto (-41), 3) := by decide +kernel
theorem em92_61 : decode prog_1_method_33_code 61 = .ok (.iload_n 1, 1) := by decide +kernel
theorem em92_62 : decode prog_1_method_33_code 62 = .ok (.ireturn, 1) := by decide +kernel
/-! CapitalCase.late:()I -/
noncomputable def zTr_97 : Nat → Option aF := bn 35 (bn 16 (bn 8 (bn 4 (bn 1 (bl 0 (a_aload 0 1)) (bl 1 (a_getf zG0 zT0 11 1 4))) (bn 5 (bl 4 (a_aload 0 5)) (bl 5 (a_getf zG0 zT0 11 0 8)))) (bn 14 (bn 11 (bl 8 (a_getf zG0 zT0 6 1 11)) (bl 11 (a_invV zG0 zprot (false, false) zc_62 (zbd 62) (1, 0, 0) 8 2 14))) (bn 15 (bl 14 (a_istore 1 15)) (bl 15 (a_const 0 16))))) (bn 22 (bn 18 (bn 17 (bl 16 (a_istore 2 17)) (bl 17 (a_iload 2 18))) (bn 19 (bl 18 (a_aload 0 19)) (bl 19 (a_getf zG0 zT0 11 0 22)))) (bn 28 (bn 25 (bl 22 (a_getf zG0 zT0 6 1 25)) (bl 25 (a_icmp 3 61 28))) (bn 29 (bl 28 (a_aload 0 29)) (bn 32 (bl 29 (a_getf zG0 zT0 11 0 32)) (bl 32 (a_getf zG0 zT0 6 7 35))))))) (bn 49 (bn 41 (bn 37 (bn 36 (bl 35 (a_iload 2 36)) (bl 36 (a_ald zG0 zT0 (false, false) ts0 37))) (bn 38 (bl 37 (a_aload 0 38)) (bl 38 (a_getf zG0 zT0 11 1 41)))) (bn 47 (bn 44 (bl 41 (a_getf zG0 zT0 8 7 44)) (bl 44 (a_icmp 2 55 47))) (bn 48 (bl 47 (a_iload 1 48)) (bl 48 (a_const 1 49))))) (bn 53 (bn 51 (bn 50 (bl 49 (a_iload 2 50)) (bl 50 (a_bin fshl 51))) (bn 52 (bl 51 (a_const (-1) 52)) (bl 52 (a_bin fany 53)))) (bn 55 (bn 54 (bl 53 (a_bin fand 54)) (bl 54 (a_istore 1 55))) (bn 58 (bl 55 (a_iinc 2 1 58)) (bn 61 (bl 58 (a_goto 17)) (bl 61 (a_iload 1 62)))))))
set_option maxRecDepth 100000 in
set_option maxHeartbeats 4000000 in
theorem zTo_97 {pre : zPre} {post : zPost} (H : zTieC pre post) {d : Nat × Nat × Nat} (hd : zLe (1, 0, 0) d) : aTr zG0 zT0 zInv (false, false) PZ zbd pre post d prog_1_method_33_code "CapitalCase" zTr_97 := (xB_n (xB_n (xB_n (xB_n (xB_n (xB_l ⟨_, zs_aload_n em92_0, as_aload⟩) (xB_l ⟨_, zs_getf (T := TX11) (M := 16) (ci := 11) (j := 1) em92_1 rfl inX11 (by decide) wd_558 ((congrFun xo_0 39).trans rfl), as_getf zTie⟩)) (xB_n (xB_l ⟨_, zs_aload_n em92_4, as_aload⟩) (xB_l ⟨_, zs_getf (T := TX11) (M := 16) (ci := 11) (j := 0) em92_5 rfl inX11 (by decide) wd_556 ((congrFun xo_0 23).trans rfl), as_getf zTie⟩))) (xB_n (xB_n (xB_l ⟨_, zs_getf (T := TX6) (M := 15) (ci := 6) (j := 1) em92_8 rfl inX6 (by decide) wd_174 ((congrFun xo_0 141).trans rfl), as_getf zTie⟩) (xB_l ⟨_, zs_invV (T := TX8) em92_11 zl_62 rfl wd_935 wd_936 wd_937 ((congrFun xo_0 144).trans rfl) xm_58, ag_invV H zh_62 hd (by decide)⟩)) (xB_n (xB_l ⟨_, zs_istore_n em92_14, as_istore⟩) (xB_l ⟨_, zs_iconst (v := 0) em92_15 (by decide +kernel), as_const (by decide +kernel)⟩)))) (xB_n (xB_n (xB_n (xB_l ⟨_, zs_istore_n em92_16, as_istore⟩) (xB_l ⟨_, zs_iload_n em92_17, as_iload⟩)) (xB_n (xB_l ⟨_, zs_aload_n em92_18, as_aload⟩) (xB_l ⟨_, zs_getf (T := TX11) (M := 16) (ci := 11) (j := 0) em92_19 rfl inX11 (by decide) wd_556 ((congrFun xo_0 23).trans rfl), as_getf zTie⟩))) (xB_n (xB_n (xB_l ⟨_, zs_getf (T := TX6) (M := 15) (ci := 6) (j := 1) em92_22 rfl inX6 (by decide) wd_174 ((congrFun xo_0 141).trans rfl), as_getf zTie⟩) (xB_l ⟨_, zs_icmpge em92_25 (t := 61) (by decide), as_icmp⟩)) (xB_n (xB_l ⟨_, zs_aload_n em92_28, as_aload⟩) (xB_n (xB_l ⟨_, zs_getf (T := TX11) (M := 16) (ci := 11) (j := 0) em92_29 rfl inX11 (by decide) wd_556 ((congrFun xo_0 23).trans rfl), as_getf zTie⟩) (xB_l ⟨_, zs_getf (T := TX6) (M := 15) (ci := 6) (j := 7) em92_32 rfl inX6 (by decide) wd_194 ((congrFun xo_0 181).trans rfl), as_getf zTie⟩)))))) (xB_n (xB_n (xB_n (xB_n (xB_l ⟨_, zs_iload_n em92_35, as_iload⟩) (xB_l ⟨_, zs_iald em92_36, ag_iald⟩)) (xB_n (xB_l ⟨_, zs_aload_n em92_37, as_aload⟩) (xB_l ⟨_, zs_getf (T := TX11) (M := 16) (ci := 11) (j := 1) em92_38 rfl inX11 (by decide) wd_558 ((congrFun xo_0 39).trans rfl), as_getf zTie⟩))) (xB_n (xB_n (xB_l ⟨_, zs_getf (T := TX8) (M := 10) (ci := 8) (j := 7) em92_41 rfl inX8 (by decide) wd_349 ((congrFun xo_0 190).trans rfl), as_getf zTie⟩) (xB_l ⟨_, zs_icmplt em92_44 (t := 55) (by decide), as_icmp⟩)) (xB_n (xB_l ⟨_, zs_iload_n em92_47, as_iload⟩) (xB_l ⟨_, zs_iconst (v := 1) em92_48 (by decide +kernel), as_const (by decide +kernel)⟩)))) (xB_n (xB_n (xB_n (xB_l ⟨_, zs_iload_n em92_49, as_iload⟩) (xB_l ⟨_, zs_ishl em92_50, as_bin fshl_ok⟩)) (xB_n (xB_l ⟨_, zs_iconst (v := (-1)) em92_51 (by decide +kernel), as_const (by decide +kernel)⟩) (xB_l ⟨_, zs_ixor em92_52, as_bin fany_ok⟩))) (xB_n (xB_n (xB_l ⟨_, zs_iand em92_53, as_bin fand_ok⟩) (xB_l ⟨_, zs_istore_n em92_54, as_istore⟩)) (xB_n (xB_l ⟨_, zs_iinc (k := 1) em92_55 (by decide +kernel), as_iinc (by decide +kernel)⟩) (xB_n (xB_l ⟨_, zs_goto em92_58 (t := 17) (by decide), as_goto⟩) (xB_l ⟨_, zs_iload_n em92_61, as_iload⟩)))))))
set_option maxRecDepth 100000 in
set_option maxHeartbeats 4000000 in
theorem zM_97 : zOKa 97 zc_97 := z_auto (cuts := [(17, ([(0, 0), (0, 7), (0, 127), (0, 7)], [], [some (.inr (.inl (0, 0))), some (.inl (2, 0)), some (.inl (3, 0))], [], [(6, 1, 0)], (0, 0)), [(0, 1), (0, 2)], 7, [0, 0, 0, (-1)])]) (rets := [(62, 1)]) (fuel := 1000) rfl rfl (by decide) (xrt_ok (xR_c (Or.inl ⟨rfl, em92_62, rfl⟩) (xR_n))) (fun _ _ H _ hd => zTo_97 H hd) (by decide +kernel)
theorem em93_0 : decode prog_1_method_20_code 0 = .ok (.aload_n 0, 1) := by decide +kernel
theorem em93_1 : decode prog_1_method_20_code 1 = .ok (.iload_n 1, 1) := by decide +kernel
theorem em93_2 : decode prog_1_method_20_code 2 = .ok (.iload_n 3, 1) := by decide +kernel
theorem em93_3 : decode prog_1_method_20_code 3 = .ok (.invokevirtual 147, 3) := by decide +kernel
theorem em93_6 : decode prog_1_method_20_code 6 = .ok (.ifCond .eq 33, 3) := by decide +kernel
theorem em93_9 : decode prog_1_method_20_code 9 = .ok (.aload_n 0, 1) := by decide +kernel
theorem em93_10 : decode prog_1_method_20_code 10 = .ok (.iload_n 2, 1) := by decide +kernel
theorem em93_11 : decode prog_1_method_20_code 11 = .ok (.iload_n 3, 1) := by decide +kernel
theorem em93_12 : decode prog_1_method_20_code 12 = .ok (.invokevirtual 147, 3) := by decide +kernel
theorem em93_15 : decode prog_1_method_20_code 15 = .ok (.ifCond .eq 24, 3) := by decide +kernel
theorem em93_18 : decode prog_1_method_20_code 18 = .ok (.iload_n 1, 1) := by decide +kernel
theorem em93_19 : decode prog_1_method_20_code 19 = .ok (.iload_n 2, 1) := by decide +kernel
theorem em93_20 : decode prog_1_method_20_code 20 = .ok (.if_icmp .eq 19, 3) := by decide +kernel
theorem em93_23 : decode prog_1_method_20_code 23 = .ok (.aload_n 0, 1) := by decide +kernel
theorem em93_24 : decode prog_1_method_20_code 24 = .ok (.getfield 39, 3) := by decide +kernel
theorem em93_27 : decode prog_1_method_20_code 27 = .ok (.iload_n 1, 1) := by decide +kernel
theorem em93_28 : decode prog_1_method_20_code 28 = .ok (.bipush 8, 2) := by decide +kernel
theorem em93_30 : decode prog_1_method_20_code 30 = .ok (.imul, 1) := by decide +kernel
theorem em93_31 : decode prog_1_method_20_code 31 = .ok (.iload_n 3, 1) := by decide +kernel
theorem em93_32 : decode prog_1_method_20_code 32 = .ok (.iadd, 1) := by decide +kernel
theorem em93_33 : decode prog_1_method_20_code 33 = .ok (.invokevirtual 158, 3) := by decide +kernel
theorem em93_36 : decode prog_1_method_20_code 36 = .ok (.ifCond .ne 5, 3) := by decide +kernel
theorem em93_39 : decode prog_1_method_20_code 39 = .ok (.iconst 0, 1) := by decide +kernel
theorem em93_40 : decode prog_1_method_20_code 40 = .ok (.ireturn, 1) := by decide +kernel
theorem em93_41 : decode prog_1_method_20_code 41 = .ok (.aload_n 0, 1) := by decide +kernel
theorem em93_42 : decode prog_1_method_20_code 42 = .ok (.getfield 49, 3) := by decide +kernel
theorem em93_45 : decode prog_1_method_20_code 45 = .ok (.aload_n 0, 1) := by decide +kernel
theorem em93_46 : decode prog_1_method_20_code 46 = .ok (.getfield 39, 3) := by decide +kernel
theorem em93_49 : decode prog_1_method_20_code 49 = .ok (.invokevirtual 220, 3) := by decide +kernel
theorem em93_52 : decode prog_1_method_20_code 52 = .ok (.aload_n 0, 1) := by decide +kernel
theorem em93_53 : decode prog_1_method_20_code 53 = .ok (.getfield 39, 3) := by decide +kernel
theorem em93_56 : decode prog_1_method_20_code 56 = .ok (.iload_n 1, 1) := by decide +kernel
theorem em93_57 : decode prog_1_method_20_code 57 = .ok (.iload_n 2, 1) := by decide +kernel
theorem em93_58 : decode prog_1_method_20_code 58 = .ok (.iload_n 3, 1) := by decide +kernel
theorem em93_59 : decode prog_1_method_20_code 59 = .ok (.invokevirtual 242, 3) := by decide +kernel
theorem em93_62 : decode prog_1_method_20_code 62 = .ok (.aload_n 0, 1) := by decide +kernel
theorem em93_63 : decode prog_1_method_20_code 63 = .ok (.getfield 39, 3) := by decide +kernel
theorem em93_66 : decode prog_1_method_20_code 66 = .ok (.getfield 246, 3) := by decide +kernel
theorem em93_69 : decode prog_1_method_20_code 69 = .ok (.iload_n 1, 1) := by decide +kernel
theorem em93_70 : decode prog_1_method_20_code 70 = .ok (.iconst 5, 1) := by decide +kernel
theorem em93_71 : decode prog_1_method_20_code 71 = .ok (.imul, 1) := by decide +kernel
theorem em93_72 : decode prog_1_method_20_code 72 = .ok (.iload_n 2, 1) := by decide +kernel
theorem em93_73 : decode prog_1_method_20_code 73 = .ok (.iadd, 1) := by decide +kernel
theorem em93_74 : decode prog_1_method_20_code 74 = .ok (.bipush 8, 2) := by decide +kernel
theorem em93_76 : decode prog_1_method_20_code 76 = .ok (.imul, 1) := by decide +kernel
theorem em93_77 : decode prog_1_method_20_code 77 = .ok (.iload_n 3, 1) := by decide +kernel
theorem em93_78 : decode prog_1_method_20_code 78 = .ok (.iadd, 1) := by decide +kernel
theorem em93_79 : decode prog_1_method_20_code 79 = .ok (.dup2, 1) := by decide +kernel
theorem em93_80 : decode prog_1_method_20_code 80 = .ok (.iaload, 1) := by decide +kernel
theorem em93_81 : decode prog_1_method_20_code 81 = .ok (.iconst 1, 1) := by decide +kernel
theorem em93_82 : decode prog_1_method_20_code 82 = .ok (.iadd, 1) := by decide +kernel
theorem em93_83 : decode prog_1_method_20_code 83 = .ok (.iastore, 1) := by decide +kernel
theorem em93_84 : decode prog_1_method_20_code 84 = .ok (.iconst 1, 1) := by decide +kernel
theorem em93_85 : decode prog_1_method_20_code 85 = .ok (.ireturn, 1) := by decide +kernel
/-! CapitalCase.lend:(III)Z -/
noncomputable def zTr_98 : Nat → Option aF := bn 46 (bn 23 (bn 10 (bn 3 (bn 1 (bl 0 (a_aload 0 1)) (bn 2 (bl 1 (a_iload 1 2)) (bl 2 (a_iload 3 3)))) (bn 6 (bl 3 (a_invV zG0 zprot (false, false) zc_93 (zbd 93) (8, 6, 396) 11 3 6)) (bn 9 (bl 6 (a_if 0 39 9)) (bl 9 (a_aload 0 10))))) (bn 15 (bn 11 (bl 10 (a_iload 2 11)) (bn 12 (bl 11 (a_iload 3 12)) (bl 12 (a_invV zG0 zprot (false, false) zc_93 (zbd 93) (8, 6, 396) 11 3 15)))) (bn 19 (bn 18 (bl 15 (a_if 0 39 18)) (bl 18 (a_iload 1 19))) (bn 20 (bl 19 (a_iload 2 20)) (bl 20 (a_icmp 0 39 23)))))) (bn 32 (bn 28 (bn 24 (bl 23 (a_aload 0 24)) (bn 27 (bl 24 (a_getf zG0 zT0 11 1 27)) (bl 27 (a_iload 1 28)))) (bn 30 (bl 28 (a_const 8 30)) (bn 31 (bl 30 (a_bin fmul 31)) (bl 31 (a_iload 3 32))))) (bn 39 (bn 33 (bl 32 (a_bin fadd 33)) (bn 36 (bl 33 (a_invV zG0 zprot (false, false) zc_55 (zbd 55) (8, 6, 396) 8 2 36)) (bl 36 (a_if 1 41 39)))) (bn 42 (bn 41 (bl 39 (a_const 0 40)) (bl 41 (a_aload 0 42))) (bn 45 (bl 42 (a_getf zG0 zT0 11 8 45)) (bl 45 (a_aload 0 46))))))) (bn 71 (bn 58 (bn 53 (bn 49 (bl 46 (a_getf zG0 zT0 11 1 49)) (bn 52 (bl 49 (a_invV zG0 zprot (false, false) zc_0 (zbd 0) (8, 6, 396) 0 2 52)) (bl 52 (a_aload 0 53)))) (bn 56 (bl 53 (a_getf zG0 zT0 11 1 56)) (bn 57 (bl 56 (a_iload 1 57)) (bl 57 (a_iload 2 58))))) (bn 63 (bn 59 (bl 58 (a_iload 3 59)) (bn 62 (bl 59 (a_invV zG0 zprot (false, false) zc_61 (zbd 61) (8, 6, 396) 8 4 62)) (bl 62 (a_aload 0 63)))) (bn 69 (bn 66 (bl 63 (a_getf zG0 zT0 11 1 66)) (bl 66 (a_getf zG0 zT0 8 3 69))) (bn 70 (bl 69 (a_iload 1 70)) (bl 70 (a_const 5 71)))))) (bn 78 (bn 74 (bn 72 (bl 71 (a_bin fmul 72)) (bn 73 (bl 72 (a_iload 2 73)) (bl 73 (a_bin fadd 74)))) (bn 76 (bl 74 (a_const 8 76)) (bn 77 (bl 76 (a_bin fmul 77)) (bl 77 (a_iload 3 78))))) (bn 81 (bn 79 (bl 78 (a_bin fadd 79)) (bn 80 (bl 79 (a_dup2 80)) (bl 80 (a_ald zG0 zT0 (false, false) ts0 81)))) (bn 83 (bn 82 (bl 81 (a_const 1 82)) (bl 82 (a_bin fadd 83))) (bn 84 (bl 83 (a_ast zG0 zT0 ts0 84)) (bl 84 (a_const 1 85)))))))
set_option maxRecDepth 100000 in
set_option maxHeartbeats 4000000 in
theorem zTo_98 {pre : zPre} {post : zPost} (H : zTieC pre post) {d : Nat × Nat × Nat} (hd : zLe (8, 6, 396) d) : aTr zG0 zT0 zInv (false, false) PZ zbd pre post d prog_1_method_20_code "CapitalCase" zTr_98 := (xB_n (xB_n (xB_n (xB_n (xB_n (xB_l ⟨_, zs_aload_n em93_0, as_aload⟩) (xB_n (xB_l ⟨_, zs_iload_n em93_1, as_iload⟩) (xB_l ⟨_, zs_iload_n em93_2, as_iload⟩))) (xB_n (xB_l ⟨_, zs_invV (T := TX11) em93_3 zl_93 rfl wd_850 wd_852 wd_19 ((congrFun xo_0 147).trans rfl) xm_88, ag_invV H zh_93 hd (by decide)⟩) (xB_n (xB_l ⟨_, zs_ifeq em93_6 (t := 39) (by decide), as_if⟩) (xB_l ⟨_, zs_aload_n em93_9, as_aload⟩)))) (xB_n (xB_n (xB_l ⟨_, zs_iload_n em93_10, as_iload⟩) (xB_n (xB_l ⟨_, zs_iload_n em93_11, as_iload⟩) (xB_l ⟨_, zs_invV (T := TX11) em93_12 zl_93 rfl wd_850 wd_852 wd_19 ((congrFun xo_0 147).trans rfl) xm_88, ag_invV H zh_93 hd (by decide)⟩))) (xB_n (xB_n (xB_l ⟨_, zs_ifeq em93_15 (t := 39) (by decide), as_if⟩) (xB_l ⟨_, zs_iload_n em93_18, as_iload⟩)) (xB_n (xB_l ⟨_, zs_iload_n em93_19, as_iload⟩) (xB_l ⟨_, zs_icmpeq em93_20 (t := 39) (by decide), as_icmp⟩))))) (xB_n (xB_n (xB_n (xB_l ⟨_, zs_aload_n em93_23, as_aload⟩) (xB_n (xB_l ⟨_, zs_getf (T := TX11) (M := 16) (ci := 11) (j := 1) em93_24 rfl inX11 (by decide) wd_558 ((congrFun xo_0 39).trans rfl), as_getf zTie⟩) (xB_l ⟨_, zs_iload_n em93_27, as_iload⟩))) (xB_n (xB_l ⟨_, zs_bipush (v := 8) em93_28 (by decide +kernel), as_const (by decide +kernel)⟩) (xB_n (xB_l ⟨_, zs_imul em93_30, as_bin fmul_ok⟩) (xB_l ⟨_, zs_iload_n em93_31, as_iload⟩)))) (xB_n (xB_n (xB_l ⟨_, zs_iadd em93_32, as_bin fadd_ok⟩) (xB_n (xB_l ⟨_, zs_invV (T := TX8) em93_33 zl_55 rfl wd_858 wd_859 wd_860 ((congrFun xo_0 158).trans rfl) xm_51, ag_invV H zh_55 hd (by decide)⟩) (xB_l ⟨_, zs_ifne em93_36 (t := 41) (by decide), as_if⟩))) (xB_n (xB_n (xB_l ⟨_, zs_iconst (v := 0) em93_39 (by decide +kernel), as_const (by decide +kernel)⟩) (xB_l ⟨_, zs_aload_n em93_41, as_aload⟩)) (xB_n (xB_l ⟨_, zs_getf (T := TX11) (M := 16) (ci := 11) (j := 8) em93_42 rfl inX11 (by decide) wd_560 ((congrFun xo_0 49).trans rfl), as_getf zTie⟩) (xB_l ⟨_, zs_aload_n em93_45, as_aload⟩)))))) (xB_n (xB_n (xB_n (xB_n (xB_l ⟨_, zs_getf (T := TX11) (M := 16) (ci := 11) (j := 1) em93_46 rfl inX11 (by decide) wd_558 ((congrFun xo_0 39).trans rfl), as_getf zTie⟩) (xB_n (xB_l ⟨_, zs_invV (T := TX0) em93_49 zl_0 rfl wd_967 wd_968 wd_969 ((congrFun xo_0 220).trans rfl) xm_0, ag_invV H zh_0 hd (by decide)⟩) (xB_l ⟨_, zs_aload_n em93_52, as_aload⟩))) (xB_n (xB_l ⟨_, zs_getf (T := TX11) (M := 16) (ci := 11) (j := 1) em93_53 rfl inX11 (by decide) wd_558 ((congrFun xo_0 39).trans rfl), as_getf zTie⟩) (xB_n (xB_l ⟨_, zs_iload_n em93_56, as_iload⟩) (xB_l ⟨_, zs_iload_n em93_57, as_iload⟩)))) (xB_n (xB_n (xB_l ⟨_, zs_iload_n em93_58, as_iload⟩) (xB_n (xB_l ⟨_, zs_invV (T := TX8) em93_59 zl_61 rfl wd_993 wd_994 wd_995 ((congrFun xo_0 242).trans rfl) xm_57, ag_invV H zh_61 hd (by decide)⟩) (xB_l ⟨_, zs_aload_n em93_62, as_aload⟩))) (xB_n (xB_n (xB_l ⟨_, zs_getf (T := TX11) (M := 16) (ci := 11) (j := 1) em93_63 rfl inX11 (by decide) wd_558 ((congrFun xo_0 39).trans rfl), as_getf zTie⟩) (xB_l ⟨_, zs_getf (T := TX8) (M := 10) (ci := 8) (j := 3) em93_66 rfl inX8 (by decide) wd_335 ((congrFun xo_0 246).trans rfl), as_getf zTie⟩)) (xB_n (xB_l ⟨_, zs_iload_n em93_69, as_iload⟩) (xB_l ⟨_, zs_iconst (v := 5) em93_70 (by decide +kernel), as_const (by decide +kernel)⟩))))) (xB_n (xB_n (xB_n (xB_l ⟨_, zs_imul em93_71, as_bin fmul_ok⟩) (xB_n (xB_l ⟨_, zs_iload_n em93_72, as_iload⟩) (xB_l ⟨_, zs_iadd em93_73, as_bin fadd_ok⟩))) (xB_n (xB_l ⟨_, zs_bipush (v := 8) em93_74 (by decide +kernel), as_const (by decide +kernel)⟩) (xB_n (xB_l ⟨_, zs_imul em93_76, as_bin fmul_ok⟩) (xB_l ⟨_, zs_iload_n em93_77, as_iload⟩)))) (xB_n (xB_n (xB_l ⟨_, zs_iadd em93_78, as_bin fadd_ok⟩) (xB_n (xB_l ⟨_, zs_dup2 em93_79, as_dup2⟩) (xB_l ⟨_, zs_iald em93_80, ag_iald⟩))) (xB_n (xB_n (xB_l ⟨_, zs_iconst (v := 1) em93_81 (by decide +kernel), as_const (by decide +kernel)⟩) (xB_l ⟨_, zs_iadd em93_82, as_bin fadd_ok⟩)) (xB_n (xB_l ⟨_, zs_iast zInj0 em93_83, as_iast zTie⟩) (xB_l ⟨_, zs_iconst (v := 1) em93_84 (by decide +kernel), as_const (by decide +kernel)⟩)))))))
set_option maxRecDepth 100000 in
set_option maxHeartbeats 4000000 in
theorem zM_98 : zOKa 98 zc_98 := z_auto (cuts := []) (rets := [(40, 2), (85, 2)]) (fuel := 1000) rfl rfl (by decide) (xrt_ok (xR_c (Or.inr (Or.inl ⟨rfl, em93_40, rfl⟩)) (xR_c (Or.inr (Or.inl ⟨rfl, em93_85, rfl⟩)) (xR_n)))) (fun _ _ H _ hd => zTo_98 H hd) (by decide +kernel)
theorem em94_0 : decode prog_1_method_29_code 0 = .ok (.aload_n 0, 1) := by decide +kernel
theorem em94_1 : decode prog_1_method_29_code 1 = .ok (.iload_n 1, 1) := by decide +kernel
theorem em94_2 : decode prog_1_method_29_code 2 = .ok (.invokevirtual 137, 3) := by decide +kernel
theorem em94_5 : decode prog_1_method_29_code 5 = .ok (.ifCond .eq 11, 3) := by decide +kernel
theorem em94_8 : decode prog_1_method_29_code 8 = .ok (.aload_n 0, 1) := by decide +kernel
theorem em94_9 : decode prog_1_method_29_code 9 = .ok (.iload_n 2, 1) := by decide +kernel
theorem em94_10 : decode prog_1_method_29_code 10 = .ok (.invokevirtual 175, 3) := by decide +kernel
theorem em94_13 : decode prog_1_method_29_code 13 = .ok (.ifCond .ne 5, 3) := by decide +kernel
theorem em94_16 : decode prog_1_method_29_code 16 = .ok (.iconst (-1), 1) := by decide +kernel
theorem em94_17 : decode prog_1_method_29_code 17 = .ok (.ireturn, 1) := by decide +kernel
theorem em94_18 : decode prog_1_method_29_code 18 = .ok (.aload_n 0, 1) := by decide +kernel
theorem em94_19 : decode prog_1_method_29_code 19 = .ok (.getfield 105, 3) := by decide +kernel
theorem em94_22 : decode prog_1_method_29_code 22 = .ok (.aload_n 0, 1) := by decide +kernel
theorem em94_23 : decode prog_1_method_29_code 23 = .ok (.getfield 39, 3) := by decide +kernel
theorem em94_26 : decode prog_1_method_29_code 26 = .ok (.iload_n 1, 1) := by decide +kernel
theorem em94_27 : decode prog_1_method_29_code 27 = .ok (.iload_n 2, 1) := by decide +kernel
theorem em94_28 : decode prog_1_method_29_code 28 = .ok (.invokevirtual 283, 3) := by decide +kernel
theorem em94_31 : decode prog_1_method_29_code 31 = .ok (.ireturn, 1) := by decide +kernel
/-! CapitalCase.loans:(II)I -/
noncomputable def zTr_99 : Nat → Option aF := bn 16 (bn 8 (bn 2 (bn 1 (bl 0 (a_aload 0 1)) (bl 1 (a_iload 1 2))) (bn 5 (bl 2 (a_invV zG0 zprot (false, false) zc_94 (zbd 94) (3, 0, 0) 11 2 5)) (bl 5 (a_if 0 16 8)))) (bn 10 (bn 9 (bl 8 (a_aload 0 9)) (bl 9 (a_iload 2 10))) (bn 13 (bl 10 (a_invV zG0 zprot (false, false) zc_96 (zbd 96) (3, 0, 0) 11 2 13)) (bl 13 (a_if 1 18 16))))) (bn 23 (bn 19 (bn 18 (bl 16 (a_const (-1) 17)) (bl 18 (a_aload 0 19))) (bn 22 (bl 19 (a_getf zG0 zT0 11 15 22)) (bl 22 (a_aload 0 23)))) (bn 27 (bn 26 (bl 23 (a_getf zG0 zT0 11 1 26)) (bl 26 (a_iload 1 27))) (bn 28 (bl 27 (a_iload 2 28)) (bl 28 (a_invV zG0 zprot (false, false) zc_65 (zbd 65) (3, 0, 0) 9 4 31)))))
set_option maxRecDepth 100000 in
set_option maxHeartbeats 4000000 in
theorem zTo_99 {pre : zPre} {post : zPost} (H : zTieC pre post) {d : Nat × Nat × Nat} (hd : zLe (3, 0, 0) d) : aTr zG0 zT0 zInv (false, false) PZ zbd pre post d prog_1_method_29_code "CapitalCase" zTr_99 := (xB_n (xB_n (xB_n (xB_n (xB_l ⟨_, zs_aload_n em94_0, as_aload⟩) (xB_l ⟨_, zs_iload_n em94_1, as_iload⟩)) (xB_n (xB_l ⟨_, zs_invV (T := TX11) em94_2 zl_94 rfl wd_854 wd_856 wd_20 ((congrFun xo_0 137).trans rfl) xm_89, ag_invV H zh_94 hd (by decide)⟩) (xB_l ⟨_, zs_ifeq em94_5 (t := 16) (by decide), as_if⟩))) (xB_n (xB_n (xB_l ⟨_, zs_aload_n em94_8, as_aload⟩) (xB_l ⟨_, zs_iload_n em94_9, as_iload⟩)) (xB_n (xB_l ⟨_, zs_invV (T := TX11) em94_10 zl_96 rfl wd_894 wd_896 wd_23 ((congrFun xo_0 175).trans rfl) xm_91, ag_invV H zh_96 hd (by decide)⟩) (xB_l ⟨_, zs_ifne em94_13 (t := 18) (by decide), as_if⟩)))) (xB_n (xB_n (xB_n (xB_l ⟨_, zs_iconst (v := (-1)) em94_16 (by decide +kernel), as_const (by decide +kernel)⟩) (xB_l ⟨_, zs_aload_n em94_18, as_aload⟩)) (xB_n (xB_l ⟨_, zs_getf (T := TX11) (M := 16) (ci := 11) (j := 15) em94_19 rfl inX11 (by decide) wd_568 ((congrFun xo_0 105).trans rfl), as_getf zTie⟩) (xB_l ⟨_, zs_aload_n em94_22, as_aload⟩))) (xB_n (xB_n (xB_l ⟨_, zs_getf (T := TX11) (M := 16) (ci := 11) (j := 1) em94_23 rfl inX11 (by decide) wd_558 ((congrFun xo_0 39).trans rfl), as_getf zTie⟩) (xB_l ⟨_, zs_iload_n em94_26, as_iload⟩)) (xB_n (xB_l ⟨_, zs_iload_n em94_27, as_iload⟩) (xB_l ⟨_, zs_invV (T := TX9) em94_28 zl_65 rfl wd_1130 wd_1131 wd_1132 ((congrFun xo_0 283).trans rfl) xm_61, ag_invV H zh_65 hd (by decide)⟩)))))
set_option maxRecDepth 100000 in
set_option maxHeartbeats 4000000 in
theorem zM_99 : zOKa 99 zc_99 := z_auto (cuts := []) (rets := [(17, 1), (31, 1)]) (fuel := 1000) rfl rfl (by decide) (xrt_ok (xR_c (Or.inl ⟨rfl, em94_17, rfl⟩) (xR_c (Or.inl ⟨rfl, em94_31, rfl⟩) (xR_n)))) (fun _ _ H _ hd => zTo_99 H hd) (by decide +kernel)
theorem em95_0 : decode prog_1_method_36_code 0 = .ok (.iload_n 1, 1) := by decide +kernel
theorem em95_1 : decode prog_1_method_36_code 1 = .ok (.ifCond .lt 9, 3) := by decide +kernel
theorem em95_4 : decode prog_1_method_36_code 4 = .ok (.iload_n 1, 1) := by decide +kernel
theorem em95_5 : decode prog_1_method_36_code 5 = .ok (.bipush 60, 2) := by decide +kernel
theorem em95_7 : decode prog_1_method_36_code 7 = .ok (.if_icmp .le 5, 3) := by decide +kernel
theorem em95_10 : decode prog_1_method_36_code 10 = .ok (.iconst (-1), 1) := by decide +kernel
theorem em95_11 : decode prog_1_method_36_code 11 = .ok (.ireturn, 1) := by decide +kernel
theorem em95_12 : decode prog_1_method_36_code 12 = .ok (.aload_n 0, 1) := by decide +kernel
theorem em95_13 : decode prog_1_method_36_code 13 = .ok (.getfield 43, 3) := by decide +kernel
theorem em95_16 : decode prog_1_method_36_code 16 = .ok (.aload_n 0, 1) := by decide +kernel
theorem em95_17 : decode prog_1_method_36_code 17 = .ok (.getfield 39, 3) := by decide +kernel
theorem em95_20 : decode prog_1_method_36_code 20 = .ok (.invokevirtual 275, 3) := by decide +kernel
theorem em95_23 : decode prog_1_method_36_code 23 = .ok (.aload_n 0, 1) := by decide +kernel
theorem em95_24 : decode prog_1_method_36_code 24 = .ok (.getfield 82, 3) := by decide +kernel
theorem em95_27 : decode prog_1_method_36_code 27 = .ok (.aload_n 0, 1) := by decide +kernel
theorem em95_28 : decode prog_1_method_36_code 28 = .ok (.getfield 43, 3) := by decide +kernel
theorem em95_31 : decode prog_1_method_36_code 31 = .ok (.iload_n 1, 1) := by decide +kernel
theorem em95_32 : decode prog_1_method_36_code 32 = .ok (.aload_n 0, 1) := by decide +kernel
theorem em95_33 : decode prog_1_method_36_code 33 = .ok (.getfield 23, 3) := by decide +kernel
theorem em95_36 : decode prog_1_method_36_code 36 = .ok (.getfield 249, 3) := by decide +kernel
theorem em95_39 : decode prog_1_method_36_code 39 = .ok (.invokevirtual 252, 3) := by decide +kernel
theorem em95_42 : decode prog_1_method_36_code 42 = .ok (.aload_n 0, 1) := by decide +kernel
theorem em95_43 : decode prog_1_method_36_code 43 = .ok (.getfield 43, 3) := by decide +kernel
theorem em95_46 : decode prog_1_method_36_code 46 = .ok (.getfield 304, 3) := by decide +kernel
theorem em95_49 : decode prog_1_method_36_code 49 = .ok (.aload_n 0, 1) := by decide +kernel
theorem em95_50 : decode prog_1_method_36_code 50 = .ok (.getfield 39, 3) := by decide +kernel
theorem em95_53 : decode prog_1_method_36_code 53 = .ok (.getfield 304, 3) := by decide +kernel
theorem em95_56 : decode prog_1_method_36_code 56 = .ok (.isub, 1) := by decide +kernel
theorem em95_57 : decode prog_1_method_36_code 57 = .ok (.ireturn, 1) := by decide +kernel
/-! CapitalCase.paidIn:(I)I -/
noncomputable def zTr_100 : Nat → Option aF := bn 27 (bn 12 (bn 5 (bn 1 (bl 0 (a_iload 1 1)) (bn 4 (bl 1 (a_if 2 10 4)) (bl 4 (a_iload 1 5)))) (bn 7 (bl 5 (a_const 60 7)) (bn 10 (bl 7 (a_icmp 5 12 10)) (bl 10 (a_const (-1) 11))))) (bn 17 (bn 13 (bl 12 (a_aload 0 13)) (bn 16 (bl 13 (a_getf zG0 zT0 11 2 16)) (bl 16 (a_aload 0 17)))) (bn 23 (bn 20 (bl 17 (a_getf zG0 zT0 11 1 20)) (bl 20 (a_invV zG0 zprot (true, false) zc_53 (zbd 53) (10, 0, 0) 8 2 23))) (bn 24 (bl 23 (a_aload 0 24)) (bl 24 (a_getf zG0 zT0 11 3 27)))))) (bn 42 (bn 32 (bn 28 (bl 27 (a_aload 0 28)) (bn 31 (bl 28 (a_getf zG0 zT0 11 2 31)) (bl 31 (a_iload 1 32)))) (bn 36 (bn 33 (bl 32 (a_aload 0 33)) (bl 33 (a_getf zG0 zT0 11 0 36))) (bn 39 (bl 36 (a_getf zG0 zT0 6 3 39)) (bl 39 (a_invV zG0 zprot (true, false) zc_36 (zbd 36) (10, 0, 0) 4 4 42))))) (bn 49 (bn 43 (bl 42 (a_aload 0 43)) (bn 46 (bl 43 (a_getf zG0 zT0 11 2 46)) (bl 46 (a_getf zG0 zT0 8 8 49)))) (bn 53 (bn 50 (bl 49 (a_aload 0 50)) (bl 50 (a_getf zG0 zT0 11 1 53))) (bn 56 (bl 53 (a_getf zG0 zT0 8 8 56)) (bl 56 (a_bin fsub 57))))))
set_option maxRecDepth 100000 in
set_option maxHeartbeats 4000000 in
theorem zTo_100 {pre : zPre} {post : zPost} (H : zTieC pre post) {d : Nat × Nat × Nat} (hd : zLe (10, 0, 0) d) : aTr zG0 zT0 zInv (true, false) PZ zbd pre post d prog_1_method_36_code "CapitalCase" zTr_100 := (xB_n (xB_n (xB_n (xB_n (xB_l ⟨_, zs_iload_n em95_0, as_iload⟩) (xB_n (xB_l ⟨_, zs_iflt em95_1 (t := 10) (by decide), as_if⟩) (xB_l ⟨_, zs_iload_n em95_4, as_iload⟩))) (xB_n (xB_l ⟨_, zs_bipush (v := 60) em95_5 (by decide +kernel), as_const (by decide +kernel)⟩) (xB_n (xB_l ⟨_, zs_icmple em95_7 (t := 12) (by decide), as_icmp⟩) (xB_l ⟨_, zs_iconst (v := (-1)) em95_10 (by decide +kernel), as_const (by decide +kernel)⟩)))) (xB_n (xB_n (xB_l ⟨_, zs_aload_n em95_12, as_aload⟩) (xB_n (xB_l ⟨_, zs_getf (T := TX11) (M := 16) (ci := 11) (j := 2) em95_13 rfl inX11 (by decide) wd_559 ((congrFun xo_0 43).trans rfl), as_getf zTie⟩) (xB_l ⟨_, zs_aload_n em95_16, as_aload⟩))) (xB_n (xB_n (xB_l ⟨_, zs_getf (T := TX11) (M := 16) (ci := 11) (j := 1) em95_17 rfl inX11 (by decide) wd_558 ((congrFun xo_0 39).trans rfl), as_getf zTie⟩) (xB_l ⟨_, zs_invV (T := TX8) em95_20 zl_53 rfl wd_1082 wd_973 wd_974 ((congrFun xo_0 275).trans rfl) xm_49, ag_invV H zh_53 hd (by decide)⟩)) (xB_n (xB_l ⟨_, zs_aload_n em95_23, as_aload⟩) (xB_l ⟨_, zs_getf (T := TX11) (M := 16) (ci := 11) (j := 3) em95_24 rfl inX11 (by decide) wd_565 ((congrFun xo_0 82).trans rfl), as_getf zTie⟩))))) (xB_n (xB_n (xB_n (xB_l ⟨_, zs_aload_n em95_27, as_aload⟩) (xB_n (xB_l ⟨_, zs_getf (T := TX11) (M := 16) (ci := 11) (j := 2) em95_28 rfl inX11 (by decide) wd_559 ((congrFun xo_0 43).trans rfl), as_getf zTie⟩) (xB_l ⟨_, zs_iload_n em95_31, as_iload⟩))) (xB_n (xB_n (xB_l ⟨_, zs_aload_n em95_32, as_aload⟩) (xB_l ⟨_, zs_getf (T := TX11) (M := 16) (ci := 11) (j := 0) em95_33 rfl inX11 (by decide) wd_556 ((congrFun xo_0 23).trans rfl), as_getf zTie⟩)) (xB_n (xB_l ⟨_, zs_getf (T := TX6) (M := 15) (ci := 6) (j := 3) em95_36 rfl inX6 (by decide) wd_183 ((congrFun xo_0 249).trans rfl), as_getf zTie⟩) (xB_l ⟨_, zs_invV (T := TX4) em95_39 zl_36 rfl wd_1005 wd_1006 wd_1007 ((congrFun xo_0 252).trans rfl) xm_35, ag_invV H zh_36 hd (by decide)⟩)))) (xB_n (xB_n (xB_l ⟨_, zs_aload_n em95_42, as_aload⟩) (xB_n (xB_l ⟨_, zs_getf (T := TX11) (M := 16) (ci := 11) (j := 2) em95_43 rfl inX11 (by decide) wd_559 ((congrFun xo_0 43).trans rfl), as_getf zTie⟩) (xB_l ⟨_, zs_getf (T := TX8) (M := 10) (ci := 8) (j := 8) em95_46 rfl inX8 (by decide) wd_352 ((congrFun xo_0 304).trans rfl), as_getf zTie⟩))) (xB_n (xB_n (xB_l ⟨_, zs_aload_n em95_49, as_aload⟩) (xB_l ⟨_, zs_getf (T := TX11) (M := 16) (ci := 11) (j := 1) em95_50 rfl inX11 (by decide) wd_558 ((congrFun xo_0 39).trans rfl), as_getf zTie⟩)) (xB_n (xB_l ⟨_, zs_getf (T := TX8) (M := 10) (ci := 8) (j := 8) em95_53 rfl inX8 (by decide) wd_352 ((congrFun xo_0 304).trans rfl), as_getf zTie⟩) (xB_l ⟨_, zs_isub em95_56, as_bin fsub_ok⟩))))))
set_option maxRecDepth 100000 in
set_option maxHeartbeats 4000000 in
theorem zM_100 : zOKa 100 zc_100 := z_auto (cuts := []) (rets := [(11, 1), (57, 1)]) (fuel := 1000) rfl rfl (by decide) (xrt_ok (xR_c (Or.inl ⟨rfl, em95_11, rfl⟩) (xR_c (Or.inl ⟨rfl, em95_57, rfl⟩) (xR_n)))) (fun _ _ H _ hd => zTo_100 H hd) (by decide +kernel)
theorem em96_0 : decode prog_1_method_27_code 0 = .ok (.iload_n 1, 1) := by decide +kernel
theorem em96_1 : decode prog_1_method_27_code 1 = .ok (.ifCond .lt 8, 3) := by decide +kernel
theorem em96_4 : decode prog_1_method_27_code 4 = .ok (.iload_n 1, 1) := by decide +kernel
theorem em96_5 : decode prog_1_method_27_code 5 = .ok (.iconst 1, 1) := by decide +kernel
theorem em96_6 : decode prog_1_method_27_code 6 = .ok (.if_icmp .le 5, 3) := by decide +kernel
theorem em96_9 : decode prog_1_method_27_code 9 = .ok (.iconst (-1), 1) := by decide +kernel
theorem em96_10 : decode prog_1_method_27_code 10 = .ok (.ireturn, 1) := by decide +kernel
theorem em96_11 : decode prog_1_method_27_code 11 = .ok (.bipush (-2), 2) := by decide +kernel
theorem em96_13 : decode prog_1_method_27_code 13 = .ok (.istore_n 2, 1) := by decide +kernel
theorem em96_14 : decode prog_1_method_27_code 14 = .ok (.bipush (-2), 2) := by decide +kernel
theorem em96_16 : decode prog_1_method_27_code 16 = .ok (.istore_n 3, 1) := by decide +kernel
theorem em96_17 : decode prog_1_method_27_code 17 = .ok (.iconst 0, 1) := by decide +kernel
theorem em96_18 : decode prog_1_method_27_code 18 = .ok (.istore 4, 2) := by decide +kernel
theorem em96_20 : decode prog_1_method_27_code 20 = .ok (.iload 4, 2) := by decide +kernel
theorem em96_22 : decode prog_1_method_27_code 22 = .ok (.aload_n 0, 1) := by decide +kernel
theorem em96_23 : decode prog_1_method_27_code 23 = .ok (.getfield 23, 3) := by decide +kernel
theorem em96_26 : decode prog_1_method_27_code 26 = .ok (.getfield 134, 3) := by decide +kernel
theorem em96_29 : decode prog_1_method_27_code 29 = .ok (.if_icmp .ge 49, 3) := by decide +kernel
theorem em96_32 : decode prog_1_method_27_code 32 = .ok (.aload_n 0, 1) := by decide +kernel
theorem em96_33 : decode prog_1_method_27_code 33 = .ok (.getfield 89, 3) := by decide +kernel
theorem em96_36 : decode prog_1_method_27_code 36 = .ok (.aload_n 0, 1) := by decide +kernel
theorem em96_37 : decode prog_1_method_27_code 37 = .ok (.getfield 39, 3) := by decide +kernel
theorem em96_40 : decode prog_1_method_27_code 40 = .ok (.iload 4, 2) := by decide +kernel
theorem em96_42 : decode prog_1_method_27_code 42 = .ok (.invokevirtual 277, 3) := by decide +kernel
theorem em96_45 : decode prog_1_method_27_code 45 = .ok (.iload 4, 2) := by decide +kernel
theorem em96_47 : decode prog_1_method_27_code 47 = .ok (.ifCond .eq 14, 3) := by decide +kernel
theorem em96_50 : decode prog_1_method_27_code 50 = .ok (.aload_n 0, 1) := by decide +kernel
theorem em96_51 : decode prog_1_method_27_code 51 = .ok (.getfield 89, 3) := by decide +kernel
theorem em96_54 : decode prog_1_method_27_code 54 = .ok (.getfield 269, 3) := by decide +kernel
theorem em96_57 : decode prog_1_method_27_code 57 = .ok (.iload_n 3, 1) := by decide +kernel
theorem em96_58 : decode prog_1_method_27_code 58 = .ok (.if_icmp .ge 14, 3) := by decide +kernel
theorem em96_61 : decode prog_1_method_27_code 61 = .ok (.iload 4, 2) := by decide +kernel
theorem em96_63 : decode prog_1_method_27_code 63 = .ok (.istore_n 2, 1) := by decide +kernel
theorem em96_64 : decode prog_1_method_27_code 64 = .ok (.aload_n 0, 1) := by decide +kernel
theorem em96_65 : decode prog_1_method_27_code 65 = .ok (.getfield 89, 3) := by decide +kernel
theorem em96_68 : decode prog_1_method_27_code 68 = .ok (.getfield 269, 3) := by decide +kernel
theorem em96_71 : decode prog_1_method_27_code 71 = .ok (.istore_n 3, 1) := by decide +kernel
theorem em96_72 : decode prog_1_method_27_code 72 = .ok (.iinc 4 1, 3) := by decide +kernel
theorem em96_75 : decode prog_1_method_27_code 75 = .ok (.goto (-55), 3) := by decide +kernel
theorem em96_78 : decode prog_1_method_27_code 78 = .ok (.iload_n 1, 1) := by decide +kernel
theorem em96_79 : decode prog_1_method_27_code 79 = .ok (.ifCond .ne 7, 3) := by decide +kernel
theorem em96_82 : decode prog_1_method_27_code 82 = .ok (.iload_n 2, 1) := by decide +kernel
theorem em96_83 : decode prog_1_method_27_code 83 = .ok (.goto 4, 3) := by decide +kernel
theorem em96_86 : decode prog_1_method_27_code 86 = .ok (.iload_n 3, 1) := by decide +kernel
theorem em96_87 : decode prog_1_method_27_code 87 = .ok (.ireturn, 1) := by decide +kernel
/-! CapitalCase.pillar:(I)I -/
noncomputable def zTr_101 : Nat → Option aF := bn 40 (bn 17 (bn 9 (bn 4 (bn 1 (bl 0 (a_iload 1 1)) (bl 1 (a_if 2 9 4))) (bn 5 (bl 4 (a_iload 1 5)) (bn 6 (bl 5 (a_const 1 6)) (bl 6 (a_icmp 5 11 9))))) (bn 13 (bn 11 (bl 9 (a_const (-1) 10)) (bl 11 (a_const (-2) 13))) (bn 14 (bl 13 (a_istore 2 14)) (bn 16 (bl 14 (a_const (-2) 16)) (bl 16 (a_istore 3 17)))))) (bn 26 (bn 20 (bn 18 (bl 17 (a_const 0 18)) (bl 18 (a_istore 4 20))) (bn 22 (bl 20 (a_iload 4 22)) (bn 23 (bl 22 (a_aload 0 23)) (bl 23 (a_getf zG0 zT0 11 0 26))))) (bn 33 (bn 29 (bl 26 (a_getf zG0 zT0 6 0 29)) (bn 32 (bl 29 (a_icmp 3 78 32)) (bl 32 (a_aload 0 33)))) (bn 36 (bl 33 (a_getf zG0 zT0 11 4 36)) (bn 37 (bl 36 (a_aload 0 37)) (bl 37 (a_getf zG0 zT0 11 1 40))))))) (bn 64 (bn 51 (bn 45 (bn 42 (bl 40 (a_iload 4 42)) (bl 42 (a_invV zG0 zprot (true, false) zc_29 (zbd 29) (22, 0, 0) 3 3 45))) (bn 47 (bl 45 (a_iload 4 47)) (bn 50 (bl 47 (a_if 0 61 50)) (bl 50 (a_aload 0 51))))) (bn 58 (bn 54 (bl 51 (a_getf zG0 zT0 11 4 54)) (bn 57 (bl 54 (a_getf zG0 zT0 3 6 57)) (bl 57 (a_iload 3 58)))) (bn 61 (bl 58 (a_icmp 3 72 61)) (bn 63 (bl 61 (a_iload 4 63)) (bl 63 (a_istore 2 64)))))) (bn 75 (bn 68 (bn 65 (bl 64 (a_aload 0 65)) (bl 65 (a_getf zG0 zT0 11 4 68))) (bn 71 (bl 68 (a_getf zG0 zT0 3 6 71)) (bn 72 (bl 71 (a_istore 3 72)) (bl 72 (a_iinc 4 1 75))))) (bn 82 (bn 78 (bl 75 (a_goto 20)) (bn 79 (bl 78 (a_iload 1 79)) (bl 79 (a_if 1 86 82)))) (bn 83 (bl 82 (a_iload 2 83)) (bn 86 (bl 83 (a_goto 87)) (bl 86 (a_iload 3 87)))))))
set_option maxRecDepth 100000 in
set_option maxHeartbeats 4000000 in
theorem zTo_101 {pre : zPre} {post : zPost} (H : zTieC pre post) {d : Nat × Nat × Nat} (hd : zLe (22, 0, 0) d) : aTr zG0 zT0 zInv (true, false) PZ zbd pre post d prog_1_method_27_code "CapitalCase" zTr_101 := (xB_n (xB_n (xB_n (xB_n (xB_n (xB_l ⟨_, zs_iload_n em96_0, as_iload⟩) (xB_l ⟨_, zs_iflt em96_1 (t := 9) (by decide), as_if⟩)) (xB_n (xB_l ⟨_, zs_iload_n em96_4, as_iload⟩) (xB_n (xB_l ⟨_, zs_iconst (v := 1) em96_5 (by decide +kernel), as_const (by decide +kernel)⟩) (xB_l ⟨_, zs_icmple em96_6 (t := 11) (by decide), as_icmp⟩)))) (xB_n (xB_n (xB_l ⟨_, zs_iconst (v := (-1)) em96_9 (by decide +kernel), as_const (by decide +kernel)⟩) (xB_l ⟨_, zs_bipush (v := (-2)) em96_11 (by decide +kernel), as_const (by decide +kernel)⟩)) (xB_n (xB_l ⟨_, zs_istore_n em96_13, as_istore⟩) (xB_n (xB_l ⟨_, zs_bipush (v := (-2)) em96_14 (by decide +kernel), as_const (by decide +kernel)⟩) (xB_l ⟨_, zs_istore_n em96_16, as_istore⟩))))) (xB_n (xB_n (xB_n (xB_l ⟨_, zs_iconst (v := 0) em96_17 (by decide +kernel), as_const (by decide +kernel)⟩) (xB_l ⟨_, zs_istore em96_18, as_istore⟩)) (xB_n (xB_l ⟨_, zs_iload em96_20, as_iload⟩) (xB_n (xB_l ⟨_, zs_aload_n em96_22, as_aload⟩) (xB_l ⟨_, zs_getf (T := TX11) (M := 16) (ci := 11) (j := 0) em96_23 rfl inX11 (by decide) wd_556 ((congrFun xo_0 23).trans rfl), as_getf zTie⟩)))) (xB_n (xB_n (xB_l ⟨_, zs_getf (T := TX6) (M := 15) (ci := 6) (j := 0) em96_26 rfl inX6 (by decide) wd_167 ((congrFun xo_0 134).trans rfl), as_getf zTie⟩) (xB_n (xB_l ⟨_, zs_icmpge em96_29 (t := 78) (by decide), as_icmp⟩) (xB_l ⟨_, zs_aload_n em96_32, as_aload⟩))) (xB_n (xB_l ⟨_, zs_getf (T := TX11) (M := 16) (ci := 11) (j := 4) em96_33 rfl inX11 (by decide) wd_566 ((congrFun xo_0 89).trans rfl), as_getf zTie⟩) (xB_n (xB_l ⟨_, zs_aload_n em96_36, as_aload⟩) (xB_l ⟨_, zs_getf (T := TX11) (M := 16) (ci := 11) (j := 1) em96_37 rfl inX11 (by decide) wd_558 ((congrFun xo_0 39).trans rfl), as_getf zTie⟩)))))) (xB_n (xB_n (xB_n (xB_n (xB_l ⟨_, zs_iload em96_40, as_iload⟩) (xB_l ⟨_, zs_invV (T := TX3) em96_42 zl_29 rfl wd_1087 wd_1088 wd_1089 ((congrFun xo_0 277).trans rfl) xm_29, ag_invV H zh_29 hd (by decide)⟩)) (xB_n (xB_l ⟨_, zs_iload em96_45, as_iload⟩) (xB_n (xB_l ⟨_, zs_ifeq em96_47 (t := 61) (by decide), as_if⟩) (xB_l ⟨_, zs_aload_n em96_50, as_aload⟩)))) (xB_n (xB_n (xB_l ⟨_, zs_getf (T := TX11) (M := 16) (ci := 11) (j := 4) em96_51 rfl inX11 (by decide) wd_566 ((congrFun xo_0 89).trans rfl), as_getf zTie⟩) (xB_n (xB_l ⟨_, zs_getf (T := TX3) (M := 12) (ci := 3) (j := 6) em96_54 rfl inX3 (by decide) wd_463 ((congrFun xo_0 269).trans rfl), as_getf zTie⟩) (xB_l ⟨_, zs_iload_n em96_57, as_iload⟩))) (xB_n (xB_l ⟨_, zs_icmpge em96_58 (t := 72) (by decide), as_icmp⟩) (xB_n (xB_l ⟨_, zs_iload em96_61, as_iload⟩) (xB_l ⟨_, zs_istore_n em96_63, as_istore⟩))))) (xB_n (xB_n (xB_n (xB_l ⟨_, zs_aload_n em96_64, as_aload⟩) (xB_l ⟨_, zs_getf (T := TX11) (M := 16) (ci := 11) (j := 4) em96_65 rfl inX11 (by decide) wd_566 ((congrFun xo_0 89).trans rfl), as_getf zTie⟩)) (xB_n (xB_l ⟨_, zs_getf (T := TX3) (M := 12) (ci := 3) (j := 6) em96_68 rfl inX3 (by decide) wd_463 ((congrFun xo_0 269).trans rfl), as_getf zTie⟩) (xB_n (xB_l ⟨_, zs_istore_n em96_71, as_istore⟩) (xB_l ⟨_, zs_iinc (k := 1) em96_72 (by decide +kernel), as_iinc (by decide +kernel)⟩)))) (xB_n (xB_n (xB_l ⟨_, zs_goto em96_75 (t := 20) (by decide), as_goto⟩) (xB_n (xB_l ⟨_, zs_iload_n em96_78, as_iload⟩) (xB_l ⟨_, zs_ifne em96_79 (t := 86) (by decide), as_if⟩))) (xB_n (xB_l ⟨_, zs_iload_n em96_82, as_iload⟩) (xB_n (xB_l ⟨_, zs_goto em96_83 (t := 87) (by decide), as_goto⟩) (xB_l ⟨_, zs_iload_n em96_86, as_iload⟩)))))))
set_option maxRecDepth 100000 in
set_option maxHeartbeats 4000000 in
theorem zM_101 : zOKa 101 zc_101 := z_auto (cuts := [(20, ([(0, 0), (0, 1), (0, 408), (0, 5), (0, 7), ((-2), 4), ((-2147483648), 2147483647), (0, 5)], [], [some (.inr (.inl (0, 0))), some (.inl (1, 0)), some (.inl (5, 0)), some (.inl (6, 0)), some (.inl (7, 0))], [], [(4, 2, 0), (5, 3, 0), (6, 4, 0)], (0, 0)), [(0, 2), (0, 3), (0, 4)], 5, [0, 0, 0, 0, 0, 0, 0, (-1)])]) (rets := [(10, 1), (87, 1)]) (fuel := 1000) rfl rfl (by decide) (xrt_ok (xR_c (Or.inl ⟨rfl, em96_10, rfl⟩) (xR_c (Or.inl ⟨rfl, em96_87, rfl⟩) (xR_n)))) (fun _ _ H _ hd => zTo_101 H hd) (by decide +kernel)
theorem em97_0 : decode prog_1_method_7_code 0 = .ok (.aload_n 0, 1) := by decide +kernel
theorem em97_1 : decode prog_1_method_7_code 1 = .ok (.getfield 17, 3) := by decide +kernel
theorem em97_4 : decode prog_1_method_7_code 4 = .ok (.ireturn, 1) := by decide +kernel
/-! CapitalCase.place:()I -/
noncomputable def zTr_102 : Nat → Option aF := bn 1 (bl 0 (a_aload 0 1)) (bl 1 (a_getf zG0 zT0 11 9 4))
set_option maxRecDepth 100000 in
set_option maxHeartbeats 4000000 in
theorem zTo_102 {pre : zPre} {post : zPost} (H : zTieC pre post) {d : Nat × Nat × Nat} (hd : zLe (0, 0, 0) d) : aTr zG0 zT0 zInv (false, false) PZ zbd pre post d prog_1_method_7_code "CapitalCase" zTr_102 := (xB_n (xB_l ⟨_, zs_aload_n em97_0, as_aload⟩) (xB_l ⟨_, zs_getf (T := TX11) (M := 16) (ci := 11) (j := 9) em97_1 rfl inX11 (by decide) wd_555 ((congrFun xo_0 17).trans rfl), as_getf zTie⟩))
set_option maxRecDepth 100000 in
set_option maxHeartbeats 4000000 in
theorem zM_102 : zOKa 102 zc_102 := z_auto (cuts := []) (rets := [(4, 1)]) (fuel := 1000) rfl rfl (by decide) (xrt_ok (xR_c (Or.inl ⟨rfl, em97_4, rfl⟩) (xR_n))) (fun _ _ H _ hd => zTo_102 H hd) (by decide +kernel)
theorem em98_0 : decode prog_1_method_5_code 0 = .ok (.aload_n 0, 1) := by decide +kernel
theorem em98_1 : decode prog_1_method_5_code 1 = .ok (.getfield 32, 3) := by decide +kernel
theorem em98_4 : decode prog_1_method_5_code 4 = .ok (.aload_n 0, 1) := by decide +kernel
theorem em98_5 : decode prog_1_method_5_code 5 = .ok (.getfield 13, 3) := by decide +kernel
theorem em98_8 : decode prog_1_method_5_code 8 = .ok (.invokevirtual 113, 3) := by decide +kernel
theorem em98_11 : decode prog_1_method_5_code 11 = .ok (.istore_n 1, 1) := by decide +kernel
theorem em98_12 : decode prog_1_method_5_code 12 = .ok (.aload_n 0, 1) := by decide +kernel
theorem em98_13 : decode prog_1_method_5_code 13 = .ok (.iconst 0, 1) := by decide +kernel
theorem em98_14 : decode prog_1_method_5_code 14 = .ok (.putfield 13, 3) := by decide +kernel
theorem em98_17 : decode prog_1_method_5_code 17 = .ok (.aload_n 0, 1) := by decide +kernel
theorem em98_18 : decode prog_1_method_5_code 18 = .ok (.iload_n 1, 1) := by decide +kernel
theorem em98_19 : decode prog_1_method_5_code 19 = .ok (.ifCond .ne 7, 3) := by decide +kernel
theorem em98_22 : decode prog_1_method_5_code 22 = .ok (.iconst (-1), 1) := by decide +kernel
theorem em98_23 : decode prog_1_method_5_code 23 = .ok (.goto 10, 3) := by decide +kernel
theorem em98_26 : decode prog_1_method_5_code 26 = .ok (.aload_n 0, 1) := by decide +kernel
theorem em98_27 : decode prog_1_method_5_code 27 = .ok (.getfield 32, 3) := by decide +kernel
theorem em98_30 : decode prog_1_method_5_code 30 = .ok (.getfield 117, 3) := by decide +kernel
theorem em98_33 : decode prog_1_method_5_code 33 = .ok (.putfield 17, 3) := by decide +kernel
theorem em98_36 : decode prog_1_method_5_code 36 = .ok (.iload_n 1, 1) := by decide +kernel
theorem em98_37 : decode prog_1_method_5_code 37 = .ok (.ifCond .ne 21, 3) := by decide +kernel
theorem em98_40 : decode prog_1_method_5_code 40 = .ok (.aload_n 0, 1) := by decide +kernel
theorem em98_41 : decode prog_1_method_5_code 41 = .ok (.getfield 23, 3) := by decide +kernel
theorem em98_44 : decode prog_1_method_5_code 44 = .ok (.aload_n 0, 1) := by decide +kernel
theorem em98_45 : decode prog_1_method_5_code 45 = .ok (.getfield 32, 3) := by decide +kernel
theorem em98_48 : decode prog_1_method_5_code 48 = .ok (.getfield 120, 3) := by decide +kernel
theorem em98_51 : decode prog_1_method_5_code 51 = .ok (.invokevirtual 121, 3) := by decide +kernel
theorem em98_54 : decode prog_1_method_5_code 54 = .ok (.aload_n 0, 1) := by decide +kernel
theorem em98_55 : decode prog_1_method_5_code 55 = .ok (.invokevirtual 124, 3) := by decide +kernel
theorem em98_58 : decode prog_1_method_5_code 58 = .ok (.iload_n 1, 1) := by decide +kernel
theorem em98_59 : decode prog_1_method_5_code 59 = .ok (.ireturn, 1) := by decide +kernel
/-! CapitalCase.read:()I -/
noncomputable def zTr_103 : Nat → Option aF := bn 26 (bn 13 (bn 5 (bn 1 (bl 0 (a_aload 0 1)) (bn 4 (bl 1 (a_getf zG0 zT0 11 10 4)) (bl 4 (a_aload 0 5)))) (bn 11 (bn 8 (bl 5 (a_getf zG0 zT0 11 6 8)) (bl 8 (a_invV zG0 zprot (true, true) zc_16 (zbd 16) (61, 0, 0) 2 2 11))) (bn 12 (bl 11 (a_istore 1 12)) (bl 12 (a_aload 0 13))))) (bn 18 (bn 14 (bl 13 (a_const 0 14)) (bn 17 (bl 14 (a_puti zG0 zT0 zprot 11 6 0 17)) (bl 17 (a_aload 0 18)))) (bn 22 (bn 19 (bl 18 (a_iload 1 19)) (bl 19 (a_if 1 26 22))) (bn 23 (bl 22 (a_const (-1) 23)) (bl 23 (a_goto 33)))))) (bn 41 (bn 33 (bn 27 (bl 26 (a_aload 0 27)) (bn 30 (bl 27 (a_getf zG0 zT0 11 10 30)) (bl 30 (a_getf zG0 zT0 2 5 33)))) (bn 37 (bn 36 (bl 33 (a_puti zG0 zT0 zprot 11 9 0 36)) (bl 36 (a_iload 1 37))) (bn 40 (bl 37 (a_if 1 58 40)) (bl 40 (a_aload 0 41))))) (bn 51 (bn 45 (bn 44 (bl 41 (a_getf zG0 zT0 11 0 44)) (bl 44 (a_aload 0 45))) (bn 48 (bl 45 (a_getf zG0 zT0 11 10 48)) (bl 48 (a_getf zG0 zT0 2 0 51)))) (bn 55 (bn 54 (bl 51 (a_invV zG0 zprot (true, true) zc_47 (zbd 47) (61, 0, 0) 6 2 54)) (bl 54 (a_aload 0 55))) (bn 58 (bl 55 (a_invV zG0 zprot (true, true) zc_79 (zbd 79) (61, 0, 0) 11 1 58)) (bl 58 (a_iload 1 59))))))
set_option maxRecDepth 100000 in
set_option maxHeartbeats 4000000 in
theorem zTo_103 {pre : zPre} {post : zPost} (H : zTieC pre post) {d : Nat × Nat × Nat} (hd : zLe (61, 0, 0) d) : aTr zG0 zT0 zInv (true, true) PZ zbd pre post d prog_1_method_5_code "CapitalCase" zTr_103 := (xB_n (xB_n (xB_n (xB_n (xB_l ⟨_, zs_aload_n em98_0, as_aload⟩) (xB_n (xB_l ⟨_, zs_getf (T := TX11) (M := 16) (ci := 11) (j := 10) em98_1 rfl inX11 (by decide) wd_557 ((congrFun xo_0 32).trans rfl), as_getf zTie⟩) (xB_l ⟨_, zs_aload_n em98_4, as_aload⟩))) (xB_n (xB_n (xB_l ⟨_, zs_getf (T := TX11) (M := 16) (ci := 11) (j := 6) em98_5 rfl inX11 (by decide) wd_554 ((congrFun xo_0 13).trans rfl), as_getf zTie⟩) (xB_l ⟨_, zs_invV (T := TX2) em98_8 zl_16 rfl wd_618 wd_619 wd_620 ((congrFun xo_0 113).trans rfl) xm_16, ag_invV H zh_16 hd (by decide)⟩)) (xB_n (xB_l ⟨_, zs_istore_n em98_11, as_istore⟩) (xB_l ⟨_, zs_aload_n em98_12, as_aload⟩)))) (xB_n (xB_n (xB_l ⟨_, zs_iconst (v := 0) em98_13 (by decide +kernel), as_const (by decide +kernel)⟩) (xB_n (xB_l ⟨_, zs_puti zInj0 (T := TX11) (M := 16) (ty := tyX11) (ci := 11) (j := 6) (kd := 0) em98_14 rfl inX11 tyX11_ok nmX11 (by decide) wd_554 (Or.inl ⟨rfl, rfl⟩) rfl ((congrFun xo_0 13).trans rfl), ag_puti0⟩) (xB_l ⟨_, zs_aload_n em98_17, as_aload⟩))) (xB_n (xB_n (xB_l ⟨_, zs_iload_n em98_18, as_iload⟩) (xB_l ⟨_, zs_ifne em98_19 (t := 26) (by decide), as_if⟩)) (xB_n (xB_l ⟨_, zs_iconst (v := (-1)) em98_22 (by decide +kernel), as_const (by decide +kernel)⟩) (xB_l ⟨_, zs_goto em98_23 (t := 33) (by decide), as_goto⟩))))) (xB_n (xB_n (xB_n (xB_l ⟨_, zs_aload_n em98_26, as_aload⟩) (xB_n (xB_l ⟨_, zs_getf (T := TX11) (M := 16) (ci := 11) (j := 10) em98_27 rfl inX11 (by decide) wd_557 ((congrFun xo_0 32).trans rfl), as_getf zTie⟩) (xB_l ⟨_, zs_getf (T := TX2) (M := 10) (ci := 2) (j := 5) em98_30 rfl inX2 (by decide) wd_288 ((congrFun xo_0 117).trans rfl), as_getf zTie⟩))) (xB_n (xB_n (xB_l ⟨_, zs_puti zInj0 (T := TX11) (M := 16) (ty := tyX11) (ci := 11) (j := 9) (kd := 0) em98_33 rfl inX11 tyX11_ok nmX11 (by decide) wd_555 (Or.inl ⟨rfl, rfl⟩) rfl ((congrFun xo_0 17).trans rfl), ag_puti0⟩) (xB_l ⟨_, zs_iload_n em98_36, as_iload⟩)) (xB_n (xB_l ⟨_, zs_ifne em98_37 (t := 58) (by decide), as_if⟩) (xB_l ⟨_, zs_aload_n em98_40, as_aload⟩)))) (xB_n (xB_n (xB_n (xB_l ⟨_, zs_getf (T := TX11) (M := 16) (ci := 11) (j := 0) em98_41 rfl inX11 (by decide) wd_556 ((congrFun xo_0 23).trans rfl), as_getf zTie⟩) (xB_l ⟨_, zs_aload_n em98_44, as_aload⟩)) (xB_n (xB_l ⟨_, zs_getf (T := TX11) (M := 16) (ci := 11) (j := 10) em98_45 rfl inX11 (by decide) wd_557 ((congrFun xo_0 32).trans rfl), as_getf zTie⟩) (xB_l ⟨_, zs_getf (T := TX2) (M := 10) (ci := 2) (j := 0) em98_48 rfl inX2 (by decide) wd_282 ((congrFun xo_0 120).trans rfl), as_getf zTie⟩))) (xB_n (xB_n (xB_l ⟨_, zs_invV (T := TX6) em98_51 zl_47 rfl wd_825 wd_826 wd_827 ((congrFun xo_0 121).trans rfl) xm_44, ag_invV H zh_47 hd (by decide)⟩) (xB_l ⟨_, zs_aload_n em98_54, as_aload⟩)) (xB_n (xB_l ⟨_, zs_invV (T := TX11) em98_55 zl_79 rfl wd_832 wd_834 wd_18 ((congrFun xo_0 124).trans rfl) xm_74, ag_invV H zh_79 hd (by decide)⟩) (xB_l ⟨_, zs_iload_n em98_58, as_iload⟩))))))
set_option maxRecDepth 100000 in
set_option maxHeartbeats 4000000 in
theorem zM_103 : zOKa 103 zc_103 := z_auto (cuts := []) (rets := [(59, 1)]) (fuel := 1000) rfl rfl (by decide) (xrt_ok (xR_c (Or.inl ⟨rfl, em98_59, rfl⟩) (xR_n))) (fun _ _ H _ hd => zTo_103 H hd) (by decide +kernel)
theorem em100_0 : decode prog_1_method_17_code 0 = .ok (.aload_n 0, 1) := by decide +kernel
theorem em100_1 : decode prog_1_method_17_code 1 = .ok (.iload_n 1, 1) := by decide +kernel
theorem em100_2 : decode prog_1_method_17_code 2 = .ok (.invokevirtual 175, 3) := by decide +kernel
theorem em100_5 : decode prog_1_method_17_code 5 = .ok (.ifCond .eq 19, 3) := by decide +kernel
theorem em100_8 : decode prog_1_method_17_code 8 = .ok (.aload_n 0, 1) := by decide +kernel
theorem em100_9 : decode prog_1_method_17_code 9 = .ok (.iload_n 1, 1) := by decide +kernel
theorem em100_10 : decode prog_1_method_17_code 10 = .ok (.invokevirtual 214, 3) := by decide +kernel
theorem em100_13 : decode prog_1_method_17_code 13 = .ok (.ifCond .eq 11, 3) := by decide +kernel
theorem em100_16 : decode prog_1_method_17_code 16 = .ok (.aload_n 0, 1) := by decide +kernel
theorem em100_17 : decode prog_1_method_17_code 17 = .ok (.iload_n 1, 1) := by decide +kernel
theorem em100_18 : decode prog_1_method_17_code 18 = .ok (.invokevirtual 217, 3) := by decide +kernel
theorem em100_21 : decode prog_1_method_17_code 21 = .ok (.ifCond .ne 5, 3) := by decide +kernel
theorem em100_24 : decode prog_1_method_17_code 24 = .ok (.iconst 0, 1) := by decide +kernel
theorem em100_25 : decode prog_1_method_17_code 25 = .ok (.ireturn, 1) := by decide +kernel
theorem em100_26 : decode prog_1_method_17_code 26 = .ok (.aload_n 0, 1) := by decide +kernel
theorem em100_27 : decode prog_1_method_17_code 27 = .ok (.getfield 49, 3) := by decide +kernel
theorem em100_30 : decode prog_1_method_17_code 30 = .ok (.aload_n 0, 1) := by decide +kernel
theorem em100_31 : decode prog_1_method_17_code 31 = .ok (.getfield 39, 3) := by decide +kernel
theorem em100_34 : decode prog_1_method_17_code 34 = .ok (.invokevirtual 220, 3) := by decide +kernel
theorem em100_37 : decode prog_1_method_17_code 37 = .ok (.aload_n 0, 1) := by decide +kernel
theorem em100_38 : decode prog_1_method_17_code 38 = .ok (.getfield 39, 3) := by decide +kernel
theorem em100_41 : decode prog_1_method_17_code 41 = .ok (.aload_n 0, 1) := by decide +kernel
theorem em100_42 : decode prog_1_method_17_code 42 = .ok (.getfield 23, 3) := by decide +kernel
theorem em100_45 : decode prog_1_method_17_code 45 = .ok (.iload_n 1, 1) := by decide +kernel
theorem em100_46 : decode prog_1_method_17_code 46 = .ok (.aload_n 0, 1) := by decide +kernel
theorem em100_47 : decode prog_1_method_17_code 47 = .ok (.getfield 89, 3) := by decide +kernel
theorem em100_50 : decode prog_1_method_17_code 50 = .ok (.getfield 224, 3) := by decide +kernel
theorem em100_53 : decode prog_1_method_17_code 53 = .ok (.invokevirtual 227, 3) := by decide +kernel
theorem em100_56 : decode prog_1_method_17_code 56 = .ok (.iconst 1, 1) := by decide +kernel
theorem em100_57 : decode prog_1_method_17_code 57 = .ok (.ireturn, 1) := by decide +kernel
/-! CapitalCase.set:(I)Z -/
noncomputable def zTr_105 : Nat → Option aF := bn 27 (bn 13 (bn 5 (bn 1 (bl 0 (a_aload 0 1)) (bn 2 (bl 1 (a_iload 1 2)) (bl 2 (a_invV zG0 zprot (true, false) zc_96 (zbd 96) (22, 6, 396) 11 2 5)))) (bn 9 (bn 8 (bl 5 (a_if 0 24 8)) (bl 8 (a_aload 0 9))) (bn 10 (bl 9 (a_iload 1 10)) (bl 10 (a_invV zG0 zprot (true, false) zc_95 (zbd 95) (22, 6, 396) 11 2 13))))) (bn 18 (bn 16 (bl 13 (a_if 0 24 16)) (bn 17 (bl 16 (a_aload 0 17)) (bl 17 (a_iload 1 18)))) (bn 24 (bn 21 (bl 18 (a_invV zG0 zprot (true, false) zc_83 (zbd 83) (22, 6, 396) 11 2 21)) (bl 21 (a_if 1 26 24))) (bn 26 (bl 24 (a_const 0 25)) (bl 26 (a_aload 0 27)))))) (bn 42 (bn 34 (bn 30 (bl 27 (a_getf zG0 zT0 11 8 30)) (bn 31 (bl 30 (a_aload 0 31)) (bl 31 (a_getf zG0 zT0 11 1 34)))) (bn 38 (bn 37 (bl 34 (a_invV zG0 zprot (true, false) zc_0 (zbd 0) (22, 6, 396) 0 2 37)) (bl 37 (a_aload 0 38))) (bn 41 (bl 38 (a_getf zG0 zT0 11 1 41)) (bl 41 (a_aload 0 42))))) (bn 47 (bn 45 (bl 42 (a_getf zG0 zT0 11 0 45)) (bn 46 (bl 45 (a_iload 1 46)) (bl 46 (a_aload 0 47)))) (bn 53 (bn 50 (bl 47 (a_getf zG0 zT0 11 4 50)) (bl 50 (a_getf zG0 zT0 3 3 53))) (bn 56 (bl 53 (a_invV zG0 zprot (true, false) zc_56 (zbd 56) (22, 6, 396) 8 4 56)) (bl 56 (a_const 1 57))))))
set_option maxRecDepth 100000 in
set_option maxHeartbeats 4000000 in
theorem zTo_105 {pre : zPre} {post : zPost} (H : zTieC pre post) {d : Nat × Nat × Nat} (hd : zLe (22, 6, 396) d) : aTr zG0 zT0 zInv (true, false) PZ zbd pre post d prog_1_method_17_code "CapitalCase" zTr_105 := (xB_n (xB_n (xB_n (xB_n (xB_l ⟨_, zs_aload_n em100_0, as_aload⟩) (xB_n (xB_l ⟨_, zs_iload_n em100_1, as_iload⟩) (xB_l ⟨_, zs_invV (T := TX11) em100_2 zl_96 rfl wd_894 wd_896 wd_23 ((congrFun xo_0 175).trans rfl) xm_91, ag_invV H zh_96 hd (by decide)⟩))) (xB_n (xB_n (xB_l ⟨_, zs_ifeq em100_5 (t := 24) (by decide), as_if⟩) (xB_l ⟨_, zs_aload_n em100_8, as_aload⟩)) (xB_n (xB_l ⟨_, zs_iload_n em100_9, as_iload⟩) (xB_l ⟨_, zs_invV (T := TX11) em100_10 zl_95 rfl wd_931 wd_933 wd_26 ((congrFun xo_0 214).trans rfl) xm_90, ag_invV H zh_95 hd (by decide)⟩)))) (xB_n (xB_n (xB_l ⟨_, zs_ifeq em100_13 (t := 24) (by decide), as_if⟩) (xB_n (xB_l ⟨_, zs_aload_n em100_16, as_aload⟩) (xB_l ⟨_, zs_iload_n em100_17, as_iload⟩))) (xB_n (xB_n (xB_l ⟨_, zs_invV (T := TX11) em100_18 zl_83 rfl wd_939 wd_941 wd_27 ((congrFun xo_0 217).trans rfl) xm_78, ag_invV H zh_83 hd (by decide)⟩) (xB_l ⟨_, zs_ifne em100_21 (t := 26) (by decide), as_if⟩)) (xB_n (xB_l ⟨_, zs_iconst (v := 0) em100_24 (by decide +kernel), as_const (by decide +kernel)⟩) (xB_l ⟨_, zs_aload_n em100_26, as_aload⟩))))) (xB_n (xB_n (xB_n (xB_l ⟨_, zs_getf (T := TX11) (M := 16) (ci := 11) (j := 8) em100_27 rfl inX11 (by decide) wd_560 ((congrFun xo_0 49).trans rfl), as_getf zTie⟩) (xB_n (xB_l ⟨_, zs_aload_n em100_30, as_aload⟩) (xB_l ⟨_, zs_getf (T := TX11) (M := 16) (ci := 11) (j := 1) em100_31 rfl inX11 (by decide) wd_558 ((congrFun xo_0 39).trans rfl), as_getf zTie⟩))) (xB_n (xB_n (xB_l ⟨_, zs_invV (T := TX0) em100_34 zl_0 rfl wd_967 wd_968 wd_969 ((congrFun xo_0 220).trans rfl) xm_0, ag_invV H zh_0 hd (by decide)⟩) (xB_l ⟨_, zs_aload_n em100_37, as_aload⟩)) (xB_n (xB_l ⟨_, zs_getf (T := TX11) (M := 16) (ci := 11) (j := 1) em100_38 rfl inX11 (by decide) wd_558 ((congrFun xo_0 39).trans rfl), as_getf zTie⟩) (xB_l ⟨_, zs_aload_n em100_41, as_aload⟩)))) (xB_n (xB_n (xB_l ⟨_, zs_getf (T := TX11) (M := 16) (ci := 11) (j := 0) em100_42 rfl inX11 (by decide) wd_556 ((congrFun xo_0 23).trans rfl), as_getf zTie⟩) (xB_n (xB_l ⟨_, zs_iload_n em100_45, as_iload⟩) (xB_l ⟨_, zs_aload_n em100_46, as_aload⟩))) (xB_n (xB_n (xB_l ⟨_, zs_getf (T := TX11) (M := 16) (ci := 11) (j := 4) em100_47 rfl inX11 (by decide) wd_566 ((congrFun xo_0 89).trans rfl), as_getf zTie⟩) (xB_l ⟨_, zs_getf (T := TX3) (M := 12) (ci := 3) (j := 3) em100_50 rfl inX3 (by decide) wd_456 ((congrFun xo_0 224).trans rfl), as_getf zTie⟩)) (xB_n (xB_l ⟨_, zs_invV (T := TX8) em100_53 zl_56 rfl wd_977 wd_978 wd_979 ((congrFun xo_0 227).trans rfl) xm_52, ag_invV H zh_56 hd (by decide)⟩) (xB_l ⟨_, zs_iconst (v := 1) em100_56 (by decide +kernel), as_const (by decide +kernel)⟩))))))
set_option maxRecDepth 100000 in
set_option maxHeartbeats 4000000 in
theorem zM_105 : zOKa 105 zc_105 := z_auto (cuts := []) (rets := [(25, 2), (57, 2)]) (fuel := 1000) rfl rfl (by decide) (xrt_ok (xR_c (Or.inr (Or.inl ⟨rfl, em100_25, rfl⟩)) (xR_c (Or.inr (Or.inl ⟨rfl, em100_57, rfl⟩)) (xR_n)))) (fun _ _ H _ hd => zTo_105 H hd) (by decide +kernel)
theorem em101_0 : decode prog_1_method_47_code 0 = .ok (.iconst 0, 1) := by decide +kernel
theorem em101_1 : decode prog_1_method_47_code 1 = .ok (.istore_n 1, 1) := by decide +kernel
theorem em101_2 : decode prog_1_method_47_code 2 = .ok (.iconst 0, 1) := by decide +kernel
theorem em101_3 : decode prog_1_method_47_code 3 = .ok (.istore_n 2, 1) := by decide +kernel
theorem em101_4 : decode prog_1_method_47_code 4 = .ok (.iload_n 2, 1) := by decide +kernel
theorem em101_5 : decode prog_1_method_47_code 5 = .ok (.aload_n 0, 1) := by decide +kernel
theorem em101_6 : decode prog_1_method_47_code 6 = .ok (.getfield 23, 3) := by decide +kernel
theorem em101_9 : decode prog_1_method_47_code 9 = .ok (.getfield 141, 3) := by decide +kernel
theorem em101_12 : decode prog_1_method_47_code 12 = .ok (.if_icmp .ge 31, 3) := by decide +kernel
theorem em101_15 : decode prog_1_method_47_code 15 = .ok (.aload_n 0, 1) := by decide +kernel
theorem em101_16 : decode prog_1_method_47_code 16 = .ok (.iload_n 2, 1) := by decide +kernel
theorem em101_17 : decode prog_1_method_47_code 17 = .ok (.invokevirtual 214, 3) := by decide +kernel
theorem em101_20 : decode prog_1_method_47_code 20 = .ok (.ifCond .eq 17, 3) := by decide +kernel
theorem em101_23 : decode prog_1_method_47_code 23 = .ok (.aload_n 0, 1) := by decide +kernel
theorem em101_24 : decode prog_1_method_47_code 24 = .ok (.iload_n 2, 1) := by decide +kernel
theorem em101_25 : decode prog_1_method_47_code 25 = .ok (.invokevirtual 217, 3) := by decide +kernel
theorem em101_28 : decode prog_1_method_47_code 28 = .ok (.ifCond .eq 9, 3) := by decide +kernel
theorem em101_31 : decode prog_1_method_47_code 31 = .ok (.iload_n 1, 1) := by decide +kernel
theorem em101_32 : decode prog_1_method_47_code 32 = .ok (.iconst 1, 1) := by decide +kernel
theorem em101_33 : decode prog_1_method_47_code 33 = .ok (.iload_n 2, 1) := by decide +kernel
theorem em101_34 : decode prog_1_method_47_code 34 = .ok (.ishl, 1) := by decide +kernel
theorem em101_35 : decode prog_1_method_47_code 35 = .ok (.ior, 1) := by decide +kernel
theorem em101_36 : decode prog_1_method_47_code 36 = .ok (.istore_n 1, 1) := by decide +kernel
theorem em101_37 : decode prog_1_method_47_code 37 = .ok (.iinc 2 1, 3) := by decide +kernel
theorem em101_40 : decode prog_1_method_47_code 40 = .ok (.goto (-36), 3) := by decide +kernel
theorem em101_43 : decode prog_1_method_47_code 43 = .ok (.iload_n 1, 1) := by decide +kernel
theorem em101_44 : decode prog_1_method_47_code 44 = .ok (.ireturn, 1) := by decide +kernel
/-! CapitalCase.settable:()I -/
noncomputable def zTr_106 : Nat → Option aF := bn 23 (bn 6 (bn 3 (bn 1 (bl 0 (a_const 0 1)) (bn 2 (bl 1 (a_istore 1 2)) (bl 2 (a_const 0 3)))) (bn 4 (bl 3 (a_istore 2 4)) (bn 5 (bl 4 (a_iload 2 5)) (bl 5 (a_aload 0 6))))) (bn 15 (bn 9 (bl 6 (a_getf zG0 zT0 11 0 9)) (bn 12 (bl 9 (a_getf zG0 zT0 6 1 12)) (bl 12 (a_icmp 3 43 15)))) (bn 17 (bn 16 (bl 15 (a_aload 0 16)) (bl 16 (a_iload 2 17))) (bn 20 (bl 17 (a_invV zG0 zprot (true, false) zc_95 (zbd 95) (22, 0, 0) 11 2 20)) (bl 20 (a_if 0 37 23)))))) (bn 33 (bn 28 (bn 24 (bl 23 (a_aload 0 24)) (bn 25 (bl 24 (a_iload 2 25)) (bl 25 (a_invV zG0 zprot (true, false) zc_83 (zbd 83) (22, 0, 0) 11 2 28)))) (bn 31 (bl 28 (a_if 0 37 31)) (bn 32 (bl 31 (a_iload 1 32)) (bl 32 (a_const 1 33))))) (bn 36 (bn 34 (bl 33 (a_iload 2 34)) (bn 35 (bl 34 (a_bin fshl 35)) (bl 35 (a_bin fany 36)))) (bn 40 (bn 37 (bl 36 (a_istore 1 37)) (bl 37 (a_iinc 2 1 40))) (bn 43 (bl 40 (a_goto 4)) (bl 43 (a_iload 1 44))))))
set_option maxRecDepth 100000 in
set_option maxHeartbeats 4000000 in
theorem zTo_106 {pre : zPre} {post : zPost} (H : zTieC pre post) {d : Nat × Nat × Nat} (hd : zLe (22, 0, 0) d) : aTr zG0 zT0 zInv (true, false) PZ zbd pre post d prog_1_method_47_code "CapitalCase" zTr_106 := (xB_n (xB_n (xB_n (xB_n (xB_l ⟨_, zs_iconst (v := 0) em101_0 (by decide +kernel), as_const (by decide +kernel)⟩) (xB_n (xB_l ⟨_, zs_istore_n em101_1, as_istore⟩) (xB_l ⟨_, zs_iconst (v := 0) em101_2 (by decide +kernel), as_const (by decide +kernel)⟩))) (xB_n (xB_l ⟨_, zs_istore_n em101_3, as_istore⟩) (xB_n (xB_l ⟨_, zs_iload_n em101_4, as_iload⟩) (xB_l ⟨_, zs_aload_n em101_5, as_aload⟩)))) (xB_n (xB_n (xB_l ⟨_, zs_getf (T := TX11) (M := 16) (ci := 11) (j := 0) em101_6 rfl inX11 (by decide) wd_556 ((congrFun xo_0 23).trans rfl), as_getf zTie⟩) (xB_n (xB_l ⟨_, zs_getf (T := TX6) (M := 15) (ci := 6) (j := 1) em101_9 rfl inX6 (by decide) wd_174 ((congrFun xo_0 141).trans rfl), as_getf zTie⟩) (xB_l ⟨_, zs_icmpge em101_12 (t := 43) (by decide), as_icmp⟩))) (xB_n (xB_n (xB_l ⟨_, zs_aload_n em101_15, as_aload⟩) (xB_l ⟨_, zs_iload_n em101_16, as_iload⟩)) (xB_n (xB_l ⟨_, zs_invV (T := TX11) em101_17 zl_95 rfl wd_931 wd_933 wd_26 ((congrFun xo_0 214).trans rfl) xm_90, ag_invV H zh_95 hd (by decide)⟩) (xB_l ⟨_, zs_ifeq em101_20 (t := 37) (by decide), as_if⟩))))) (xB_n (xB_n (xB_n (xB_l ⟨_, zs_aload_n em101_23, as_aload⟩) (xB_n (xB_l ⟨_, zs_iload_n em101_24, as_iload⟩) (xB_l ⟨_, zs_invV (T := TX11) em101_25 zl_83 rfl wd_939 wd_941 wd_27 ((congrFun xo_0 217).trans rfl) xm_78, ag_invV H zh_83 hd (by decide)⟩))) (xB_n (xB_l ⟨_, zs_ifeq em101_28 (t := 37) (by decide), as_if⟩) (xB_n (xB_l ⟨_, zs_iload_n em101_31, as_iload⟩) (xB_l ⟨_, zs_iconst (v := 1) em101_32 (by decide +kernel), as_const (by decide +kernel)⟩)))) (xB_n (xB_n (xB_l ⟨_, zs_iload_n em101_33, as_iload⟩) (xB_n (xB_l ⟨_, zs_ishl em101_34, as_bin fshl_ok⟩) (xB_l ⟨_, zs_ior em101_35, as_bin fany_ok⟩))) (xB_n (xB_n (xB_l ⟨_, zs_istore_n em101_36, as_istore⟩) (xB_l ⟨_, zs_iinc (k := 1) em101_37 (by decide +kernel), as_iinc (by decide +kernel)⟩)) (xB_n (xB_l ⟨_, zs_goto em101_40 (t := 4) (by decide), as_goto⟩) (xB_l ⟨_, zs_iload_n em101_43, as_iload⟩))))))
set_option maxRecDepth 100000 in
set_option maxHeartbeats 4000000 in
theorem zM_106 : zOKa 106 zc_106 := z_auto (cuts := [(4, ([(0, 0), (0, 408), (0, 5), (0, 7), ((-2147483648), 2147483647), (0, 7)], [], [some (.inr (.inl (0, 0))), some (.inl (4, 0)), some (.inl (5, 0))], [], [(4, 1, 0), (5, 2, 0), (6, 3, 0)], (0, 0)), [(0, 1), (0, 2)], 7, [0, 0, 0, 0, 0, (-1)])]) (rets := [(44, 1)]) (fuel := 1000) rfl rfl (by decide) (xrt_ok (xR_c (Or.inl ⟨rfl, em101_44, rfl⟩) (xR_n))) (fun _ _ H _ hd => zTo_106 H hd) (by decide +kernel)
theorem em102_0 : decode prog_1_method_14_code 0 = .ok (.aload_n 0, 1) := by decide +kernel
theorem em102_1 : decode prog_1_method_14_code 1 = .ok (.getfield 39, 3) := by decide +kernel
theorem em102_4 : decode prog_1_method_14_code 4 = .ok (.getfield 196, 3) := by decide +kernel
theorem em102_7 : decode prog_1_method_14_code 7 = .ok (.iload_n 1, 1) := by decide +kernel
theorem em102_8 : decode prog_1_method_14_code 8 = .ok (.ishr, 1) := by decide +kernel
theorem em102_9 : decode prog_1_method_14_code 9 = .ok (.iconst 1, 1) := by decide +kernel
theorem em102_10 : decode prog_1_method_14_code 10 = .ok (.iand, 1) := by decide +kernel
theorem em102_11 : decode prog_1_method_14_code 11 = .ok (.iconst 1, 1) := by decide +kernel
theorem em102_12 : decode prog_1_method_14_code 12 = .ok (.if_icmp .ne 7, 3) := by decide +kernel
theorem em102_15 : decode prog_1_method_14_code 15 = .ok (.iconst 1, 1) := by decide +kernel
theorem em102_16 : decode prog_1_method_14_code 16 = .ok (.goto 4, 3) := by decide +kernel
theorem em102_19 : decode prog_1_method_14_code 19 = .ok (.iconst 0, 1) := by decide +kernel
theorem em102_20 : decode prog_1_method_14_code 20 = .ok (.istore_n 2, 1) := by decide +kernel
theorem em102_21 : decode prog_1_method_14_code 21 = .ok (.aload_n 0, 1) := by decide +kernel
theorem em102_22 : decode prog_1_method_14_code 22 = .ok (.getfield 39, 3) := by decide +kernel
theorem em102_25 : decode prog_1_method_14_code 25 = .ok (.getfield 199, 3) := by decide +kernel
theorem em102_28 : decode prog_1_method_14_code 28 = .ok (.iload_n 1, 1) := by decide +kernel
theorem em102_29 : decode prog_1_method_14_code 29 = .ok (.ishr, 1) := by decide +kernel
theorem em102_30 : decode prog_1_method_14_code 30 = .ok (.iconst 1, 1) := by decide +kernel
theorem em102_31 : decode prog_1_method_14_code 31 = .ok (.iand, 1) := by decide +kernel
theorem em102_32 : decode prog_1_method_14_code 32 = .ok (.iconst 1, 1) := by decide +kernel
theorem em102_33 : decode prog_1_method_14_code 33 = .ok (.if_icmp .ne 7, 3) := by decide +kernel
theorem em102_36 : decode prog_1_method_14_code 36 = .ok (.iconst 1, 1) := by decide +kernel
theorem em102_37 : decode prog_1_method_14_code 37 = .ok (.goto 4, 3) := by decide +kernel
theorem em102_40 : decode prog_1_method_14_code 40 = .ok (.iconst 0, 1) := by decide +kernel
theorem em102_41 : decode prog_1_method_14_code 41 = .ok (.istore_n 3, 1) := by decide +kernel
theorem em102_42 : decode prog_1_method_14_code 42 = .ok (.iload_n 3, 1) := by decide +kernel
theorem em102_43 : decode prog_1_method_14_code 43 = .ok (.ifCond .eq 13, 3) := by decide +kernel
theorem em102_46 : decode prog_1_method_14_code 46 = .ok (.iload_n 2, 1) := by decide +kernel
theorem em102_47 : decode prog_1_method_14_code 47 = .ok (.ifCond .eq 7, 3) := by decide +kernel
theorem em102_50 : decode prog_1_method_14_code 50 = .ok (.iconst 2, 1) := by decide +kernel
theorem em102_51 : decode prog_1_method_14_code 51 = .ok (.goto 4, 3) := by decide +kernel
theorem em102_54 : decode prog_1_method_14_code 54 = .ok (.iconst 3, 1) := by decide +kernel
theorem em102_55 : decode prog_1_method_14_code 55 = .ok (.ireturn, 1) := by decide +kernel
theorem em102_56 : decode prog_1_method_14_code 56 = .ok (.iload_n 2, 1) := by decide +kernel
theorem em102_57 : decode prog_1_method_14_code 57 = .ok (.ifCond .eq 7, 3) := by decide +kernel
theorem em102_60 : decode prog_1_method_14_code 60 = .ok (.iconst 1, 1) := by decide +kernel
theorem em102_61 : decode prog_1_method_14_code 61 = .ok (.goto 4, 3) := by decide +kernel
theorem em102_64 : decode prog_1_method_14_code 64 = .ok (.iconst 0, 1) := by decide +kernel
theorem em102_65 : decode prog_1_method_14_code 65 = .ok (.ireturn, 1) := by decide +kernel
/-! CapitalCase.standOf:(I)I -/
noncomputable def zTr_107 : Nat → Option aF := bn 31 (bn 15 (bn 8 (bn 4 (bn 1 (bl 0 (a_aload 0 1)) (bl 1 (a_getf zG0 zT0 11 1 4))) (bn 7 (bl 4 (a_getf zG0 zT0 8 5 7)) (bl 7 (a_iload 1 8)))) (bn 10 (bn 9 (bl 8 (a_bin fany 9)) (bl 9 (a_const 1 10))) (bn 11 (bl 10 (a_bin fand 11)) (bn 12 (bl 11 (a_const 1 12)) (bl 12 (a_icmp 1 19 15)))))) (bn 22 (bn 19 (bn 16 (bl 15 (a_const 1 16)) (bl 16 (a_goto 20))) (bn 20 (bl 19 (a_const 0 20)) (bn 21 (bl 20 (a_istore 2 21)) (bl 21 (a_aload 0 22))))) (bn 28 (bn 25 (bl 22 (a_getf zG0 zT0 11 1 25)) (bl 25 (a_getf zG0 zT0 8 6 28))) (bn 29 (bl 28 (a_iload 1 29)) (bn 30 (bl 29 (a_bin fany 30)) (bl 30 (a_const 1 31))))))) (bn 46 (bn 37 (bn 33 (bn 32 (bl 31 (a_bin fand 32)) (bl 32 (a_const 1 33))) (bn 36 (bl 33 (a_icmp 1 40 36)) (bl 36 (a_const 1 37)))) (bn 41 (bn 40 (bl 37 (a_goto 41)) (bl 40 (a_const 0 41))) (bn 42 (bl 41 (a_istore 3 42)) (bn 43 (bl 42 (a_iload 3 43)) (bl 43 (a_if 0 56 46)))))) (bn 56 (bn 50 (bn 47 (bl 46 (a_iload 2 47)) (bl 47 (a_if 0 54 50))) (bn 51 (bl 50 (a_const 2 51)) (bn 54 (bl 51 (a_goto 55)) (bl 54 (a_const 3 55))))) (bn 60 (bn 57 (bl 56 (a_iload 2 57)) (bl 57 (a_if 0 64 60))) (bn 61 (bl 60 (a_const 1 61)) (bn 64 (bl 61 (a_goto 65)) (bl 64 (a_const 0 65)))))))
set_option maxRecDepth 100000 in
set_option maxHeartbeats 4000000 in
theorem zTo_107 {pre : zPre} {post : zPost} (H : zTieC pre post) {d : Nat × Nat × Nat} (hd : zLe (0, 0, 0) d) : aTr zG0 zT0 zInv (false, false) PZ zbd pre post d prog_1_method_14_code "CapitalCase" zTr_107 := (xB_n (xB_n (xB_n (xB_n (xB_n (xB_l ⟨_, zs_aload_n em102_0, as_aload⟩) (xB_l ⟨_, zs_getf (T := TX11) (M := 16) (ci := 11) (j := 1) em102_1 rfl inX11 (by decide) wd_558 ((congrFun xo_0 39).trans rfl), as_getf zTie⟩)) (xB_n (xB_l ⟨_, zs_getf (T := TX8) (M := 10) (ci := 8) (j := 5) em102_4 rfl inX8 (by decide) wd_340 ((congrFun xo_0 196).trans rfl), as_getf zTie⟩) (xB_l ⟨_, zs_iload_n em102_7, as_iload⟩))) (xB_n (xB_n (xB_l ⟨_, zs_ishr em102_8, as_bin fany_ok⟩) (xB_l ⟨_, zs_iconst (v := 1) em102_9 (by decide +kernel), as_const (by decide +kernel)⟩)) (xB_n (xB_l ⟨_, zs_iand em102_10, as_bin fand_ok⟩) (xB_n (xB_l ⟨_, zs_iconst (v := 1) em102_11 (by decide +kernel), as_const (by decide +kernel)⟩) (xB_l ⟨_, zs_icmpne em102_12 (t := 19) (by decide), as_icmp⟩))))) (xB_n (xB_n (xB_n (xB_l ⟨_, zs_iconst (v := 1) em102_15 (by decide +kernel), as_const (by decide +kernel)⟩) (xB_l ⟨_, zs_goto em102_16 (t := 20) (by decide), as_goto⟩)) (xB_n (xB_l ⟨_, zs_iconst (v := 0) em102_19 (by decide +kernel), as_const (by decide +kernel)⟩) (xB_n (xB_l ⟨_, zs_istore_n em102_20, as_istore⟩) (xB_l ⟨_, zs_aload_n em102_21, as_aload⟩)))) (xB_n (xB_n (xB_l ⟨_, zs_getf (T := TX11) (M := 16) (ci := 11) (j := 1) em102_22 rfl inX11 (by decide) wd_558 ((congrFun xo_0 39).trans rfl), as_getf zTie⟩) (xB_l ⟨_, zs_getf (T := TX8) (M := 10) (ci := 8) (j := 6) em102_25 rfl inX8 (by decide) wd_343 ((congrFun xo_0 199).trans rfl), as_getf zTie⟩)) (xB_n (xB_l ⟨_, zs_iload_n em102_28, as_iload⟩) (xB_n (xB_l ⟨_, zs_ishr em102_29, as_bin fany_ok⟩) (xB_l ⟨_, zs_iconst (v := 1) em102_30 (by decide +kernel), as_const (by decide +kernel)⟩)))))) (xB_n (xB_n (xB_n (xB_n (xB_l ⟨_, zs_iand em102_31, as_bin fand_ok⟩) (xB_l ⟨_, zs_iconst (v := 1) em102_32 (by decide +kernel), as_const (by decide +kernel)⟩)) (xB_n (xB_l ⟨_, zs_icmpne em102_33 (t := 40) (by decide), as_icmp⟩) (xB_l ⟨_, zs_iconst (v := 1) em102_36 (by decide +kernel), as_const (by decide +kernel)⟩))) (xB_n (xB_n (xB_l ⟨_, zs_goto em102_37 (t := 41) (by decide), as_goto⟩) (xB_l ⟨_, zs_iconst (v := 0) em102_40 (by decide +kernel), as_const (by decide +kernel)⟩)) (xB_n (xB_l ⟨_, zs_istore_n em102_41, as_istore⟩) (xB_n (xB_l ⟨_, zs_iload_n em102_42, as_iload⟩) (xB_l ⟨_, zs_ifeq em102_43 (t := 56) (by decide), as_if⟩))))) (xB_n (xB_n (xB_n (xB_l ⟨_, zs_iload_n em102_46, as_iload⟩) (xB_l ⟨_, zs_ifeq em102_47 (t := 54) (by decide), as_if⟩)) (xB_n (xB_l ⟨_, zs_iconst (v := 2) em102_50 (by decide +kernel), as_const (by decide +kernel)⟩) (xB_n (xB_l ⟨_, zs_goto em102_51 (t := 55) (by decide), as_goto⟩) (xB_l ⟨_, zs_iconst (v := 3) em102_54 (by decide +kernel), as_const (by decide +kernel)⟩)))) (xB_n (xB_n (xB_l ⟨_, zs_iload_n em102_56, as_iload⟩) (xB_l ⟨_, zs_ifeq em102_57 (t := 64) (by decide), as_if⟩)) (xB_n (xB_l ⟨_, zs_iconst (v := 1) em102_60 (by decide +kernel), as_const (by decide +kernel)⟩) (xB_n (xB_l ⟨_, zs_goto em102_61 (t := 65) (by decide), as_goto⟩) (xB_l ⟨_, zs_iconst (v := 0) em102_64 (by decide +kernel), as_const (by decide +kernel)⟩)))))))
set_option maxRecDepth 100000 in
set_option maxHeartbeats 4000000 in
theorem zM_107 : zOKa 107 zc_107 := z_auto (cuts := []) (rets := [(55, 1), (65, 1)]) (fuel := 1000) rfl rfl (by decide) (xrt_ok (xR_c (Or.inl ⟨rfl, em102_55, rfl⟩) (xR_c (Or.inl ⟨rfl, em102_65, rfl⟩) (xR_n)))) (fun _ _ H _ hd => zTo_107 H hd) (by decide +kernel)
theorem em103_0 : decode prog_1_method_31_code 0 = .ok (.iload_n 1, 1) := by decide +kernel
theorem em103_1 : decode prog_1_method_31_code 1 = .ok (.ifCond .lt 10, 3) := by decide +kernel
theorem em103_4 : decode prog_1_method_31_code 4 = .ok (.iload_n 1, 1) := by decide +kernel
theorem em103_5 : decode prog_1_method_31_code 5 = .ok (.sipush 255, 3) := by decide +kernel
theorem em103_8 : decode prog_1_method_31_code 8 = .ok (.if_icmp .le 5, 3) := by decide +kernel
theorem em103_11 : decode prog_1_method_31_code 11 = .ok (.iconst (-1), 1) := by decide +kernel
theorem em103_12 : decode prog_1_method_31_code 12 = .ok (.ireturn, 1) := by decide +kernel
theorem em103_13 : decode prog_1_method_31_code 13 = .ok (.aload_n 0, 1) := by decide +kernel
theorem em103_14 : decode prog_1_method_31_code 14 = .ok (.getfield 39, 3) := by decide +kernel
theorem em103_17 : decode prog_1_method_31_code 17 = .ok (.aload_n 0, 1) := by decide +kernel
theorem em103_18 : decode prog_1_method_31_code 18 = .ok (.getfield 23, 3) := by decide +kernel
theorem em103_21 : decode prog_1_method_31_code 21 = .ok (.getfield 141, 3) := by decide +kernel
theorem em103_24 : decode prog_1_method_31_code 24 = .ok (.invokevirtual 144, 3) := by decide +kernel
theorem em103_27 : decode prog_1_method_31_code 27 = .ok (.istore_n 2, 1) := by decide +kernel
theorem em103_28 : decode prog_1_method_31_code 28 = .ok (.iconst 0, 1) := by decide +kernel
theorem em103_29 : decode prog_1_method_31_code 29 = .ok (.istore_n 3, 1) := by decide +kernel
theorem em103_30 : decode prog_1_method_31_code 30 = .ok (.iload_n 3, 1) := by decide +kernel
theorem em103_31 : decode prog_1_method_31_code 31 = .ok (.aload_n 0, 1) := by decide +kernel
theorem em103_32 : decode prog_1_method_31_code 32 = .ok (.getfield 23, 3) := by decide +kernel
theorem em103_35 : decode prog_1_method_31_code 35 = .ok (.getfield 141, 3) := by decide +kernel
theorem em103_38 : decode prog_1_method_31_code 38 = .ok (.if_icmp .ge 30, 3) := by decide +kernel
theorem em103_41 : decode prog_1_method_31_code 41 = .ok (.aload_n 0, 1) := by decide +kernel
theorem em103_42 : decode prog_1_method_31_code 42 = .ok (.getfield 23, 3) := by decide +kernel
theorem em103_45 : decode prog_1_method_31_code 45 = .ok (.iload_n 3, 1) := by decide +kernel
theorem em103_46 : decode prog_1_method_31_code 46 = .ok (.invokevirtual 295, 3) := by decide +kernel
theorem em103_49 : decode prog_1_method_31_code 49 = .ok (.iload_n 1, 1) := by decide +kernel
theorem em103_50 : decode prog_1_method_31_code 50 = .ok (.iand, 1) := by decide +kernel
theorem em103_51 : decode prog_1_method_31_code 51 = .ok (.ifCond .eq 11, 3) := by decide +kernel
theorem em103_54 : decode prog_1_method_31_code 54 = .ok (.iload_n 2, 1) := by decide +kernel
theorem em103_55 : decode prog_1_method_31_code 55 = .ok (.iconst 1, 1) := by decide +kernel
theorem em103_56 : decode prog_1_method_31_code 56 = .ok (.iload_n 3, 1) := by decide +kernel
theorem em103_57 : decode prog_1_method_31_code 57 = .ok (.ishl, 1) := by decide +kernel
theorem em103_58 : decode prog_1_method_31_code 58 = .ok (.iconst (-1), 1) := by decide +kernel
theorem em103_59 : decode prog_1_method_31_code 59 = .ok (.ixor, 1) := by decide +kernel
theorem em103_60 : decode prog_1_method_31_code 60 = .ok (.iand, 1) := by decide +kernel
theorem em103_61 : decode prog_1_method_31_code 61 = .ok (.istore_n 2, 1) := by decide +kernel
theorem em103_62 : decode prog_1_method_31_code 62 = .ok (.iinc 3 1, 3) := by decide +kernel
theorem em103_65 : decode prog_1_method_31_code 65 = .ok (.goto (-35), 3) := by decide +kernel
theorem em103_68 : decode prog_1_method_31_code 68 = .ok (.iload_n 2, 1) := by decide +kernel
theorem em103_69 : decode prog_1_method_31_code 69 = .ok (.ireturn, 1) := by decide +kernel
/-! CapitalCase.strike:(I)I -/
noncomputable def zTr_108 : Nat → Option aF := bn 38 (bn 18 (bn 8 (bn 4 (bn 1 (bl 0 (a_iload 1 1)) (bl 1 (a_if 2 11 4))) (bn 5 (bl 4 (a_iload 1 5)) (bl 5 (a_const 255 8)))) (bn 13 (bn 11 (bl 8 (a_icmp 5 13 11)) (bl 11 (a_const (-1) 12))) (bn 14 (bl 13 (a_aload 0 14)) (bn 17 (bl 14 (a_getf zG0 zT0 11 1 17)) (bl 17 (a_aload 0 18)))))) (bn 29 (bn 24 (bn 21 (bl 18 (a_getf zG0 zT0 11 0 21)) (bl 21 (a_getf zG0 zT0 6 1 24))) (bn 27 (bl 24 (a_invV zG0 zprot (false, false) zc_62 (zbd 62) (1, 0, 0) 8 2 27)) (bn 28 (bl 27 (a_istore 2 28)) (bl 28 (a_const 0 29))))) (bn 31 (bn 30 (bl 29 (a_istore 3 30)) (bl 30 (a_iload 3 31))) (bn 32 (bl 31 (a_aload 0 32)) (bn 35 (bl 32 (a_getf zG0 zT0 11 0 35)) (bl 35 (a_getf zG0 zT0 6 1 38))))))) (bn 55 (bn 46 (bn 42 (bn 41 (bl 38 (a_icmp 3 68 41)) (bl 41 (a_aload 0 42))) (bn 45 (bl 42 (a_getf zG0 zT0 11 0 45)) (bl 45 (a_iload 3 46)))) (bn 50 (bn 49 (bl 46 (a_invV zG0 zprot (false, false) zc_50 (zbd 50) (1, 0, 0) 6 2 49)) (bl 49 (a_iload 1 50))) (bn 51 (bl 50 (a_bin fand 51)) (bn 54 (bl 51 (a_if 0 62 54)) (bl 54 (a_iload 2 55)))))) (bn 60 (bn 57 (bn 56 (bl 55 (a_const 1 56)) (bl 56 (a_iload 3 57))) (bn 58 (bl 57 (a_bin fshl 58)) (bn 59 (bl 58 (a_const (-1) 59)) (bl 59 (a_bin fany 60))))) (bn 62 (bn 61 (bl 60 (a_bin fand 61)) (bl 61 (a_istore 2 62))) (bn 65 (bl 62 (a_iinc 3 1 65)) (bn 68 (bl 65 (a_goto 30)) (bl 68 (a_iload 2 69)))))))
set_option maxRecDepth 100000 in
set_option maxHeartbeats 4000000 in
theorem zTo_108 {pre : zPre} {post : zPost} (H : zTieC pre post) {d : Nat × Nat × Nat} (hd : zLe (1, 0, 0) d) : aTr zG0 zT0 zInv (false, false) PZ zbd pre post d prog_1_method_31_code "CapitalCase" zTr_108 := (xB_n (xB_n (xB_n (xB_n (xB_n (xB_l ⟨_, zs_iload_n em103_0, as_iload⟩) (xB_l ⟨_, zs_iflt em103_1 (t := 11) (by decide), as_if⟩)) (xB_n (xB_l ⟨_, zs_iload_n em103_4, as_iload⟩) (xB_l ⟨_, zs_sipush (v := 255) em103_5 (by decide +kernel), as_const (by decide +kernel)⟩))) (xB_n (xB_n (xB_l ⟨_, zs_icmple em103_8 (t := 13) (by decide), as_icmp⟩) (xB_l ⟨_, zs_iconst (v := (-1)) em103_11 (by decide +kernel), as_const (by decide +kernel)⟩)) (xB_n (xB_l ⟨_, zs_aload_n em103_13, as_aload⟩) (xB_n (xB_l ⟨_, zs_getf (T := TX11) (M := 16) (ci := 11) (j := 1) em103_14 rfl inX11 (by decide) wd_558 ((congrFun xo_0 39).trans rfl), as_getf zTie⟩) (xB_l ⟨_, zs_aload_n em103_17, as_aload⟩))))) (xB_n (xB_n (xB_n (xB_l ⟨_, zs_getf (T := TX11) (M := 16) (ci := 11) (j := 0) em103_18 rfl inX11 (by decide) wd_556 ((congrFun xo_0 23).trans rfl), as_getf zTie⟩) (xB_l ⟨_, zs_getf (T := TX6) (M := 15) (ci := 6) (j := 1) em103_21 rfl inX6 (by decide) wd_174 ((congrFun xo_0 141).trans rfl), as_getf zTie⟩)) (xB_n (xB_l ⟨_, zs_invV (T := TX8) em103_24 zl_62 rfl wd_935 wd_936 wd_937 ((congrFun xo_0 144).trans rfl) xm_58, ag_invV H zh_62 hd (by decide)⟩) (xB_n (xB_l ⟨_, zs_istore_n em103_27, as_istore⟩) (xB_l ⟨_, zs_iconst (v := 0) em103_28 (by decide +kernel), as_const (by decide +kernel)⟩)))) (xB_n (xB_n (xB_l ⟨_, zs_istore_n em103_29, as_istore⟩) (xB_l ⟨_, zs_iload_n em103_30, as_iload⟩)) (xB_n (xB_l ⟨_, zs_aload_n em103_31, as_aload⟩) (xB_n (xB_l ⟨_, zs_getf (T := TX11) (M := 16) (ci := 11) (j := 0) em103_32 rfl inX11 (by decide) wd_556 ((congrFun xo_0 23).trans rfl), as_getf zTie⟩) (xB_l ⟨_, zs_getf (T := TX6) (M := 15) (ci := 6) (j := 1) em103_35 rfl inX6 (by decide) wd_174 ((congrFun xo_0 141).trans rfl), as_getf zTie⟩)))))) (xB_n (xB_n (xB_n (xB_n (xB_l ⟨_, zs_icmpge em103_38 (t := 68) (by decide), as_icmp⟩) (xB_l ⟨_, zs_aload_n em103_41, as_aload⟩)) (xB_n (xB_l ⟨_, zs_getf (T := TX11) (M := 16) (ci := 11) (j := 0) em103_42 rfl inX11 (by decide) wd_556 ((congrFun xo_0 23).trans rfl), as_getf zTie⟩) (xB_l ⟨_, zs_iload_n em103_45, as_iload⟩))) (xB_n (xB_n (xB_l ⟨_, zs_invV (T := TX6) em103_46 zl_50 rfl wd_1165 wd_1166 wd_1167 ((congrFun xo_0 295).trans rfl) xm_46, ag_invV H zh_50 hd (by decide)⟩) (xB_l ⟨_, zs_iload_n em103_49, as_iload⟩)) (xB_n (xB_l ⟨_, zs_iand em103_50, as_bin fand_ok⟩) (xB_n (xB_l ⟨_, zs_ifeq em103_51 (t := 62) (by decide), as_if⟩) (xB_l ⟨_, zs_iload_n em103_54, as_iload⟩))))) (xB_n (xB_n (xB_n (xB_l ⟨_, zs_iconst (v := 1) em103_55 (by decide +kernel), as_const (by decide +kernel)⟩) (xB_l ⟨_, zs_iload_n em103_56, as_iload⟩)) (xB_n (xB_l ⟨_, zs_ishl em103_57, as_bin fshl_ok⟩) (xB_n (xB_l ⟨_, zs_iconst (v := (-1)) em103_58 (by decide +kernel), as_const (by decide +kernel)⟩) (xB_l ⟨_, zs_ixor em103_59, as_bin fany_ok⟩)))) (xB_n (xB_n (xB_l ⟨_, zs_iand em103_60, as_bin fand_ok⟩) (xB_l ⟨_, zs_istore_n em103_61, as_istore⟩)) (xB_n (xB_l ⟨_, zs_iinc (k := 1) em103_62 (by decide +kernel), as_iinc (by decide +kernel)⟩) (xB_n (xB_l ⟨_, zs_goto em103_65 (t := 30) (by decide), as_goto⟩) (xB_l ⟨_, zs_iload_n em103_68, as_iload⟩)))))))
set_option maxRecDepth 100000 in
set_option maxHeartbeats 4000000 in
theorem zM_108 : zOKa 108 zc_108 := z_auto (cuts := [(30, ([(0, 0), (0, 255), (0, 7), (0, 127), (0, 7)], [], [some (.inr (.inl (0, 0))), some (.inl (1, 0)), some (.inl (3, 0)), some (.inl (4, 0))], [], [(6, 2, 0)], (0, 0)), [(0, 2), (0, 3)], 7, [0, 0, 0, 0, (-1)])]) (rets := [(12, 1), (69, 1)]) (fuel := 1000) rfl rfl (by decide) (xrt_ok (xR_c (Or.inl ⟨rfl, em103_12, rfl⟩) (xR_c (Or.inl ⟨rfl, em103_69, rfl⟩) (xR_n)))) (fun _ _ H _ hd => zTo_108 H hd) (by decide +kernel)
theorem em104_0 : decode prog_1_method_45_code 0 = .ok (.iconst 0, 1) := by decide +kernel
theorem em104_1 : decode prog_1_method_45_code 1 = .ok (.istore_n 1, 1) := by decide +kernel
theorem em104_2 : decode prog_1_method_45_code 2 = .ok (.aload_n 0, 1) := by decide +kernel
theorem em104_3 : decode prog_1_method_45_code 3 = .ok (.astore_n 2, 1) := by decide +kernel
theorem em104_4 : decode prog_1_method_45_code 4 = .ok (.aload_n 2, 1) := by decide +kernel
theorem em104_5 : decode prog_1_method_45_code 5 = .ok (.arraylength, 1) := by decide +kernel
theorem em104_6 : decode prog_1_method_45_code 6 = .ok (.istore_n 3, 1) := by decide +kernel
theorem em104_7 : decode prog_1_method_45_code 7 = .ok (.iconst 0, 1) := by decide +kernel
theorem em104_8 : decode prog_1_method_45_code 8 = .ok (.istore 4, 2) := by decide +kernel
theorem em104_10 : decode prog_1_method_45_code 10 = .ok (.iload 4, 2) := by decide +kernel
theorem em104_12 : decode prog_1_method_45_code 12 = .ok (.iload_n 3, 1) := by decide +kernel
theorem em104_13 : decode prog_1_method_45_code 13 = .ok (.if_icmp .ge 20, 3) := by decide +kernel
theorem em104_16 : decode prog_1_method_45_code 16 = .ok (.aload_n 2, 1) := by decide +kernel
theorem em104_17 : decode prog_1_method_45_code 17 = .ok (.iload 4, 2) := by decide +kernel
theorem em104_19 : decode prog_1_method_45_code 19 = .ok (.iaload, 1) := by decide +kernel
theorem em104_20 : decode prog_1_method_45_code 20 = .ok (.istore 5, 2) := by decide +kernel
theorem em104_22 : decode prog_1_method_45_code 22 = .ok (.iload_n 1, 1) := by decide +kernel
theorem em104_23 : decode prog_1_method_45_code 23 = .ok (.iload 5, 2) := by decide +kernel
theorem em104_25 : decode prog_1_method_45_code 25 = .ok (.iadd, 1) := by decide +kernel
theorem em104_26 : decode prog_1_method_45_code 26 = .ok (.istore_n 1, 1) := by decide +kernel
theorem em104_27 : decode prog_1_method_45_code 27 = .ok (.iinc 4 1, 3) := by decide +kernel
theorem em104_30 : decode prog_1_method_45_code 30 = .ok (.goto (-20), 3) := by decide +kernel
theorem em104_33 : decode prog_1_method_45_code 33 = .ok (.iload_n 1, 1) := by decide +kernel
theorem em104_34 : decode prog_1_method_45_code 34 = .ok (.ireturn, 1) := by decide +kernel
/-! CapitalCase.sum:([I)I -/
noncomputable def zTr_109 : Nat → Option aF := bn 13 (bn 5 (bn 2 (bn 1 (bl 0 (a_const 0 1)) (bl 1 (a_istore 1 2))) (bn 3 (bl 2 (a_aload 0 3)) (bn 4 (bl 3 (a_astore 2 4)) (bl 4 (a_aload 2 5))))) (bn 8 (bn 6 (bl 5 (a_alen zG0 6)) (bn 7 (bl 6 (a_istore 3 7)) (bl 7 (a_const 0 8)))) (bn 10 (bl 8 (a_istore 4 10)) (bn 12 (bl 10 (a_iload 4 12)) (bl 12 (a_iload 3 13)))))) (bn 23 (bn 19 (bn 16 (bl 13 (a_icmp 3 33 16)) (bn 17 (bl 16 (a_aload 2 17)) (bl 17 (a_iload 4 19)))) (bn 20 (bl 19 (a_ald zG0 zT0 (false, false) ts0 20)) (bn 22 (bl 20 (a_istore 5 22)) (bl 22 (a_iload 1 23))))) (bn 27 (bn 25 (bl 23 (a_iload 5 25)) (bn 26 (bl 25 (a_bin fadd 26)) (bl 26 (a_istore 1 27)))) (bn 30 (bl 27 (a_iinc 4 1 30)) (bn 33 (bl 30 (a_goto 10)) (bl 33 (a_iload 1 34))))))
set_option maxRecDepth 100000 in
set_option maxHeartbeats 4000000 in
theorem zTo_109 {pre : zPre} {post : zPost} (H : zTieC pre post) {d : Nat × Nat × Nat} (hd : zLe (0, 0, 0) d) : aTr zG0 zT0 zInv (false, false) PZ zbd pre post d prog_1_method_45_code "CapitalCase" zTr_109 := (xB_n (xB_n (xB_n (xB_n (xB_l ⟨_, zs_iconst (v := 0) em104_0 (by decide +kernel), as_const (by decide +kernel)⟩) (xB_l ⟨_, zs_istore_n em104_1, as_istore⟩)) (xB_n (xB_l ⟨_, zs_aload_n em104_2, as_aload⟩) (xB_n (xB_l ⟨_, zs_astore_n em104_3, as_astore⟩) (xB_l ⟨_, zs_aload_n em104_4, as_aload⟩)))) (xB_n (xB_n (xB_l ⟨_, zs_alen em104_5, as_alen⟩) (xB_n (xB_l ⟨_, zs_istore_n em104_6, as_istore⟩) (xB_l ⟨_, zs_iconst (v := 0) em104_7 (by decide +kernel), as_const (by decide +kernel)⟩))) (xB_n (xB_l ⟨_, zs_istore em104_8, as_istore⟩) (xB_n (xB_l ⟨_, zs_iload em104_10, as_iload⟩) (xB_l ⟨_, zs_iload_n em104_12, as_iload⟩))))) (xB_n (xB_n (xB_n (xB_l ⟨_, zs_icmpge em104_13 (t := 33) (by decide), as_icmp⟩) (xB_n (xB_l ⟨_, zs_aload_n em104_16, as_aload⟩) (xB_l ⟨_, zs_iload em104_17, as_iload⟩))) (xB_n (xB_l ⟨_, zs_iald em104_19, ag_iald⟩) (xB_n (xB_l ⟨_, zs_istore em104_20, as_istore⟩) (xB_l ⟨_, zs_iload_n em104_22, as_iload⟩)))) (xB_n (xB_n (xB_l ⟨_, zs_iload em104_23, as_iload⟩) (xB_n (xB_l ⟨_, zs_iadd em104_25, as_bin fadd_ok⟩) (xB_l ⟨_, zs_istore_n em104_26, as_istore⟩))) (xB_n (xB_l ⟨_, zs_iinc (k := 1) em104_27 (by decide +kernel), as_iinc (by decide +kernel)⟩) (xB_n (xB_l ⟨_, zs_goto em104_30 (t := 10) (by decide), as_goto⟩) (xB_l ⟨_, zs_iload_n em104_33, as_iload⟩))))))
set_option maxRecDepth 100000 in
set_option maxHeartbeats 4000000 in
theorem zM_109 : zOKa 109 zc_109 := z_auto (cuts := [(10, ([(0, 0), ((-2147483648), 2147483647), (0, 40)], [], [some (.inr (.inl (1, 1001))), some (.inl (1, 0)), some (.inr (.inl (1, 1001))), some (.inl (0, 40)), some (.inl (2, 0)), none], [], [], (0, 0)), [(0, 1), (0, 4)], 40, [0, 0, (-1)])]) (rets := [(34, 1)]) (fuel := 1000) rfl rfl (by decide) (xrt_ok (xR_c (Or.inl ⟨rfl, em104_34, rfl⟩) (xR_n))) (fun _ _ H _ hd => zTo_109 H hd) (by decide +kernel)
/-! CapitalCase.sum:([I)I -/
noncomputable def zTr_110 : Nat → Option aF := bn 13 (bn 5 (bn 2 (bn 1 (bl 0 (a_const 0 1)) (bl 1 (a_istore 1 2))) (bn 3 (bl 2 (a_aload 0 3)) (bn 4 (bl 3 (a_astore 2 4)) (bl 4 (a_aload 2 5))))) (bn 8 (bn 6 (bl 5 (a_alen zG0 6)) (bn 7 (bl 6 (a_istore 3 7)) (bl 7 (a_const 0 8)))) (bn 10 (bl 8 (a_istore 4 10)) (bn 12 (bl 10 (a_iload 4 12)) (bl 12 (a_iload 3 13)))))) (bn 23 (bn 19 (bn 16 (bl 13 (a_icmp 3 33 16)) (bn 17 (bl 16 (a_aload 2 17)) (bl 17 (a_iload 4 19)))) (bn 20 (bl 19 (a_ald zG0 zT0 (false, false) ts0 20)) (bn 22 (bl 20 (a_istore 5 22)) (bl 22 (a_iload 1 23))))) (bn 27 (bn 25 (bl 23 (a_iload 5 25)) (bn 26 (bl 25 (a_bin fadd 26)) (bl 26 (a_istore 1 27)))) (bn 30 (bl 27 (a_iinc 4 1 30)) (bn 33 (bl 30 (a_goto 10)) (bl 33 (a_iload 1 34))))))
set_option maxRecDepth 100000 in
set_option maxHeartbeats 4000000 in
theorem zTo_110 {pre : zPre} {post : zPost} (H : zTieC pre post) {d : Nat × Nat × Nat} (hd : zLe (0, 0, 0) d) : aTr zG0 zT0 zInv (false, false) PZ zbd pre post d prog_1_method_45_code "CapitalCase" zTr_110 := (xB_n (xB_n (xB_n (xB_n (xB_l ⟨_, zs_iconst (v := 0) em104_0 (by decide +kernel), as_const (by decide +kernel)⟩) (xB_l ⟨_, zs_istore_n em104_1, as_istore⟩)) (xB_n (xB_l ⟨_, zs_aload_n em104_2, as_aload⟩) (xB_n (xB_l ⟨_, zs_astore_n em104_3, as_astore⟩) (xB_l ⟨_, zs_aload_n em104_4, as_aload⟩)))) (xB_n (xB_n (xB_l ⟨_, zs_alen em104_5, as_alen⟩) (xB_n (xB_l ⟨_, zs_istore_n em104_6, as_istore⟩) (xB_l ⟨_, zs_iconst (v := 0) em104_7 (by decide +kernel), as_const (by decide +kernel)⟩))) (xB_n (xB_l ⟨_, zs_istore em104_8, as_istore⟩) (xB_n (xB_l ⟨_, zs_iload em104_10, as_iload⟩) (xB_l ⟨_, zs_iload_n em104_12, as_iload⟩))))) (xB_n (xB_n (xB_n (xB_l ⟨_, zs_icmpge em104_13 (t := 33) (by decide), as_icmp⟩) (xB_n (xB_l ⟨_, zs_aload_n em104_16, as_aload⟩) (xB_l ⟨_, zs_iload em104_17, as_iload⟩))) (xB_n (xB_l ⟨_, zs_iald em104_19, ag_iald⟩) (xB_n (xB_l ⟨_, zs_istore em104_20, as_istore⟩) (xB_l ⟨_, zs_iload_n em104_22, as_iload⟩)))) (xB_n (xB_n (xB_l ⟨_, zs_iload em104_23, as_iload⟩) (xB_n (xB_l ⟨_, zs_iadd em104_25, as_bin fadd_ok⟩) (xB_l ⟨_, zs_istore_n em104_26, as_istore⟩))) (xB_n (xB_l ⟨_, zs_iinc (k := 1) em104_27 (by decide +kernel), as_iinc (by decide +kernel)⟩) (xB_n (xB_l ⟨_, zs_goto em104_30 (t := 10) (by decide), as_goto⟩) (xB_l ⟨_, zs_iload_n em104_33, as_iload⟩))))))
set_option maxRecDepth 100000 in
set_option maxHeartbeats 4000000 in
theorem zM_110 : zOKa 110 zc_110 := z_auto (cuts := [(10, ([(0, 0), ((-2147483648), 2147483647), (0, 40)], [], [some (.inr (.inl (1, 1002))), some (.inl (1, 0)), some (.inr (.inl (1, 1002))), some (.inl (0, 40)), some (.inl (2, 0)), none], [], [], (0, 0)), [(0, 1), (0, 4)], 40, [0, 0, (-1)])]) (rets := [(34, 1)]) (fuel := 1000) rfl rfl (by decide) (xrt_ok (xR_c (Or.inl ⟨rfl, em104_34, rfl⟩) (xR_n))) (fun _ _ H _ hd => zTo_110 H hd) (by decide +kernel)
/-! CapitalCase.sum:([I)I -/
noncomputable def zTr_111 : Nat → Option aF := bn 13 (bn 5 (bn 2 (bn 1 (bl 0 (a_const 0 1)) (bl 1 (a_istore 1 2))) (bn 3 (bl 2 (a_aload 0 3)) (bn 4 (bl 3 (a_astore 2 4)) (bl 4 (a_aload 2 5))))) (bn 8 (bn 6 (bl 5 (a_alen zG0 6)) (bn 7 (bl 6 (a_istore 3 7)) (bl 7 (a_const 0 8)))) (bn 10 (bl 8 (a_istore 4 10)) (bn 12 (bl 10 (a_iload 4 12)) (bl 12 (a_iload 3 13)))))) (bn 23 (bn 19 (bn 16 (bl 13 (a_icmp 3 33 16)) (bn 17 (bl 16 (a_aload 2 17)) (bl 17 (a_iload 4 19)))) (bn 20 (bl 19 (a_ald zG0 zT0 (false, false) ts0 20)) (bn 22 (bl 20 (a_istore 5 22)) (bl 22 (a_iload 1 23))))) (bn 27 (bn 25 (bl 23 (a_iload 5 25)) (bn 26 (bl 25 (a_bin fadd 26)) (bl 26 (a_istore 1 27)))) (bn 30 (bl 27 (a_iinc 4 1 30)) (bn 33 (bl 30 (a_goto 10)) (bl 33 (a_iload 1 34))))))
set_option maxRecDepth 100000 in
set_option maxHeartbeats 4000000 in
theorem zTo_111 {pre : zPre} {post : zPost} (H : zTieC pre post) {d : Nat × Nat × Nat} (hd : zLe (0, 0, 0) d) : aTr zG0 zT0 zInv (false, false) PZ zbd pre post d prog_1_method_45_code "CapitalCase" zTr_111 := (xB_n (xB_n (xB_n (xB_n (xB_l ⟨_, zs_iconst (v := 0) em104_0 (by decide +kernel), as_const (by decide +kernel)⟩) (xB_l ⟨_, zs_istore_n em104_1, as_istore⟩)) (xB_n (xB_l ⟨_, zs_aload_n em104_2, as_aload⟩) (xB_n (xB_l ⟨_, zs_astore_n em104_3, as_astore⟩) (xB_l ⟨_, zs_aload_n em104_4, as_aload⟩)))) (xB_n (xB_n (xB_l ⟨_, zs_alen em104_5, as_alen⟩) (xB_n (xB_l ⟨_, zs_istore_n em104_6, as_istore⟩) (xB_l ⟨_, zs_iconst (v := 0) em104_7 (by decide +kernel), as_const (by decide +kernel)⟩))) (xB_n (xB_l ⟨_, zs_istore em104_8, as_istore⟩) (xB_n (xB_l ⟨_, zs_iload em104_10, as_iload⟩) (xB_l ⟨_, zs_iload_n em104_12, as_iload⟩))))) (xB_n (xB_n (xB_n (xB_l ⟨_, zs_icmpge em104_13 (t := 33) (by decide), as_icmp⟩) (xB_n (xB_l ⟨_, zs_aload_n em104_16, as_aload⟩) (xB_l ⟨_, zs_iload em104_17, as_iload⟩))) (xB_n (xB_l ⟨_, zs_iald em104_19, ag_iald⟩) (xB_n (xB_l ⟨_, zs_istore em104_20, as_istore⟩) (xB_l ⟨_, zs_iload_n em104_22, as_iload⟩)))) (xB_n (xB_n (xB_l ⟨_, zs_iload em104_23, as_iload⟩) (xB_n (xB_l ⟨_, zs_iadd em104_25, as_bin fadd_ok⟩) (xB_l ⟨_, zs_istore_n em104_26, as_istore⟩))) (xB_n (xB_l ⟨_, zs_iinc (k := 1) em104_27 (by decide +kernel), as_iinc (by decide +kernel)⟩) (xB_n (xB_l ⟨_, zs_goto em104_30 (t := 10) (by decide), as_goto⟩) (xB_l ⟨_, zs_iload_n em104_33, as_iload⟩))))))
set_option maxRecDepth 100000 in
set_option maxHeartbeats 4000000 in
theorem zM_111 : zOKa 111 zc_111 := z_auto (cuts := [(10, ([(0, 0), ((-2147483648), 2147483647), (0, 200)], [], [some (.inr (.inl (1, 1004))), some (.inl (1, 0)), some (.inr (.inl (1, 1004))), some (.inl (0, 200)), some (.inl (2, 0)), none], [], [], (0, 0)), [(0, 1), (0, 4)], 200, [0, 0, (-1)])]) (rets := [(34, 1)]) (fuel := 1000) rfl rfl (by decide) (xrt_ok (xR_c (Or.inl ⟨rfl, em104_34, rfl⟩) (xR_n))) (fun _ _ H _ hd => zTo_111 H hd) (by decide +kernel)
theorem em105_0 : decode prog_1_method_38_code 0 = .ok (.iload_n 1, 1) := by decide +kernel
theorem em105_1 : decode prog_1_method_38_code 1 = .ok (.ifCond .lt 20, 3) := by decide +kernel
theorem em105_4 : decode prog_1_method_38_code 4 = .ok (.iload_n 1, 1) := by decide +kernel
theorem em105_5 : decode prog_1_method_38_code 5 = .ok (.bipush 8, 2) := by decide +kernel
theorem em105_7 : decode prog_1_method_38_code 7 = .ok (.if_icmp .ge 14, 3) := by decide +kernel
theorem em105_10 : decode prog_1_method_38_code 10 = .ok (.iload_n 2, 1) := by decide +kernel
theorem em105_11 : decode prog_1_method_38_code 11 = .ok (.ifCond .lt 10, 3) := by decide +kernel
theorem em105_14 : decode prog_1_method_38_code 14 = .ok (.iload_n 2, 1) := by decide +kernel
theorem em105_15 : decode prog_1_method_38_code 15 = .ok (.sipush 999, 3) := by decide +kernel
theorem em105_18 : decode prog_1_method_38_code 18 = .ok (.if_icmp .le 5, 3) := by decide +kernel
theorem em105_21 : decode prog_1_method_38_code 21 = .ok (.iconst (-1), 1) := by decide +kernel
theorem em105_22 : decode prog_1_method_38_code 22 = .ok (.ireturn, 1) := by decide +kernel
theorem em105_23 : decode prog_1_method_38_code 23 = .ok (.aload_n 0, 1) := by decide +kernel
theorem em105_24 : decode prog_1_method_38_code 24 = .ok (.getfield 64, 3) := by decide +kernel
theorem em105_27 : decode prog_1_method_38_code 27 = .ok (.iload_n 1, 1) := by decide +kernel
theorem em105_28 : decode prog_1_method_38_code 28 = .ok (.iload_n 2, 1) := by decide +kernel
theorem em105_29 : decode prog_1_method_38_code 29 = .ok (.iload_n 3, 1) := by decide +kernel
theorem em105_30 : decode prog_1_method_38_code 30 = .ok (.invokevirtual 307, 3) := by decide +kernel
theorem em105_33 : decode prog_1_method_38_code 33 = .ok (.ireturn, 1) := by decide +kernel
/-! CapitalCase.tell:(IIZ)I -/
noncomputable def zTr_112 : Nat → Option aF := bn 15 (bn 7 (bn 4 (bn 1 (bl 0 (a_iload 1 1)) (bl 1 (a_if 2 21 4))) (bn 5 (bl 4 (a_iload 1 5)) (bl 5 (a_const 8 7)))) (bn 11 (bn 10 (bl 7 (a_icmp 3 21 10)) (bl 10 (a_iload 2 11))) (bn 14 (bl 11 (a_if 2 21 14)) (bl 14 (a_iload 2 15))))) (bn 24 (bn 21 (bn 18 (bl 15 (a_const 999 18)) (bl 18 (a_icmp 5 23 21))) (bn 23 (bl 21 (a_const (-1) 22)) (bl 23 (a_aload 0 24)))) (bn 28 (bn 27 (bl 24 (a_getf zG0 zT0 11 13 27)) (bl 27 (a_iload 1 28))) (bn 29 (bl 28 (a_iload 2 29)) (bn 30 (bl 29 (a_iload 3 30)) (bl 30 (a_invV zG0 zprot (false, false) zc_43 (zbd 43) (1, 0, 0) 5 4 33))))))
set_option maxRecDepth 100000 in
set_option maxHeartbeats 4000000 in
theorem zTo_112 {pre : zPre} {post : zPost} (H : zTieC pre post) {d : Nat × Nat × Nat} (hd : zLe (1, 0, 0) d) : aTr zG0 zT0 zInv (false, false) PZ zbd pre post d prog_1_method_38_code "CapitalCase" zTr_112 := (xB_n (xB_n (xB_n (xB_n (xB_l ⟨_, zs_iload_n em105_0, as_iload⟩) (xB_l ⟨_, zs_iflt em105_1 (t := 21) (by decide), as_if⟩)) (xB_n (xB_l ⟨_, zs_iload_n em105_4, as_iload⟩) (xB_l ⟨_, zs_bipush (v := 8) em105_5 (by decide +kernel), as_const (by decide +kernel)⟩))) (xB_n (xB_n (xB_l ⟨_, zs_icmpge em105_7 (t := 21) (by decide), as_icmp⟩) (xB_l ⟨_, zs_iload_n em105_10, as_iload⟩)) (xB_n (xB_l ⟨_, zs_iflt em105_11 (t := 21) (by decide), as_if⟩) (xB_l ⟨_, zs_iload_n em105_14, as_iload⟩)))) (xB_n (xB_n (xB_n (xB_l ⟨_, zs_sipush (v := 999) em105_15 (by decide +kernel), as_const (by decide +kernel)⟩) (xB_l ⟨_, zs_icmple em105_18 (t := 23) (by decide), as_icmp⟩)) (xB_n (xB_l ⟨_, zs_iconst (v := (-1)) em105_21 (by decide +kernel), as_const (by decide +kernel)⟩) (xB_l ⟨_, zs_aload_n em105_23, as_aload⟩))) (xB_n (xB_n (xB_l ⟨_, zs_getf (T := TX11) (M := 16) (ci := 11) (j := 13) em105_24 rfl inX11 (by decide) wd_563 ((congrFun xo_0 64).trans rfl), as_getf zTie⟩) (xB_l ⟨_, zs_iload_n em105_27, as_iload⟩)) (xB_n (xB_l ⟨_, zs_iload_n em105_28, as_iload⟩) (xB_n (xB_l ⟨_, zs_iload_n em105_29, as_iload⟩) (xB_l ⟨_, zs_invV (T := TX5) em105_30 zl_43 rfl wd_1201 wd_1202 wd_1203 ((congrFun xo_0 307).trans rfl) xm_42, ag_invV H zh_43 hd (by decide)⟩))))))
set_option maxRecDepth 100000 in
set_option maxHeartbeats 4000000 in
theorem zM_112 : zOKa 112 zc_112 := z_auto (cuts := []) (rets := [(22, 1), (33, 1)]) (fuel := 1000) rfl rfl (by decide) (xrt_ok (xR_c (Or.inl ⟨rfl, em105_22, rfl⟩) (xR_c (Or.inl ⟨rfl, em105_33, rfl⟩) (xR_n)))) (fun _ _ H _ hd => zTo_112 H hd) (by decide +kernel)
theorem em106_0 : decode prog_1_method_16_code 0 = .ok (.aload_n 0, 1) := by decide +kernel
theorem em106_1 : decode prog_1_method_16_code 1 = .ok (.iload_n 1, 1) := by decide +kernel
theorem em106_2 : decode prog_1_method_16_code 2 = .ok (.iload_n 2, 1) := by decide +kernel
theorem em106_3 : decode prog_1_method_16_code 3 = .ok (.invokevirtual 147, 3) := by decide +kernel
theorem em106_6 : decode prog_1_method_16_code 6 = .ok (.ifCond .eq 11, 3) := by decide +kernel
theorem em106_9 : decode prog_1_method_16_code 9 = .ok (.aload_n 0, 1) := by decide +kernel
theorem em106_10 : decode prog_1_method_16_code 10 = .ok (.iload_n 3, 1) := by decide +kernel
theorem em106_11 : decode prog_1_method_16_code 11 = .ok (.invokevirtual 175, 3) := by decide +kernel
theorem em106_14 : decode prog_1_method_16_code 14 = .ok (.ifCond .ne 6, 3) := by decide +kernel
theorem em106_17 : decode prog_1_method_16_code 17 = .ok (.ldc 205, 2) := by decide +kernel
theorem em106_19 : decode prog_1_method_16_code 19 = .ok (.ireturn, 1) := by decide +kernel
theorem em106_20 : decode prog_1_method_16_code 20 = .ok (.iload 4, 2) := by decide +kernel
theorem em106_22 : decode prog_1_method_16_code 22 = .ok (.lookupswitch 64 #[(0, 26), (1, 49)], 26) := by decide +kernel
theorem em106_48 : decode prog_1_method_16_code 48 = .ok (.aload_n 0, 1) := by decide +kernel
theorem em106_49 : decode prog_1_method_16_code 49 = .ok (.getfield 73, 3) := by decide +kernel
theorem em106_52 : decode prog_1_method_16_code 52 = .ok (.aload_n 0, 1) := by decide +kernel
theorem em106_53 : decode prog_1_method_16_code 53 = .ok (.getfield 39, 3) := by decide +kernel
theorem em106_56 : decode prog_1_method_16_code 56 = .ok (.iload_n 1, 1) := by decide +kernel
theorem em106_57 : decode prog_1_method_16_code 57 = .ok (.iload_n 2, 1) := by decide +kernel
theorem em106_58 : decode prog_1_method_16_code 58 = .ok (.iload_n 3, 1) := by decide +kernel
theorem em106_59 : decode prog_1_method_16_code 59 = .ok (.invokevirtual 206, 3) := by decide +kernel
theorem em106_62 : decode prog_1_method_16_code 62 = .ok (.ifCond .eq 7, 3) := by decide +kernel
theorem em106_65 : decode prog_1_method_16_code 65 = .ok (.iconst 1, 1) := by decide +kernel
theorem em106_66 : decode prog_1_method_16_code 66 = .ok (.goto 4, 3) := by decide +kernel
theorem em106_69 : decode prog_1_method_16_code 69 = .ok (.iconst 0, 1) := by decide +kernel
theorem em106_70 : decode prog_1_method_16_code 70 = .ok (.ireturn, 1) := by decide +kernel
theorem em106_71 : decode prog_1_method_16_code 71 = .ok (.aload_n 0, 1) := by decide +kernel
theorem em106_72 : decode prog_1_method_16_code 72 = .ok (.getfield 73, 3) := by decide +kernel
theorem em106_75 : decode prog_1_method_16_code 75 = .ok (.aload_n 0, 1) := by decide +kernel
theorem em106_76 : decode prog_1_method_16_code 76 = .ok (.getfield 39, 3) := by decide +kernel
theorem em106_79 : decode prog_1_method_16_code 79 = .ok (.iload_n 1, 1) := by decide +kernel
theorem em106_80 : decode prog_1_method_16_code 80 = .ok (.iload_n 2, 1) := by decide +kernel
theorem em106_81 : decode prog_1_method_16_code 81 = .ok (.iload_n 3, 1) := by decide +kernel
theorem em106_82 : decode prog_1_method_16_code 82 = .ok (.invokevirtual 210, 3) := by decide +kernel
theorem em106_85 : decode prog_1_method_16_code 85 = .ok (.ireturn, 1) := by decide +kernel
theorem em106_86 : decode prog_1_method_16_code 86 = .ok (.ldc 205, 2) := by decide +kernel
theorem em106_88 : decode prog_1_method_16_code 88 = .ok (.ireturn, 1) := by decide +kernel
/-! CapitalCase.tells:(IIII)I -/
noncomputable def zTr_113 : Nat → Option aF := bn 56 (bn 14 (bn 6 (bn 2 (bn 1 (bl 0 (a_aload 0 1)) (bl 1 (a_iload 1 2))) (bn 3 (bl 2 (a_iload 2 3)) (bl 3 (a_invV zG0 zprot (true, false) zc_93 (zbd 93) (7, 0, 0) 11 3 6)))) (bn 10 (bn 9 (bl 6 (a_if 0 17 9)) (bl 9 (a_aload 0 10))) (bn 11 (bl 10 (a_iload 3 11)) (bl 11 (a_invV zG0 zprot (true, false) zc_96 (zbd 96) (7, 0, 0) 11 2 14))))) (bn 48 (bn 20 (bn 17 (bl 14 (a_if 1 20 17)) (bl 17 (a_const (-1000000000) 19))) (bn 22 (bl 20 (a_iload 4 22)) (bl 22 (a_lsw [(0, 48), (1, 71)] 86)))) (bn 52 (bn 49 (bl 48 (a_aload 0 49)) (bl 49 (a_getf zG0 zT0 11 5 52))) (bn 53 (bl 52 (a_aload 0 53)) (bl 53 (a_getf zG0 zT0 11 1 56)))))) (bn 71 (bn 62 (bn 58 (bn 57 (bl 56 (a_iload 1 57)) (bl 57 (a_iload 2 58))) (bn 59 (bl 58 (a_iload 3 59)) (bl 59 (a_invV zG0 zprot (true, false) zc_2 (zbd 2) (7, 0, 0) 1 5 62)))) (bn 66 (bn 65 (bl 62 (a_if 0 69 65)) (bl 65 (a_const 1 66))) (bn 69 (bl 66 (a_goto 70)) (bl 69 (a_const 0 70))))) (bn 79 (bn 75 (bn 72 (bl 71 (a_aload 0 72)) (bl 72 (a_getf zG0 zT0 11 5 75))) (bn 76 (bl 75 (a_aload 0 76)) (bl 76 (a_getf zG0 zT0 11 1 79)))) (bn 81 (bn 80 (bl 79 (a_iload 1 80)) (bl 80 (a_iload 2 81))) (bn 82 (bl 81 (a_iload 3 82)) (bn 86 (bl 82 (a_invV zG0 zprot (true, false) zc_7 (zbd 7) (7, 0, 0) 1 5 85)) (bl 86 (a_const (-1000000000) 88)))))))
set_option maxRecDepth 100000 in
set_option maxHeartbeats 4000000 in
theorem zTo_113 {pre : zPre} {post : zPost} (H : zTieC pre post) {d : Nat × Nat × Nat} (hd : zLe (7, 0, 0) d) : aTr zG0 zT0 zInv (true, false) PZ zbd pre post d prog_1_method_16_code "CapitalCase" zTr_113 := (xB_n (xB_n (xB_n (xB_n (xB_n (xB_l ⟨_, zs_aload_n em106_0, as_aload⟩) (xB_l ⟨_, zs_iload_n em106_1, as_iload⟩)) (xB_n (xB_l ⟨_, zs_iload_n em106_2, as_iload⟩) (xB_l ⟨_, zs_invV (T := TX11) em106_3 zl_93 rfl wd_850 wd_852 wd_19 ((congrFun xo_0 147).trans rfl) xm_88, ag_invV H zh_93 hd (by decide)⟩))) (xB_n (xB_n (xB_l ⟨_, zs_ifeq em106_6 (t := 17) (by decide), as_if⟩) (xB_l ⟨_, zs_aload_n em106_9, as_aload⟩)) (xB_n (xB_l ⟨_, zs_iload_n em106_10, as_iload⟩) (xB_l ⟨_, zs_invV (T := TX11) em106_11 zl_96 rfl wd_894 wd_896 wd_23 ((congrFun xo_0 175).trans rfl) xm_91, ag_invV H zh_96 hd (by decide)⟩)))) (xB_n (xB_n (xB_n (xB_l ⟨_, zs_ifne em106_14 (t := 20) (by decide), as_if⟩) (xB_l ⟨_, zs_ldc (v := (-1000000000)) em106_17 wd_918 ((congrFun xo_0 205).trans (by decide +kernel)), as_const (by decide +kernel)⟩)) (xB_n (xB_l ⟨_, zs_iload em106_20, as_iload⟩) (xB_l ⟨_, zs_lsw (ts := [(0, 48), (1, 71)]) (df := 86) em106_22 (by decide +kernel) (by decide +kernel) (by decide +kernel) (zlsw (by decide +kernel)), as_lsw⟩))) (xB_n (xB_n (xB_l ⟨_, zs_aload_n em106_48, as_aload⟩) (xB_l ⟨_, zs_getf (T := TX11) (M := 16) (ci := 11) (j := 5) em106_49 rfl inX11 (by decide) wd_564 ((congrFun xo_0 73).trans rfl), as_getf zTie⟩)) (xB_n (xB_l ⟨_, zs_aload_n em106_52, as_aload⟩) (xB_l ⟨_, zs_getf (T := TX11) (M := 16) (ci := 11) (j := 1) em106_53 rfl inX11 (by decide) wd_558 ((congrFun xo_0 39).trans rfl), as_getf zTie⟩))))) (xB_n (xB_n (xB_n (xB_n (xB_l ⟨_, zs_iload_n em106_56, as_iload⟩) (xB_l ⟨_, zs_iload_n em106_57, as_iload⟩)) (xB_n (xB_l ⟨_, zs_iload_n em106_58, as_iload⟩) (xB_l ⟨_, zs_invV (T := TX1) em106_59 zl_2 rfl wd_919 wd_920 wd_921 ((congrFun xo_0 206).trans rfl) xm_2, ag_invV H zh_2 hd (by decide)⟩))) (xB_n (xB_n (xB_l ⟨_, zs_ifeq em106_62 (t := 69) (by decide), as_if⟩) (xB_l ⟨_, zs_iconst (v := 1) em106_65 (by decide +kernel), as_const (by decide +kernel)⟩)) (xB_n (xB_l ⟨_, zs_goto em106_66 (t := 70) (by decide), as_goto⟩) (xB_l ⟨_, zs_iconst (v := 0) em106_69 (by decide +kernel), as_const (by decide +kernel)⟩)))) (xB_n (xB_n (xB_n (xB_l ⟨_, zs_aload_n em106_71, as_aload⟩) (xB_l ⟨_, zs_getf (T := TX11) (M := 16) (ci := 11) (j := 5) em106_72 rfl inX11 (by decide) wd_564 ((congrFun xo_0 73).trans rfl), as_getf zTie⟩)) (xB_n (xB_l ⟨_, zs_aload_n em106_75, as_aload⟩) (xB_l ⟨_, zs_getf (T := TX11) (M := 16) (ci := 11) (j := 1) em106_76 rfl inX11 (by decide) wd_558 ((congrFun xo_0 39).trans rfl), as_getf zTie⟩))) (xB_n (xB_n (xB_l ⟨_, zs_iload_n em106_79, as_iload⟩) (xB_l ⟨_, zs_iload_n em106_80, as_iload⟩)) (xB_n (xB_l ⟨_, zs_iload_n em106_81, as_iload⟩) (xB_n (xB_l ⟨_, zs_invV (T := TX1) em106_82 zl_7 rfl wd_923 wd_924 wd_925 ((congrFun xo_0 210).trans rfl) xm_7, ag_invV H zh_7 hd (by decide)⟩) (xB_l ⟨_, zs_ldc (v := (-1000000000)) em106_86 wd_918 ((congrFun xo_0 205).trans (by decide +kernel)), as_const (by decide +kernel)⟩)))))))
set_option maxRecDepth 100000 in
set_option maxHeartbeats 4000000 in
theorem zM_113 : zOKa 113 zc_113 := z_auto (cuts := []) (rets := [(19, 1), (70, 1), (85, 1), (88, 1)]) (fuel := 1000) rfl rfl (by decide) (xrt_ok (xR_c (Or.inl ⟨rfl, em106_19, rfl⟩) (xR_c (Or.inl ⟨rfl, em106_70, rfl⟩) (xR_c (Or.inl ⟨rfl, em106_85, rfl⟩) (xR_c (Or.inl ⟨rfl, em106_88, rfl⟩) (xR_n)))))) (fun _ _ H _ hd => zTo_113 H hd) (by decide +kernel)
theorem em107_0 : decode prog_1_method_35_code 0 = .ok (.aload_n 0, 1) := by decide +kernel
theorem em107_1 : decode prog_1_method_35_code 1 = .ok (.iload_n 1, 1) := by decide +kernel
theorem em107_2 : decode prog_1_method_35_code 2 = .ok (.iload_n 2, 1) := by decide +kernel
theorem em107_3 : decode prog_1_method_35_code 3 = .ok (.invokevirtual 147, 3) := by decide +kernel
theorem em107_6 : decode prog_1_method_35_code 6 = .ok (.ifCond .eq 24, 3) := by decide +kernel
theorem em107_9 : decode prog_1_method_35_code 9 = .ok (.iload_n 3, 1) := by decide +kernel
theorem em107_10 : decode prog_1_method_35_code 10 = .ok (.ifCond .lt 20, 3) := by decide +kernel
theorem em107_13 : decode prog_1_method_35_code 13 = .ok (.iload_n 3, 1) := by decide +kernel
theorem em107_14 : decode prog_1_method_35_code 14 = .ok (.bipush 60, 2) := by decide +kernel
theorem em107_16 : decode prog_1_method_35_code 16 = .ok (.if_icmp .gt 14, 3) := by decide +kernel
theorem em107_19 : decode prog_1_method_35_code 19 = .ok (.iload 4, 2) := by decide +kernel
theorem em107_21 : decode prog_1_method_35_code 21 = .ok (.ifCond .lt 9, 3) := by decide +kernel
theorem em107_24 : decode prog_1_method_35_code 24 = .ok (.iload 4, 2) := by decide +kernel
theorem em107_26 : decode prog_1_method_35_code 26 = .ok (.iconst 1, 1) := by decide +kernel
theorem em107_27 : decode prog_1_method_35_code 27 = .ok (.if_icmp .le 5, 3) := by decide +kernel
theorem em107_30 : decode prog_1_method_35_code 30 = .ok (.iconst (-1), 1) := by decide +kernel
theorem em107_31 : decode prog_1_method_35_code 31 = .ok (.ireturn, 1) := by decide +kernel
theorem em107_32 : decode prog_1_method_35_code 32 = .ok (.aload_n 0, 1) := by decide +kernel
theorem em107_33 : decode prog_1_method_35_code 33 = .ok (.getfield 43, 3) := by decide +kernel
theorem em107_36 : decode prog_1_method_35_code 36 = .ok (.aload_n 0, 1) := by decide +kernel
theorem em107_37 : decode prog_1_method_35_code 37 = .ok (.getfield 39, 3) := by decide +kernel
theorem em107_40 : decode prog_1_method_35_code 40 = .ok (.invokevirtual 275, 3) := by decide +kernel
theorem em107_43 : decode prog_1_method_35_code 43 = .ok (.aload_n 0, 1) := by decide +kernel
theorem em107_44 : decode prog_1_method_35_code 44 = .ok (.getfield 82, 3) := by decide +kernel
theorem em107_47 : decode prog_1_method_35_code 47 = .ok (.aload_n 0, 1) := by decide +kernel
theorem em107_48 : decode prog_1_method_35_code 48 = .ok (.getfield 43, 3) := by decide +kernel
theorem em107_51 : decode prog_1_method_35_code 51 = .ok (.iload_n 3, 1) := by decide +kernel
theorem em107_52 : decode prog_1_method_35_code 52 = .ok (.aload_n 0, 1) := by decide +kernel
theorem em107_53 : decode prog_1_method_35_code 53 = .ok (.getfield 23, 3) := by decide +kernel
theorem em107_56 : decode prog_1_method_35_code 56 = .ok (.getfield 249, 3) := by decide +kernel
theorem em107_59 : decode prog_1_method_35_code 59 = .ok (.invokevirtual 252, 3) := by decide +kernel
theorem em107_62 : decode prog_1_method_35_code 62 = .ok (.iload_n 1, 1) := by decide +kernel
theorem em107_63 : decode prog_1_method_35_code 63 = .ok (.bipush 8, 2) := by decide +kernel
theorem em107_65 : decode prog_1_method_35_code 65 = .ok (.imul, 1) := by decide +kernel
theorem em107_66 : decode prog_1_method_35_code 66 = .ok (.iload_n 2, 1) := by decide +kernel
theorem em107_67 : decode prog_1_method_35_code 67 = .ok (.iadd, 1) := by decide +kernel
theorem em107_68 : decode prog_1_method_35_code 68 = .ok (.istore 5, 2) := by decide +kernel
theorem em107_70 : decode prog_1_method_35_code 70 = .ok (.iload 4, 2) := by decide +kernel
theorem em107_72 : decode prog_1_method_35_code 72 = .ok (.ifCond .ne 16, 3) := by decide +kernel
theorem em107_75 : decode prog_1_method_35_code 75 = .ok (.aload_n 0, 1) := by decide +kernel
theorem em107_76 : decode prog_1_method_35_code 76 = .ok (.getfield 43, 3) := by decide +kernel
theorem em107_79 : decode prog_1_method_35_code 79 = .ok (.getfield 151, 3) := by decide +kernel
theorem em107_82 : decode prog_1_method_35_code 82 = .ok (.iload 5, 2) := by decide +kernel
theorem em107_84 : decode prog_1_method_35_code 84 = .ok (.iaload, 1) := by decide +kernel
theorem em107_85 : decode prog_1_method_35_code 85 = .ok (.goto 13, 3) := by decide +kernel
theorem em107_88 : decode prog_1_method_35_code 88 = .ok (.aload_n 0, 1) := by decide +kernel
theorem em107_89 : decode prog_1_method_35_code 89 = .ok (.getfield 43, 3) := by decide +kernel
theorem em107_92 : decode prog_1_method_35_code 92 = .ok (.getfield 161, 3) := by decide +kernel
theorem em107_95 : decode prog_1_method_35_code 95 = .ok (.iload 5, 2) := by decide +kernel
theorem em107_97 : decode prog_1_method_35_code 97 = .ok (.iaload, 1) := by decide +kernel
theorem em107_98 : decode prog_1_method_35_code 98 = .ok (.ireturn, 1) := by decide +kernel
/-! CapitalCase.then:(IIII)I -/
noncomputable def zTr_114 : Nat → Option aF := bn 48 (bn 24 (bn 10 (bn 3 (bn 1 (bl 0 (a_aload 0 1)) (bn 2 (bl 1 (a_iload 1 2)) (bl 2 (a_iload 2 3)))) (bn 6 (bl 3 (a_invV zG0 zprot (true, false) zc_93 (zbd 93) (10, 0, 0) 11 3 6)) (bn 9 (bl 6 (a_if 0 30 9)) (bl 9 (a_iload 3 10))))) (bn 16 (bn 13 (bl 10 (a_if 2 30 13)) (bn 14 (bl 13 (a_iload 3 14)) (bl 14 (a_const 60 16)))) (bn 19 (bl 16 (a_icmp 4 30 19)) (bn 21 (bl 19 (a_iload 4 21)) (bl 21 (a_if 2 30 24)))))) (bn 36 (bn 30 (bn 26 (bl 24 (a_iload 4 26)) (bn 27 (bl 26 (a_const 1 27)) (bl 27 (a_icmp 5 32 30)))) (bn 32 (bl 30 (a_const (-1) 31)) (bn 33 (bl 32 (a_aload 0 33)) (bl 33 (a_getf zG0 zT0 11 2 36))))) (bn 43 (bn 37 (bl 36 (a_aload 0 37)) (bn 40 (bl 37 (a_getf zG0 zT0 11 1 40)) (bl 40 (a_invV zG0 zprot (true, false) zc_53 (zbd 53) (10, 0, 0) 8 2 43)))) (bn 44 (bl 43 (a_aload 0 44)) (bn 47 (bl 44 (a_getf zG0 zT0 11 3 47)) (bl 47 (a_aload 0 48))))))) (bn 70 (bn 62 (bn 53 (bn 51 (bl 48 (a_getf zG0 zT0 11 2 51)) (bn 52 (bl 51 (a_iload 3 52)) (bl 52 (a_aload 0 53)))) (bn 56 (bl 53 (a_getf zG0 zT0 11 0 56)) (bn 59 (bl 56 (a_getf zG0 zT0 6 3 59)) (bl 59 (a_invV zG0 zprot (true, false) zc_36 (zbd 36) (10, 0, 0) 4 4 62))))) (bn 66 (bn 63 (bl 62 (a_iload 1 63)) (bn 65 (bl 63 (a_const 8 65)) (bl 65 (a_bin fmul 66)))) (bn 67 (bl 66 (a_iload 2 67)) (bn 68 (bl 67 (a_bin fadd 68)) (bl 68 (a_istore 5 70)))))) (bn 84 (bn 76 (bn 72 (bl 70 (a_iload 4 72)) (bn 75 (bl 72 (a_if 1 88 75)) (bl 75 (a_aload 0 76)))) (bn 79 (bl 76 (a_getf zG0 zT0 11 2 79)) (bn 82 (bl 79 (a_getf zG0 zT0 8 0 82)) (bl 82 (a_iload 5 84))))) (bn 89 (bn 85 (bl 84 (a_ald zG0 zT0 (true, false) ts0 85)) (bn 88 (bl 85 (a_goto 98)) (bl 88 (a_aload 0 89)))) (bn 95 (bn 92 (bl 89 (a_getf zG0 zT0 11 2 92)) (bl 92 (a_getf zG0 zT0 8 2 95))) (bn 97 (bl 95 (a_iload 5 97)) (bl 97 (a_ald zG0 zT0 (true, false) ts0 98)))))))
set_option maxRecDepth 100000 in
set_option maxHeartbeats 4000000 in
theorem zTo_114 {pre : zPre} {post : zPost} (H : zTieC pre post) {d : Nat × Nat × Nat} (hd : zLe (10, 0, 0) d) : aTr zG0 zT0 zInv (true, false) PZ zbd pre post d prog_1_method_35_code "CapitalCase" zTr_114 := (xB_n (xB_n (xB_n (xB_n (xB_n (xB_l ⟨_, zs_aload_n em107_0, as_aload⟩) (xB_n (xB_l ⟨_, zs_iload_n em107_1, as_iload⟩) (xB_l ⟨_, zs_iload_n em107_2, as_iload⟩))) (xB_n (xB_l ⟨_, zs_invV (T := TX11) em107_3 zl_93 rfl wd_850 wd_852 wd_19 ((congrFun xo_0 147).trans rfl) xm_88, ag_invV H zh_93 hd (by decide)⟩) (xB_n (xB_l ⟨_, zs_ifeq em107_6 (t := 30) (by decide), as_if⟩) (xB_l ⟨_, zs_iload_n em107_9, as_iload⟩)))) (xB_n (xB_n (xB_l ⟨_, zs_iflt em107_10 (t := 30) (by decide), as_if⟩) (xB_n (xB_l ⟨_, zs_iload_n em107_13, as_iload⟩) (xB_l ⟨_, zs_bipush (v := 60) em107_14 (by decide +kernel), as_const (by decide +kernel)⟩))) (xB_n (xB_l ⟨_, zs_icmpgt em107_16 (t := 30) (by decide), as_icmp⟩) (xB_n (xB_l ⟨_, zs_iload em107_19, as_iload⟩) (xB_l ⟨_, zs_iflt em107_21 (t := 30) (by decide), as_if⟩))))) (xB_n (xB_n (xB_n (xB_l ⟨_, zs_iload em107_24, as_iload⟩) (xB_n (xB_l ⟨_, zs_iconst (v := 1) em107_26 (by decide +kernel), as_const (by decide +kernel)⟩) (xB_l ⟨_, zs_icmple em107_27 (t := 32) (by decide), as_icmp⟩))) (xB_n (xB_l ⟨_, zs_iconst (v := (-1)) em107_30 (by decide +kernel), as_const (by decide +kernel)⟩) (xB_n (xB_l ⟨_, zs_aload_n em107_32, as_aload⟩) (xB_l ⟨_, zs_getf (T := TX11) (M := 16) (ci := 11) (j := 2) em107_33 rfl inX11 (by decide) wd_559 ((congrFun xo_0 43).trans rfl), as_getf zTie⟩)))) (xB_n (xB_n (xB_l ⟨_, zs_aload_n em107_36, as_aload⟩) (xB_n (xB_l ⟨_, zs_getf (T := TX11) (M := 16) (ci := 11) (j := 1) em107_37 rfl inX11 (by decide) wd_558 ((congrFun xo_0 39).trans rfl), as_getf zTie⟩) (xB_l ⟨_, zs_invV (T := TX8) em107_40 zl_53 rfl wd_1082 wd_973 wd_974 ((congrFun xo_0 275).trans rfl) xm_49, ag_invV H zh_53 hd (by decide)⟩))) (xB_n (xB_l ⟨_, zs_aload_n em107_43, as_aload⟩) (xB_n (xB_l ⟨_, zs_getf (T := TX11) (M := 16) (ci := 11) (j := 3) em107_44 rfl inX11 (by decide) wd_565 ((congrFun xo_0 82).trans rfl), as_getf zTie⟩) (xB_l ⟨_, zs_aload_n em107_47, as_aload⟩)))))) (xB_n (xB_n (xB_n (xB_n (xB_l ⟨_, zs_getf (T := TX11) (M := 16) (ci := 11) (j := 2) em107_48 rfl inX11 (by decide) wd_559 ((congrFun xo_0 43).trans rfl), as_getf zTie⟩) (xB_n (xB_l ⟨_, zs_iload_n em107_51, as_iload⟩) (xB_l ⟨_, zs_aload_n em107_52, as_aload⟩))) (xB_n (xB_l ⟨_, zs_getf (T := TX11) (M := 16) (ci := 11) (j := 0) em107_53 rfl inX11 (by decide) wd_556 ((congrFun xo_0 23).trans rfl), as_getf zTie⟩) (xB_n (xB_l ⟨_, zs_getf (T := TX6) (M := 15) (ci := 6) (j := 3) em107_56 rfl inX6 (by decide) wd_183 ((congrFun xo_0 249).trans rfl), as_getf zTie⟩) (xB_l ⟨_, zs_invV (T := TX4) em107_59 zl_36 rfl wd_1005 wd_1006 wd_1007 ((congrFun xo_0 252).trans rfl) xm_35, ag_invV H zh_36 hd (by decide)⟩)))) (xB_n (xB_n (xB_l ⟨_, zs_iload_n em107_62, as_iload⟩) (xB_n (xB_l ⟨_, zs_bipush (v := 8) em107_63 (by decide +kernel), as_const (by decide +kernel)⟩) (xB_l ⟨_, zs_imul em107_65, as_bin fmul_ok⟩))) (xB_n (xB_l ⟨_, zs_iload_n em107_66, as_iload⟩) (xB_n (xB_l ⟨_, zs_iadd em107_67, as_bin fadd_ok⟩) (xB_l ⟨_, zs_istore em107_68, as_istore⟩))))) (xB_n (xB_n (xB_n (xB_l ⟨_, zs_iload em107_70, as_iload⟩) (xB_n (xB_l ⟨_, zs_ifne em107_72 (t := 88) (by decide), as_if⟩) (xB_l ⟨_, zs_aload_n em107_75, as_aload⟩))) (xB_n (xB_l ⟨_, zs_getf (T := TX11) (M := 16) (ci := 11) (j := 2) em107_76 rfl inX11 (by decide) wd_559 ((congrFun xo_0 43).trans rfl), as_getf zTie⟩) (xB_n (xB_l ⟨_, zs_getf (T := TX8) (M := 10) (ci := 8) (j := 0) em107_79 rfl inX8 (by decide) wd_324 ((congrFun xo_0 151).trans rfl), as_getf zTie⟩) (xB_l ⟨_, zs_iload em107_82, as_iload⟩)))) (xB_n (xB_n (xB_l ⟨_, zs_iald em107_84, ag_iald⟩) (xB_n (xB_l ⟨_, zs_goto em107_85 (t := 98) (by decide), as_goto⟩) (xB_l ⟨_, zs_aload_n em107_88, as_aload⟩))) (xB_n (xB_n (xB_l ⟨_, zs_getf (T := TX11) (M := 16) (ci := 11) (j := 2) em107_89 rfl inX11 (by decide) wd_559 ((congrFun xo_0 43).trans rfl), as_getf zTie⟩) (xB_l ⟨_, zs_getf (T := TX8) (M := 10) (ci := 8) (j := 2) em107_92 rfl inX8 (by decide) wd_333 ((congrFun xo_0 161).trans rfl), as_getf zTie⟩)) (xB_n (xB_l ⟨_, zs_iload em107_95, as_iload⟩) (xB_l ⟨_, zs_iald em107_97, ag_iald⟩)))))))
set_option maxRecDepth 100000 in
set_option maxHeartbeats 4000000 in
theorem zM_114 : zOKa 114 zc_114 := z_auto (cuts := []) (rets := [(31, 1), (98, 1)]) (fuel := 1000) rfl rfl (by decide) (xrt_ok (xR_c (Or.inl ⟨rfl, em107_31, rfl⟩) (xR_c (Or.inl ⟨rfl, em107_98, rfl⟩) (xR_n)))) (fun _ _ H _ hd => zTo_114 H hd) (by decide +kernel)
