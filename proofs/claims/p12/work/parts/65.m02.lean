theorem em40_0 : decode prog_7_method_3_code 0 = .ok (.iconst 0, 1) := by decide +kernel
theorem em40_1 : decode prog_7_method_3_code 1 = .ok (.istore 4, 2) := by decide +kernel
theorem em40_3 : decode prog_7_method_3_code 3 = .ok (.iconst 0, 1) := by decide +kernel
theorem em40_4 : decode prog_7_method_3_code 4 = .ok (.istore 5, 2) := by decide +kernel
theorem em40_6 : decode prog_7_method_3_code 6 = .ok (.iload 5, 2) := by decide +kernel
theorem em40_8 : decode prog_7_method_3_code 8 = .ok (.iload_n 2, 1) := by decide +kernel
theorem em40_9 : decode prog_7_method_3_code 9 = .ok (.if_icmp .ge 100, 3) := by decide +kernel
theorem em40_12 : decode prog_7_method_3_code 12 = .ok (.iconst 1, 1) := by decide +kernel
theorem em40_13 : decode prog_7_method_3_code 13 = .ok (.istore 6, 2) := by decide +kernel
theorem em40_15 : decode prog_7_method_3_code 15 = .ok (.iconst 0, 1) := by decide +kernel
theorem em40_16 : decode prog_7_method_3_code 16 = .ok (.istore 7, 2) := by decide +kernel
theorem em40_18 : decode prog_7_method_3_code 18 = .ok (.iload 7, 2) := by decide +kernel
theorem em40_20 : decode prog_7_method_3_code 20 = .ok (.iload_n 3, 1) := by decide +kernel
theorem em40_21 : decode prog_7_method_3_code 21 = .ok (.if_icmp .ge 64, 3) := by decide +kernel
theorem em40_24 : decode prog_7_method_3_code 24 = .ok (.iload 6, 2) := by decide +kernel
theorem em40_26 : decode prog_7_method_3_code 26 = .ok (.ifCond .eq 50, 3) := by decide +kernel
theorem em40_29 : decode prog_7_method_3_code 29 = .ok (.aload_n 1, 1) := by decide +kernel
theorem em40_30 : decode prog_7_method_3_code 30 = .ok (.getfield 26, 3) := by decide +kernel
theorem em40_33 : decode prog_7_method_3_code 33 = .ok (.iload 5, 2) := by decide +kernel
theorem em40_35 : decode prog_7_method_3_code 35 = .ok (.bipush 8, 2) := by decide +kernel
theorem em40_37 : decode prog_7_method_3_code 37 = .ok (.imul, 1) := by decide +kernel
theorem em40_38 : decode prog_7_method_3_code 38 = .ok (.aload_n 0, 1) := by decide +kernel
theorem em40_39 : decode prog_7_method_3_code 39 = .ok (.getfield 11, 3) := by decide +kernel
theorem em40_42 : decode prog_7_method_3_code 42 = .ok (.iload 7, 2) := by decide +kernel
theorem em40_44 : decode prog_7_method_3_code 44 = .ok (.iaload, 1) := by decide +kernel
theorem em40_45 : decode prog_7_method_3_code 45 = .ok (.iadd, 1) := by decide +kernel
theorem em40_46 : decode prog_7_method_3_code 46 = .ok (.iaload, 1) := by decide +kernel
theorem em40_47 : decode prog_7_method_3_code 47 = .ok (.aload_n 0, 1) := by decide +kernel
theorem em40_48 : decode prog_7_method_3_code 48 = .ok (.getfield 15, 3) := by decide +kernel
theorem em40_51 : decode prog_7_method_3_code 51 = .ok (.iload 7, 2) := by decide +kernel
theorem em40_53 : decode prog_7_method_3_code 53 = .ok (.iaload, 1) := by decide +kernel
theorem em40_54 : decode prog_7_method_3_code 54 = .ok (.if_icmp .lt 7, 3) := by decide +kernel
theorem em40_57 : decode prog_7_method_3_code 57 = .ok (.iconst 1, 1) := by decide +kernel
theorem em40_58 : decode prog_7_method_3_code 58 = .ok (.goto 4, 3) := by decide +kernel
theorem em40_61 : decode prog_7_method_3_code 61 = .ok (.iconst 0, 1) := by decide +kernel
theorem em40_62 : decode prog_7_method_3_code 62 = .ok (.aload_n 0, 1) := by decide +kernel
theorem em40_63 : decode prog_7_method_3_code 63 = .ok (.getfield 18, 3) := by decide +kernel
theorem em40_66 : decode prog_7_method_3_code 66 = .ok (.iload 7, 2) := by decide +kernel
theorem em40_68 : decode prog_7_method_3_code 68 = .ok (.baload, 1) := by decide +kernel
theorem em40_69 : decode prog_7_method_3_code 69 = .ok (.if_icmp .ne 7, 3) := by decide +kernel
theorem em40_72 : decode prog_7_method_3_code 72 = .ok (.iconst 1, 1) := by decide +kernel
theorem em40_73 : decode prog_7_method_3_code 73 = .ok (.goto 4, 3) := by decide +kernel
theorem em40_76 : decode prog_7_method_3_code 76 = .ok (.iconst 0, 1) := by decide +kernel
theorem em40_77 : decode prog_7_method_3_code 77 = .ok (.istore 6, 2) := by decide +kernel
theorem em40_79 : decode prog_7_method_3_code 79 = .ok (.iinc 7 1, 3) := by decide +kernel
theorem em40_82 : decode prog_7_method_3_code 82 = .ok (.goto (-64), 3) := by decide +kernel
theorem em40_85 : decode prog_7_method_3_code 85 = .ok (.iload 4, 2) := by decide +kernel
theorem em40_87 : decode prog_7_method_3_code 87 = .ok (.iload 6, 2) := by decide +kernel
theorem em40_89 : decode prog_7_method_3_code 89 = .ok (.ifCond .eq 10, 3) := by decide +kernel
theorem em40_92 : decode prog_7_method_3_code 92 = .ok (.iconst 1, 1) := by decide +kernel
theorem em40_93 : decode prog_7_method_3_code 93 = .ok (.iload 5, 2) := by decide +kernel
theorem em40_95 : decode prog_7_method_3_code 95 = .ok (.ishl, 1) := by decide +kernel
theorem em40_96 : decode prog_7_method_3_code 96 = .ok (.goto 4, 3) := by decide +kernel
theorem em40_99 : decode prog_7_method_3_code 99 = .ok (.iconst 0, 1) := by decide +kernel
theorem em40_100 : decode prog_7_method_3_code 100 = .ok (.ior, 1) := by decide +kernel
theorem em40_101 : decode prog_7_method_3_code 101 = .ok (.istore 4, 2) := by decide +kernel
theorem em40_103 : decode prog_7_method_3_code 103 = .ok (.iinc 5 1, 3) := by decide +kernel
theorem em40_106 : decode prog_7_method_3_code 106 = .ok (.goto (-100), 3) := by decide +kernel
theorem em40_109 : decode prog_7_method_3_code 109 = .ok (.iload 4, 2) := by decide +kernel
theorem em40_111 : decode prog_7_method_3_code 111 = .ok (.ireturn, 1) := by decide +kernel
/-! CapitalCase$Prints.left:(LCapitalCase$Town;II)I -/
noncomputable def zTr_41 : Nat → Option aF := bn 51 (bn 24 (bn 12 (bn 4 (bn 1 (bl 0 (a_const 0 1)) (bn 3 (bl 1 (a_istore 4 3)) (bl 3 (a_const 0 4)))) (bn 8 (bn 6 (bl 4 (a_istore 5 6)) (bl 6 (a_iload 5 8))) (bn 9 (bl 8 (a_iload 2 9)) (bl 9 (a_icmp 3 109 12))))) (bn 16 (bn 13 (bl 12 (a_const 1 13)) (bn 15 (bl 13 (a_istore 6 15)) (bl 15 (a_const 0 16)))) (bn 20 (bn 18 (bl 16 (a_istore 7 18)) (bl 18 (a_iload 7 20))) (bn 21 (bl 20 (a_iload 3 21)) (bl 21 (a_icmp 3 85 24)))))) (bn 38 (bn 30 (bn 26 (bl 24 (a_iload 6 26)) (bn 29 (bl 26 (a_if 0 76 29)) (bl 29 (a_aload 1 30)))) (bn 35 (bn 33 (bl 30 (a_getf zG0 zT0 8 2 33)) (bl 33 (a_iload 5 35))) (bn 37 (bl 35 (a_const 8 37)) (bl 37 (a_bin fmul 38))))) (bn 45 (bn 42 (bn 39 (bl 38 (a_aload 0 39)) (bl 39 (a_getf zG0 zT0 5 0 42))) (bn 44 (bl 42 (a_iload 7 44)) (bl 44 (a_ald zG0 zT0 (false, false) ts0 45)))) (bn 47 (bn 46 (bl 45 (a_bin fadd 46)) (bl 46 (a_ald zG0 zT0 (false, false) ts0 47))) (bn 48 (bl 47 (a_aload 0 48)) (bl 48 (a_getf zG0 zT0 5 1 51))))))) (bn 79 (bn 63 (bn 57 (bn 53 (bl 51 (a_iload 7 53)) (bn 54 (bl 53 (a_ald zG0 zT0 (false, false) ts0 54)) (bl 54 (a_icmp 2 61 57)))) (bn 61 (bn 58 (bl 57 (a_const 1 58)) (bl 58 (a_goto 62))) (bn 62 (bl 61 (a_const 0 62)) (bl 62 (a_aload 0 63))))) (bn 72 (bn 68 (bn 66 (bl 63 (a_getf zG0 zT0 5 2 66)) (bl 66 (a_iload 7 68))) (bn 69 (bl 68 (a_ald zG0 zT0 (false, false) ts12 69)) (bl 69 (a_icmp 1 76 72)))) (bn 76 (bn 73 (bl 72 (a_const 1 73)) (bl 73 (a_goto 77))) (bn 77 (bl 76 (a_const 0 77)) (bl 77 (a_istore 6 79)))))) (bn 95 (bn 87 (bn 82 (bl 79 (a_iinc 7 1 82)) (bn 85 (bl 82 (a_goto 18)) (bl 85 (a_iload 4 87)))) (bn 92 (bn 89 (bl 87 (a_iload 6 89)) (bl 89 (a_if 0 99 92))) (bn 93 (bl 92 (a_const 1 93)) (bl 93 (a_iload 5 95))))) (bn 101 (bn 99 (bn 96 (bl 95 (a_bin fshl 96)) (bl 96 (a_goto 100))) (bn 100 (bl 99 (a_const 0 100)) (bl 100 (a_bin fany 101)))) (bn 106 (bn 103 (bl 101 (a_istore 4 103)) (bl 103 (a_iinc 5 1 106))) (bn 109 (bl 106 (a_goto 6)) (bl 109 (a_iload 4 111)))))))
set_option maxRecDepth 100000 in
set_option maxHeartbeats 4000000 in
theorem zTo_41 {pre : zPre} {post : zPost} (H : zTieC pre post) {d : Nat × Nat × Nat} (hd : zLe (0, 0, 0) d) : aTr zG0 zT0 zInv (false, false) PZ zbd pre post d prog_7_method_3_code "CapitalCase$Prints" zTr_41 := (xB_n (xB_n (xB_n (xB_n (xB_n (xB_l ⟨_, zs_iconst (v := 0) em40_0 (by decide +kernel), as_const (by decide +kernel)⟩) (xB_n (xB_l ⟨_, zs_istore em40_1, as_istore⟩) (xB_l ⟨_, zs_iconst (v := 0) em40_3 (by decide +kernel), as_const (by decide +kernel)⟩))) (xB_n (xB_n (xB_l ⟨_, zs_istore em40_4, as_istore⟩) (xB_l ⟨_, zs_iload em40_6, as_iload⟩)) (xB_n (xB_l ⟨_, zs_iload_n em40_8, as_iload⟩) (xB_l ⟨_, zs_icmpge em40_9 (t := 109) (by decide), as_icmp⟩)))) (xB_n (xB_n (xB_l ⟨_, zs_iconst (v := 1) em40_12 (by decide +kernel), as_const (by decide +kernel)⟩) (xB_n (xB_l ⟨_, zs_istore em40_13, as_istore⟩) (xB_l ⟨_, zs_iconst (v := 0) em40_15 (by decide +kernel), as_const (by decide +kernel)⟩))) (xB_n (xB_n (xB_l ⟨_, zs_istore em40_16, as_istore⟩) (xB_l ⟨_, zs_iload em40_18, as_iload⟩)) (xB_n (xB_l ⟨_, zs_iload_n em40_20, as_iload⟩) (xB_l ⟨_, zs_icmpge em40_21 (t := 85) (by decide), as_icmp⟩))))) (xB_n (xB_n (xB_n (xB_l ⟨_, zs_iload em40_24, as_iload⟩) (xB_n (xB_l ⟨_, zs_ifeq em40_26 (t := 76) (by decide), as_if⟩) (xB_l ⟨_, zs_aload_n em40_29, as_aload⟩))) (xB_n (xB_n (xB_l ⟨_, zs_getf (T := TX8) (M := 10) (ci := 8) (j := 2) em40_30 rfl inX8 (by decide) wd_330 ((congrFun xo_6 26).trans rfl), as_getf zTie⟩) (xB_l ⟨_, zs_iload em40_33, as_iload⟩)) (xB_n (xB_l ⟨_, zs_bipush (v := 8) em40_35 (by decide +kernel), as_const (by decide +kernel)⟩) (xB_l ⟨_, zs_imul em40_37, as_bin fmul_ok⟩)))) (xB_n (xB_n (xB_n (xB_l ⟨_, zs_aload_n em40_38, as_aload⟩) (xB_l ⟨_, zs_getf (T := TX5) (M := 4) (ci := 5) (j := 0) em40_39 rfl inX5 (by decide) wd_401 ((congrFun xo_6 11).trans rfl), as_getf zTie⟩)) (xB_n (xB_l ⟨_, zs_iload em40_42, as_iload⟩) (xB_l ⟨_, zs_iald em40_44, ag_iald⟩))) (xB_n (xB_n (xB_l ⟨_, zs_iadd em40_45, as_bin fadd_ok⟩) (xB_l ⟨_, zs_iald em40_46, ag_iald⟩)) (xB_n (xB_l ⟨_, zs_aload_n em40_47, as_aload⟩) (xB_l ⟨_, zs_getf (T := TX5) (M := 4) (ci := 5) (j := 1) em40_48 rfl inX5 (by decide) wd_402 ((congrFun xo_6 15).trans rfl), as_getf zTie⟩)))))) (xB_n (xB_n (xB_n (xB_n (xB_l ⟨_, zs_iload em40_51, as_iload⟩) (xB_n (xB_l ⟨_, zs_iald em40_53, ag_iald⟩) (xB_l ⟨_, zs_icmplt em40_54 (t := 61) (by decide), as_icmp⟩))) (xB_n (xB_n (xB_l ⟨_, zs_iconst (v := 1) em40_57 (by decide +kernel), as_const (by decide +kernel)⟩) (xB_l ⟨_, zs_goto em40_58 (t := 62) (by decide), as_goto⟩)) (xB_n (xB_l ⟨_, zs_iconst (v := 0) em40_61 (by decide +kernel), as_const (by decide +kernel)⟩) (xB_l ⟨_, zs_aload_n em40_62, as_aload⟩)))) (xB_n (xB_n (xB_n (xB_l ⟨_, zs_getf (T := TX5) (M := 4) (ci := 5) (j := 2) em40_63 rfl inX5 (by decide) wd_403 ((congrFun xo_6 18).trans rfl), as_getf zTie⟩) (xB_l ⟨_, zs_iload em40_66, as_iload⟩)) (xB_n (xB_l ⟨_, zs_bald em40_68, ag_bald⟩) (xB_l ⟨_, zs_icmpne em40_69 (t := 76) (by decide), as_icmp⟩))) (xB_n (xB_n (xB_l ⟨_, zs_iconst (v := 1) em40_72 (by decide +kernel), as_const (by decide +kernel)⟩) (xB_l ⟨_, zs_goto em40_73 (t := 77) (by decide), as_goto⟩)) (xB_n (xB_l ⟨_, zs_iconst (v := 0) em40_76 (by decide +kernel), as_const (by decide +kernel)⟩) (xB_l ⟨_, zs_istore em40_77, as_istore⟩))))) (xB_n (xB_n (xB_n (xB_l ⟨_, zs_iinc (k := 1) em40_79 (by decide +kernel), as_iinc (by decide +kernel)⟩) (xB_n (xB_l ⟨_, zs_goto em40_82 (t := 18) (by decide), as_goto⟩) (xB_l ⟨_, zs_iload em40_85, as_iload⟩))) (xB_n (xB_n (xB_l ⟨_, zs_iload em40_87, as_iload⟩) (xB_l ⟨_, zs_ifeq em40_89 (t := 99) (by decide), as_if⟩)) (xB_n (xB_l ⟨_, zs_iconst (v := 1) em40_92 (by decide +kernel), as_const (by decide +kernel)⟩) (xB_l ⟨_, zs_iload em40_93, as_iload⟩)))) (xB_n (xB_n (xB_n (xB_l ⟨_, zs_ishl em40_95, as_bin fshl_ok⟩) (xB_l ⟨_, zs_goto em40_96 (t := 100) (by decide), as_goto⟩)) (xB_n (xB_l ⟨_, zs_iconst (v := 0) em40_99 (by decide +kernel), as_const (by decide +kernel)⟩) (xB_l ⟨_, zs_ior em40_100, as_bin fany_ok⟩))) (xB_n (xB_n (xB_l ⟨_, zs_istore em40_101, as_istore⟩) (xB_l ⟨_, zs_iinc (k := 1) em40_103 (by decide +kernel), as_iinc (by decide +kernel)⟩)) (xB_n (xB_l ⟨_, zs_goto em40_106 (t := 6) (by decide), as_goto⟩) (xB_l ⟨_, zs_iload em40_109, as_iload⟩)))))))
set_option maxRecDepth 100000 in
set_option maxHeartbeats 4000000 in
theorem zM_41 : zOKa 41 zc_41 := z_auto (cuts := [(6, ([(0, 0), (0, 5), (0, 20), ((-2147483648), 2147483647), (0, 5)], [], [some (.inr (.inl (0, 44))), some (.inr (.inl (1, 1000))), some (.inl (1, 0)), some (.inl (2, 0)), some (.inl (3, 0)), some (.inl (4, 0)), none, none], [], [], (0, 0)), [(0, 4), (0, 5)], 131, [0, 0, 0, 0, (-22)]), (18, ([(0, 0), (1, 5), (0, 20), ((-2147483648), 2147483647), (0, 4), (0, 1), (0, 20)], [], [some (.inr (.inl (0, 44))), some (.inr (.inl (1, 1000))), some (.inl (1, 0)), some (.inl (2, 0)), some (.inl (3, 0)), some (.inl (4, 0)), some (.inl (5, 0)), some (.inl (6, 0))], [], [], (0, 0)), [(0, 4), (0, 5), (0, 6), (0, 7)], 130, [0, 0, 0, 0, (-22), 0, (-1)])]) (rets := [(111, 1)]) (fuel := 1000) rfl rfl (by decide) (xrt_ok (xR_c (Or.inl ⟨rfl, em40_111, rfl⟩) (xR_n))) (fun _ _ H _ hd => zTo_41 H hd) (by decide +kernel)
theorem em41_0 : decode prog_7_method_4_code 0 = .ok (.bipush (-2), 2) := by decide +kernel
theorem em41_2 : decode prog_7_method_4_code 2 = .ok (.istore 4, 2) := by decide +kernel
theorem em41_4 : decode prog_7_method_4_code 4 = .ok (.bipush 6, 2) := by decide +kernel
theorem em41_6 : decode prog_7_method_4_code 6 = .ok (.istore 5, 2) := by decide +kernel
theorem em41_8 : decode prog_7_method_4_code 8 = .ok (.iconst 0, 1) := by decide +kernel
theorem em41_9 : decode prog_7_method_4_code 9 = .ok (.istore 6, 2) := by decide +kernel
theorem em41_11 : decode prog_7_method_4_code 11 = .ok (.iload 6, 2) := by decide +kernel
theorem em41_13 : decode prog_7_method_4_code 13 = .ok (.bipush 8, 2) := by decide +kernel
theorem em41_15 : decode prog_7_method_4_code 15 = .ok (.if_icmp .ge 97, 3) := by decide +kernel
theorem em41_18 : decode prog_7_method_4_code 18 = .ok (.iload_n 2, 1) := by decide +kernel
theorem em41_19 : decode prog_7_method_4_code 19 = .ok (.ifCond .eq 93, 3) := by decide +kernel
theorem em41_22 : decode prog_7_method_4_code 22 = .ok (.iconst 0, 1) := by decide +kernel
theorem em41_23 : decode prog_7_method_4_code 23 = .ok (.istore 7, 2) := by decide +kernel
theorem em41_25 : decode prog_7_method_4_code 25 = .ok (.iconst 0, 1) := by decide +kernel
theorem em41_26 : decode prog_7_method_4_code 26 = .ok (.istore 8, 2) := by decide +kernel
theorem em41_28 : decode prog_7_method_4_code 28 = .ok (.iload 8, 2) := by decide +kernel
theorem em41_30 : decode prog_7_method_4_code 30 = .ok (.iconst 5, 1) := by decide +kernel
theorem em41_31 : decode prog_7_method_4_code 31 = .ok (.if_icmp .ge 46, 3) := by decide +kernel
theorem em41_34 : decode prog_7_method_4_code 34 = .ok (.iload 7, 2) := by decide +kernel
theorem em41_36 : decode prog_7_method_4_code 36 = .ok (.iload_n 2, 1) := by decide +kernel
theorem em41_37 : decode prog_7_method_4_code 37 = .ok (.iload 8, 2) := by decide +kernel
theorem em41_39 : decode prog_7_method_4_code 39 = .ok (.ishr, 1) := by decide +kernel
theorem em41_40 : decode prog_7_method_4_code 40 = .ok (.iconst 1, 1) := by decide +kernel
theorem em41_41 : decode prog_7_method_4_code 41 = .ok (.iand, 1) := by decide +kernel
theorem em41_42 : decode prog_7_method_4_code 42 = .ok (.iconst 1, 1) := by decide +kernel
theorem em41_43 : decode prog_7_method_4_code 43 = .ok (.if_icmp .ne 24, 3) := by decide +kernel
theorem em41_46 : decode prog_7_method_4_code 46 = .ok (.aload_n 1, 1) := by decide +kernel
theorem em41_47 : decode prog_7_method_4_code 47 = .ok (.getfield 26, 3) := by decide +kernel
theorem em41_50 : decode prog_7_method_4_code 50 = .ok (.iload 8, 2) := by decide +kernel
theorem em41_52 : decode prog_7_method_4_code 52 = .ok (.bipush 8, 2) := by decide +kernel
theorem em41_54 : decode prog_7_method_4_code 54 = .ok (.imul, 1) := by decide +kernel
theorem em41_55 : decode prog_7_method_4_code 55 = .ok (.iload 6, 2) := by decide +kernel
theorem em41_57 : decode prog_7_method_4_code 57 = .ok (.iadd, 1) := by decide +kernel
theorem em41_58 : decode prog_7_method_4_code 58 = .ok (.iaload, 1) := by decide +kernel
theorem em41_59 : decode prog_7_method_4_code 59 = .ok (.iload_n 3, 1) := by decide +kernel
theorem em41_60 : decode prog_7_method_4_code 60 = .ok (.if_icmp .lt 7, 3) := by decide +kernel
theorem em41_63 : decode prog_7_method_4_code 63 = .ok (.iconst 1, 1) := by decide +kernel
theorem em41_64 : decode prog_7_method_4_code 64 = .ok (.goto 4, 3) := by decide +kernel
theorem em41_67 : decode prog_7_method_4_code 67 = .ok (.iconst 0, 1) := by decide +kernel
theorem em41_68 : decode prog_7_method_4_code 68 = .ok (.iadd, 1) := by decide +kernel
theorem em41_69 : decode prog_7_method_4_code 69 = .ok (.istore 7, 2) := by decide +kernel
theorem em41_71 : decode prog_7_method_4_code 71 = .ok (.iinc 8 1, 3) := by decide +kernel
theorem em41_74 : decode prog_7_method_4_code 74 = .ok (.goto (-46), 3) := by decide +kernel
theorem em41_77 : decode prog_7_method_4_code 77 = .ok (.iload 7, 2) := by decide +kernel
theorem em41_79 : decode prog_7_method_4_code 79 = .ok (.iload_n 2, 1) := by decide +kernel
theorem em41_80 : decode prog_7_method_4_code 80 = .ok (.invokestatic 31, 3) := by decide +kernel
theorem em41_83 : decode prog_7_method_4_code 83 = .ok (.iload 7, 2) := by decide +kernel
theorem em41_85 : decode prog_7_method_4_code 85 = .ok (.isub, 1) := by decide +kernel
theorem em41_86 : decode prog_7_method_4_code 86 = .ok (.invokestatic 37, 3) := by decide +kernel
theorem em41_89 : decode prog_7_method_4_code 89 = .ok (.istore 8, 2) := by decide +kernel
theorem em41_91 : decode prog_7_method_4_code 91 = .ok (.iload 8, 2) := by decide +kernel
theorem em41_93 : decode prog_7_method_4_code 93 = .ok (.iload 5, 2) := by decide +kernel
theorem em41_95 : decode prog_7_method_4_code 95 = .ok (.if_icmp .ge 11, 3) := by decide +kernel
theorem em41_98 : decode prog_7_method_4_code 98 = .ok (.iload 8, 2) := by decide +kernel
theorem em41_100 : decode prog_7_method_4_code 100 = .ok (.istore 5, 2) := by decide +kernel
theorem em41_102 : decode prog_7_method_4_code 102 = .ok (.iload 6, 2) := by decide +kernel
theorem em41_104 : decode prog_7_method_4_code 104 = .ok (.istore 4, 2) := by decide +kernel
theorem em41_106 : decode prog_7_method_4_code 106 = .ok (.iinc 6 1, 3) := by decide +kernel
theorem em41_109 : decode prog_7_method_4_code 109 = .ok (.goto (-98), 3) := by decide +kernel
theorem em41_112 : decode prog_7_method_4_code 112 = .ok (.iload 4, 2) := by decide +kernel
theorem em41_114 : decode prog_7_method_4_code 114 = .ok (.ireturn, 1) := by decide +kernel
/-! CapitalCase$Prints.letterToAsk:(LCapitalCase$Town;II)I -/
noncomputable def zTr_42 : Nat → Option aF := bn 54 (bn 28 (bn 13 (bn 6 (bn 2 (bl 0 (a_const (-2) 2)) (bn 4 (bl 2 (a_istore 4 4)) (bl 4 (a_const 6 6)))) (bn 9 (bn 8 (bl 6 (a_istore 5 8)) (bl 8 (a_const 0 9))) (bn 11 (bl 9 (a_istore 6 11)) (bl 11 (a_iload 6 13))))) (bn 22 (bn 18 (bn 15 (bl 13 (a_const 8 15)) (bl 15 (a_icmp 3 112 18))) (bn 19 (bl 18 (a_iload 2 19)) (bl 19 (a_if 0 112 22)))) (bn 25 (bn 23 (bl 22 (a_const 0 23)) (bl 23 (a_istore 7 25))) (bn 26 (bl 25 (a_const 0 26)) (bl 26 (a_istore 8 28)))))) (bn 40 (bn 34 (bn 30 (bl 28 (a_iload 8 30)) (bn 31 (bl 30 (a_const 5 31)) (bl 31 (a_icmp 3 77 34)))) (bn 37 (bn 36 (bl 34 (a_iload 7 36)) (bl 36 (a_iload 2 37))) (bn 39 (bl 37 (a_iload 8 39)) (bl 39 (a_bin fany 40))))) (bn 46 (bn 42 (bn 41 (bl 40 (a_const 1 41)) (bl 41 (a_bin fand 42))) (bn 43 (bl 42 (a_const 1 43)) (bl 43 (a_icmp 1 67 46)))) (bn 50 (bn 47 (bl 46 (a_aload 1 47)) (bl 47 (a_getf zG0 zT0 8 2 50))) (bn 52 (bl 50 (a_iload 8 52)) (bl 52 (a_const 8 54))))))) (bn 80 (bn 64 (bn 58 (bn 55 (bl 54 (a_bin fmul 55)) (bn 57 (bl 55 (a_iload 6 57)) (bl 57 (a_bin fadd 58)))) (bn 60 (bn 59 (bl 58 (a_ald zG0 zT0 (false, false) ts0 59)) (bl 59 (a_iload 3 60))) (bn 63 (bl 60 (a_icmp 2 67 63)) (bl 63 (a_const 1 64))))) (bn 71 (bn 68 (bn 67 (bl 64 (a_goto 68)) (bl 67 (a_const 0 68))) (bn 69 (bl 68 (a_bin fadd 69)) (bl 69 (a_istore 7 71)))) (bn 77 (bn 74 (bl 71 (a_iinc 8 1 74)) (bl 74 (a_goto 28))) (bn 79 (bl 77 (a_iload 7 79)) (bl 79 (a_iload 2 80)))))) (bn 95 (bn 86 (bn 83 (bl 80 (a_inv zG0 zprot (false, false) zc_233 (zbd 233) (1, 0, 0) 1 83)) (bn 85 (bl 83 (a_iload 7 85)) (bl 85 (a_bin fsub 86)))) (bn 91 (bn 89 (bl 86 (a_math fmax 89)) (bl 89 (a_istore 8 91))) (bn 93 (bl 91 (a_iload 8 93)) (bl 93 (a_iload 5 95))))) (bn 104 (bn 100 (bn 98 (bl 95 (a_icmp 3 106 98)) (bl 98 (a_iload 8 100))) (bn 102 (bl 100 (a_istore 5 102)) (bl 102 (a_iload 6 104)))) (bn 109 (bn 106 (bl 104 (a_istore 4 106)) (bl 106 (a_iinc 6 1 109))) (bn 112 (bl 109 (a_goto 11)) (bl 112 (a_iload 4 114)))))))
set_option maxRecDepth 100000 in
set_option maxHeartbeats 4000000 in
theorem zTo_42 {pre : zPre} {post : zPost} (H : zTieC pre post) {d : Nat × Nat × Nat} (hd : zLe (1, 0, 0) d) : aTr zG0 zT0 zInv (false, false) PZ zbd pre post d prog_7_method_4_code "CapitalCase$Prints" zTr_42 := (xB_n (xB_n (xB_n (xB_n (xB_n (xB_l ⟨_, zs_bipush (v := (-2)) em41_0 (by decide +kernel), as_const (by decide +kernel)⟩) (xB_n (xB_l ⟨_, zs_istore em41_2, as_istore⟩) (xB_l ⟨_, zs_bipush (v := 6) em41_4 (by decide +kernel), as_const (by decide +kernel)⟩))) (xB_n (xB_n (xB_l ⟨_, zs_istore em41_6, as_istore⟩) (xB_l ⟨_, zs_iconst (v := 0) em41_8 (by decide +kernel), as_const (by decide +kernel)⟩)) (xB_n (xB_l ⟨_, zs_istore em41_9, as_istore⟩) (xB_l ⟨_, zs_iload em41_11, as_iload⟩)))) (xB_n (xB_n (xB_n (xB_l ⟨_, zs_bipush (v := 8) em41_13 (by decide +kernel), as_const (by decide +kernel)⟩) (xB_l ⟨_, zs_icmpge em41_15 (t := 112) (by decide), as_icmp⟩)) (xB_n (xB_l ⟨_, zs_iload_n em41_18, as_iload⟩) (xB_l ⟨_, zs_ifeq em41_19 (t := 112) (by decide), as_if⟩))) (xB_n (xB_n (xB_l ⟨_, zs_iconst (v := 0) em41_22 (by decide +kernel), as_const (by decide +kernel)⟩) (xB_l ⟨_, zs_istore em41_23, as_istore⟩)) (xB_n (xB_l ⟨_, zs_iconst (v := 0) em41_25 (by decide +kernel), as_const (by decide +kernel)⟩) (xB_l ⟨_, zs_istore em41_26, as_istore⟩))))) (xB_n (xB_n (xB_n (xB_l ⟨_, zs_iload em41_28, as_iload⟩) (xB_n (xB_l ⟨_, zs_iconst (v := 5) em41_30 (by decide +kernel), as_const (by decide +kernel)⟩) (xB_l ⟨_, zs_icmpge em41_31 (t := 77) (by decide), as_icmp⟩))) (xB_n (xB_n (xB_l ⟨_, zs_iload em41_34, as_iload⟩) (xB_l ⟨_, zs_iload_n em41_36, as_iload⟩)) (xB_n (xB_l ⟨_, zs_iload em41_37, as_iload⟩) (xB_l ⟨_, zs_ishr em41_39, as_bin fany_ok⟩)))) (xB_n (xB_n (xB_n (xB_l ⟨_, zs_iconst (v := 1) em41_40 (by decide +kernel), as_const (by decide +kernel)⟩) (xB_l ⟨_, zs_iand em41_41, as_bin fand_ok⟩)) (xB_n (xB_l ⟨_, zs_iconst (v := 1) em41_42 (by decide +kernel), as_const (by decide +kernel)⟩) (xB_l ⟨_, zs_icmpne em41_43 (t := 67) (by decide), as_icmp⟩))) (xB_n (xB_n (xB_l ⟨_, zs_aload_n em41_46, as_aload⟩) (xB_l ⟨_, zs_getf (T := TX8) (M := 10) (ci := 8) (j := 2) em41_47 rfl inX8 (by decide) wd_330 ((congrFun xo_6 26).trans rfl), as_getf zTie⟩)) (xB_n (xB_l ⟨_, zs_iload em41_50, as_iload⟩) (xB_l ⟨_, zs_bipush (v := 8) em41_52 (by decide +kernel), as_const (by decide +kernel)⟩)))))) (xB_n (xB_n (xB_n (xB_n (xB_l ⟨_, zs_imul em41_54, as_bin fmul_ok⟩) (xB_n (xB_l ⟨_, zs_iload em41_55, as_iload⟩) (xB_l ⟨_, zs_iadd em41_57, as_bin fadd_ok⟩))) (xB_n (xB_n (xB_l ⟨_, zs_iald em41_58, ag_iald⟩) (xB_l ⟨_, zs_iload_n em41_59, as_iload⟩)) (xB_n (xB_l ⟨_, zs_icmplt em41_60 (t := 67) (by decide), as_icmp⟩) (xB_l ⟨_, zs_iconst (v := 1) em41_63 (by decide +kernel), as_const (by decide +kernel)⟩)))) (xB_n (xB_n (xB_n (xB_l ⟨_, zs_goto em41_64 (t := 68) (by decide), as_goto⟩) (xB_l ⟨_, zs_iconst (v := 0) em41_67 (by decide +kernel), as_const (by decide +kernel)⟩)) (xB_n (xB_l ⟨_, zs_iadd em41_68, as_bin fadd_ok⟩) (xB_l ⟨_, zs_istore em41_69, as_istore⟩))) (xB_n (xB_n (xB_l ⟨_, zs_iinc (k := 1) em41_71 (by decide +kernel), as_iinc (by decide +kernel)⟩) (xB_l ⟨_, zs_goto em41_74 (t := 28) (by decide), as_goto⟩)) (xB_n (xB_l ⟨_, zs_iload em41_77, as_iload⟩) (xB_l ⟨_, zs_iload_n em41_79, as_iload⟩))))) (xB_n (xB_n (xB_n (xB_l ⟨_, zs_invS em41_80 zl_233 wd_1231 wd_1218 ((congrFun xo_6 31).trans rfl) xm_206, ag_inv H zh_233 hd (by decide)⟩) (xB_n (xB_l ⟨_, zs_iload em41_83, as_iload⟩) (xB_l ⟨_, zs_isub em41_85, as_bin fsub_ok⟩))) (xB_n (xB_n (xB_l ⟨_, zs_max em41_86 wd_1232 wd_713 wd_129 wz_max ((congrFun xo_6 37).trans rfl), as_math fmax_ok⟩) (xB_l ⟨_, zs_istore em41_89, as_istore⟩)) (xB_n (xB_l ⟨_, zs_iload em41_91, as_iload⟩) (xB_l ⟨_, zs_iload em41_93, as_iload⟩)))) (xB_n (xB_n (xB_n (xB_l ⟨_, zs_icmpge em41_95 (t := 106) (by decide), as_icmp⟩) (xB_l ⟨_, zs_iload em41_98, as_iload⟩)) (xB_n (xB_l ⟨_, zs_istore em41_100, as_istore⟩) (xB_l ⟨_, zs_iload em41_102, as_iload⟩))) (xB_n (xB_n (xB_l ⟨_, zs_istore em41_104, as_istore⟩) (xB_l ⟨_, zs_iinc (k := 1) em41_106 (by decide +kernel), as_iinc (by decide +kernel)⟩)) (xB_n (xB_l ⟨_, zs_goto em41_109 (t := 11) (by decide), as_goto⟩) (xB_l ⟨_, zs_iload em41_112, as_iload⟩)))))))
set_option maxRecDepth 100000 in
set_option maxHeartbeats 4000000 in
theorem zM_42 : zOKa 42 zc_42 := z_auto (cuts := [(11, ([(0, 0), ((-2147483648), 2147483647), (0, 999), ((-2), 7), ((-2147483648), 6), (0, 8)], [], [some (.inr (.inl (0, 44))), some (.inr (.inl (1, 1000))), some (.inl (1, 0)), some (.inl (2, 0)), some (.inl (3, 0)), some (.inl (4, 0)), some (.inl (5, 0)), none, none], [], [], (0, 0)), [(0, 4), (0, 5), (0, 6)], 62, [0, 0, 0, 0, 0, (-7)]), (28, ([(0, 0), ((-2147483648), 2147483647), (0, 999), ((-2), 7), ((-2147483648), 6), (0, 7), ((-2147483648), 2147483647), (0, 5)], [], [some (.inr (.inl (0, 44))), some (.inr (.inl (1, 1000))), some (.inl (1, 0)), some (.inl (2, 0)), some (.inl (3, 0)), some (.inl (4, 0)), some (.inl (5, 0)), some (.inl (6, 0)), some (.inl (7, 0))], [], [], (0, 0)), [(0, 4), (0, 5), (0, 6), (0, 7), (0, 8)], 61, [0, 0, 0, 0, 0, (-7), 0, (-1)])]) (rets := [(114, 1)]) (fuel := 1000) rfl rfl (by decide) (xrt_ok (xR_c (Or.inl ⟨rfl, em41_114, rfl⟩) (xR_n))) (fun _ _ H _ hd => zTo_42 H hd) (by decide +kernel)
theorem em42_0 : decode prog_7_method_2_code 0 = .ok (.aload_n 0, 1) := by decide +kernel
theorem em42_1 : decode prog_7_method_2_code 1 = .ok (.getfield 22, 3) := by decide +kernel
theorem em42_4 : decode prog_7_method_2_code 4 = .ok (.bipush 20, 2) := by decide +kernel
theorem em42_6 : decode prog_7_method_2_code 6 = .ok (.if_icmp .lt 5, 3) := by decide +kernel
theorem em42_9 : decode prog_7_method_2_code 9 = .ok (.iconst (-1), 1) := by decide +kernel
theorem em42_10 : decode prog_7_method_2_code 10 = .ok (.ireturn, 1) := by decide +kernel
theorem em42_11 : decode prog_7_method_2_code 11 = .ok (.aload_n 0, 1) := by decide +kernel
theorem em42_12 : decode prog_7_method_2_code 12 = .ok (.getfield 11, 3) := by decide +kernel
theorem em42_15 : decode prog_7_method_2_code 15 = .ok (.aload_n 0, 1) := by decide +kernel
theorem em42_16 : decode prog_7_method_2_code 16 = .ok (.getfield 22, 3) := by decide +kernel
theorem em42_19 : decode prog_7_method_2_code 19 = .ok (.iload_n 1, 1) := by decide +kernel
theorem em42_20 : decode prog_7_method_2_code 20 = .ok (.iastore, 1) := by decide +kernel
theorem em42_21 : decode prog_7_method_2_code 21 = .ok (.aload_n 0, 1) := by decide +kernel
theorem em42_22 : decode prog_7_method_2_code 22 = .ok (.getfield 15, 3) := by decide +kernel
theorem em42_25 : decode prog_7_method_2_code 25 = .ok (.aload_n 0, 1) := by decide +kernel
theorem em42_26 : decode prog_7_method_2_code 26 = .ok (.getfield 22, 3) := by decide +kernel
theorem em42_29 : decode prog_7_method_2_code 29 = .ok (.iload_n 2, 1) := by decide +kernel
theorem em42_30 : decode prog_7_method_2_code 30 = .ok (.iastore, 1) := by decide +kernel
theorem em42_31 : decode prog_7_method_2_code 31 = .ok (.aload_n 0, 1) := by decide +kernel
theorem em42_32 : decode prog_7_method_2_code 32 = .ok (.getfield 18, 3) := by decide +kernel
theorem em42_35 : decode prog_7_method_2_code 35 = .ok (.aload_n 0, 1) := by decide +kernel
theorem em42_36 : decode prog_7_method_2_code 36 = .ok (.getfield 22, 3) := by decide +kernel
theorem em42_39 : decode prog_7_method_2_code 39 = .ok (.iload_n 3, 1) := by decide +kernel
theorem em42_40 : decode prog_7_method_2_code 40 = .ok (.bastore, 1) := by decide +kernel
theorem em42_41 : decode prog_7_method_2_code 41 = .ok (.aload_n 0, 1) := by decide +kernel
theorem em42_42 : decode prog_7_method_2_code 42 = .ok (.dup, 1) := by decide +kernel
theorem em42_43 : decode prog_7_method_2_code 43 = .ok (.getfield 22, 3) := by decide +kernel
theorem em42_46 : decode prog_7_method_2_code 46 = .ok (.iconst 1, 1) := by decide +kernel
theorem em42_47 : decode prog_7_method_2_code 47 = .ok (.iadd, 1) := by decide +kernel
theorem em42_48 : decode prog_7_method_2_code 48 = .ok (.putfield 22, 3) := by decide +kernel
theorem em42_51 : decode prog_7_method_2_code 51 = .ok (.aload_n 0, 1) := by decide +kernel
theorem em42_52 : decode prog_7_method_2_code 52 = .ok (.getfield 22, 3) := by decide +kernel
theorem em42_55 : decode prog_7_method_2_code 55 = .ok (.iconst 1, 1) := by decide +kernel
theorem em42_56 : decode prog_7_method_2_code 56 = .ok (.isub, 1) := by decide +kernel
theorem em42_57 : decode prog_7_method_2_code 57 = .ok (.ireturn, 1) := by decide +kernel
/-! CapitalCase$Prints.note:(IIZ)I -/
noncomputable def zTr_43 : Nat → Option aF := bn 30 (bn 16 (bn 9 (bn 4 (bn 1 (bl 0 (a_aload 0 1)) (bl 1 (a_getf zG0 zT0 5 3 4))) (bn 6 (bl 4 (a_const 20 6)) (bl 6 (a_icmp 2 11 9)))) (bn 12 (bn 11 (bl 9 (a_const (-1) 10)) (bl 11 (a_aload 0 12))) (bn 15 (bl 12 (a_getf zG0 zT0 5 0 15)) (bl 15 (a_aload 0 16))))) (bn 22 (bn 20 (bn 19 (bl 16 (a_getf zG0 zT0 5 3 19)) (bl 19 (a_iload 1 20))) (bn 21 (bl 20 (a_ast zG0 zT0 ts0 21)) (bl 21 (a_aload 0 22)))) (bn 26 (bn 25 (bl 22 (a_getf zG0 zT0 5 1 25)) (bl 25 (a_aload 0 26))) (bn 29 (bl 26 (a_getf zG0 zT0 5 3 29)) (bl 29 (a_iload 2 30)))))) (bn 42 (bn 36 (bn 32 (bn 31 (bl 30 (a_ast zG0 zT0 ts0 31)) (bl 31 (a_aload 0 32))) (bn 35 (bl 32 (a_getf zG0 zT0 5 2 35)) (bl 35 (a_aload 0 36)))) (bn 40 (bn 39 (bl 36 (a_getf zG0 zT0 5 3 39)) (bl 39 (a_iload 3 40))) (bn 41 (bl 40 (a_ast zG0 zT0 ts12 41)) (bl 41 (a_aload 0 42))))) (bn 48 (bn 46 (bn 43 (bl 42 (a_dup 43)) (bl 43 (a_getf zG0 zT0 5 3 46))) (bn 47 (bl 46 (a_const 1 47)) (bl 47 (a_bin fadd 48)))) (bn 52 (bn 51 (bl 48 (a_puti zG0 zT0 zprot 5 3 0 51)) (bl 51 (a_aload 0 52))) (bn 55 (bl 52 (a_getf zG0 zT0 5 3 55)) (bn 56 (bl 55 (a_const 1 56)) (bl 56 (a_bin fsub 57)))))))
set_option maxRecDepth 100000 in
set_option maxHeartbeats 4000000 in
theorem zTo_43 {pre : zPre} {post : zPost} (H : zTieC pre post) {d : Nat × Nat × Nat} (hd : zLe (0, 0, 0) d) : aTr zG0 zT0 zInv (false, false) PZ zbd pre post d prog_7_method_2_code "CapitalCase$Prints" zTr_43 := (xB_n (xB_n (xB_n (xB_n (xB_n (xB_l ⟨_, zs_aload_n em42_0, as_aload⟩) (xB_l ⟨_, zs_getf (T := TX5) (M := 4) (ci := 5) (j := 3) em42_1 rfl inX5 (by decide) wd_404 ((congrFun xo_6 22).trans rfl), as_getf zTie⟩)) (xB_n (xB_l ⟨_, zs_bipush (v := 20) em42_4 (by decide +kernel), as_const (by decide +kernel)⟩) (xB_l ⟨_, zs_icmplt em42_6 (t := 11) (by decide), as_icmp⟩))) (xB_n (xB_n (xB_l ⟨_, zs_iconst (v := (-1)) em42_9 (by decide +kernel), as_const (by decide +kernel)⟩) (xB_l ⟨_, zs_aload_n em42_11, as_aload⟩)) (xB_n (xB_l ⟨_, zs_getf (T := TX5) (M := 4) (ci := 5) (j := 0) em42_12 rfl inX5 (by decide) wd_401 ((congrFun xo_6 11).trans rfl), as_getf zTie⟩) (xB_l ⟨_, zs_aload_n em42_15, as_aload⟩)))) (xB_n (xB_n (xB_n (xB_l ⟨_, zs_getf (T := TX5) (M := 4) (ci := 5) (j := 3) em42_16 rfl inX5 (by decide) wd_404 ((congrFun xo_6 22).trans rfl), as_getf zTie⟩) (xB_l ⟨_, zs_iload_n em42_19, as_iload⟩)) (xB_n (xB_l ⟨_, zs_iast zInj0 em42_20, as_iast zTie⟩) (xB_l ⟨_, zs_aload_n em42_21, as_aload⟩))) (xB_n (xB_n (xB_l ⟨_, zs_getf (T := TX5) (M := 4) (ci := 5) (j := 1) em42_22 rfl inX5 (by decide) wd_402 ((congrFun xo_6 15).trans rfl), as_getf zTie⟩) (xB_l ⟨_, zs_aload_n em42_25, as_aload⟩)) (xB_n (xB_l ⟨_, zs_getf (T := TX5) (M := 4) (ci := 5) (j := 3) em42_26 rfl inX5 (by decide) wd_404 ((congrFun xo_6 22).trans rfl), as_getf zTie⟩) (xB_l ⟨_, zs_iload_n em42_29, as_iload⟩))))) (xB_n (xB_n (xB_n (xB_n (xB_l ⟨_, zs_iast zInj0 em42_30, as_iast zTie⟩) (xB_l ⟨_, zs_aload_n em42_31, as_aload⟩)) (xB_n (xB_l ⟨_, zs_getf (T := TX5) (M := 4) (ci := 5) (j := 2) em42_32 rfl inX5 (by decide) wd_403 ((congrFun xo_6 18).trans rfl), as_getf zTie⟩) (xB_l ⟨_, zs_aload_n em42_35, as_aload⟩))) (xB_n (xB_n (xB_l ⟨_, zs_getf (T := TX5) (M := 4) (ci := 5) (j := 3) em42_36 rfl inX5 (by decide) wd_404 ((congrFun xo_6 22).trans rfl), as_getf zTie⟩) (xB_l ⟨_, zs_iload_n em42_39, as_iload⟩)) (xB_n (xB_l ⟨_, zs_bast zInj0 em42_40, as_bast zTie⟩) (xB_l ⟨_, zs_aload_n em42_41, as_aload⟩)))) (xB_n (xB_n (xB_n (xB_l ⟨_, zs_dup em42_42, as_dup⟩) (xB_l ⟨_, zs_getf (T := TX5) (M := 4) (ci := 5) (j := 3) em42_43 rfl inX5 (by decide) wd_404 ((congrFun xo_6 22).trans rfl), as_getf zTie⟩)) (xB_n (xB_l ⟨_, zs_iconst (v := 1) em42_46 (by decide +kernel), as_const (by decide +kernel)⟩) (xB_l ⟨_, zs_iadd em42_47, as_bin fadd_ok⟩))) (xB_n (xB_n (xB_l ⟨_, zs_puti zInj0 (T := TX5) (M := 4) (ty := tyX5) (ci := 5) (j := 3) (kd := 0) em42_48 rfl inX5 tyX5_ok nmX5 (by decide) wd_404 (Or.inl ⟨rfl, rfl⟩) rfl ((congrFun xo_6 22).trans rfl), ag_puti0⟩) (xB_l ⟨_, zs_aload_n em42_51, as_aload⟩)) (xB_n (xB_l ⟨_, zs_getf (T := TX5) (M := 4) (ci := 5) (j := 3) em42_52 rfl inX5 (by decide) wd_404 ((congrFun xo_6 22).trans rfl), as_getf zTie⟩) (xB_n (xB_l ⟨_, zs_iconst (v := 1) em42_55 (by decide +kernel), as_const (by decide +kernel)⟩) (xB_l ⟨_, zs_isub em42_56, as_bin fsub_ok⟩)))))))
set_option maxRecDepth 100000 in
set_option maxHeartbeats 4000000 in
theorem zM_43 : zOKa 43 zc_43 := z_auto (cuts := []) (rets := [(10, 1), (57, 1)]) (fuel := 1000) rfl rfl (by decide) (xrt_ok (xR_c (Or.inl ⟨rfl, em42_10, rfl⟩) (xR_c (Or.inl ⟨rfl, em42_57, rfl⟩) (xR_n)))) (fun _ _ H _ hd => zTo_43 H hd) (by decide +kernel)
theorem em45_0 : decode prog_8_method_3_code 0 = .ok (.aload_n 0, 1) := by decide +kernel
theorem em45_1 : decode prog_8_method_3_code 1 = .ok (.getfield 32, 3) := by decide +kernel
theorem em45_4 : decode prog_8_method_3_code 4 = .ok (.iload_n 1, 1) := by decide +kernel
theorem em45_5 : decode prog_8_method_3_code 5 = .ok (.aload_n 0, 1) := by decide +kernel
theorem em45_6 : decode prog_8_method_3_code 6 = .ok (.getfield 66, 3) := by decide +kernel
theorem em45_9 : decode prog_8_method_3_code 9 = .ok (.iastore, 1) := by decide +kernel
theorem em45_10 : decode prog_8_method_3_code 10 = .ok (.aload_n 0, 1) := by decide +kernel
theorem em45_11 : decode prog_8_method_3_code 11 = .ok (.iload_n 2, 1) := by decide +kernel
theorem em45_12 : decode prog_8_method_3_code 12 = .ok (.iload_n 3, 1) := by decide +kernel
theorem em45_13 : decode prog_8_method_3_code 13 = .ok (.invokevirtual 75, 3) := by decide +kernel
theorem em45_16 : decode prog_8_method_3_code 16 = .ok (.aload_n 0, 1) := by decide +kernel
theorem em45_17 : decode prog_8_method_3_code 17 = .ok (.bipush 7, 2) := by decide +kernel
theorem em45_19 : decode prog_8_method_3_code 19 = .ok (.iconst 0, 1) := by decide +kernel
theorem em45_20 : decode prog_8_method_3_code 20 = .ok (.invokevirtual 75, 3) := by decide +kernel
theorem em45_23 : decode prog_8_method_3_code 23 = .ok (.return_, 1) := by decide +kernel
/-! CapitalCase$Script.layDown:(III)V -/
noncomputable def zTr_48 : Nat → Option aF := bn 11 (bn 5 (bn 1 (bl 0 (a_aload 0 1)) (bn 4 (bl 1 (a_getf zG0 zT0 6 11 4)) (bl 4 (a_iload 1 5)))) (bn 9 (bn 6 (bl 5 (a_aload 0 6)) (bl 6 (a_getf zG0 zT0 6 14 9))) (bn 10 (bl 9 (a_ast zG0 zT0 ts0 10)) (bl 10 (a_aload 0 11))))) (bn 16 (bn 12 (bl 11 (a_iload 2 12)) (bn 13 (bl 12 (a_iload 3 13)) (bl 13 (a_invV zG0 zprot (true, true) zc_44 (zbd 44) (2, 0, 0) 6 3 16)))) (bn 19 (bn 17 (bl 16 (a_aload 0 17)) (bl 17 (a_const 7 19))) (bn 20 (bl 19 (a_const 0 20)) (bl 20 (a_invV zG0 zprot (true, true) zc_46 (zbd 46) (2, 0, 0) 6 3 23)))))
set_option maxRecDepth 100000 in
set_option maxHeartbeats 4000000 in
theorem zTo_48 {pre : zPre} {post : zPost} (H : zTieC pre post) {d : Nat × Nat × Nat} (hd : zLe (2, 0, 0) d) : aTr zG0 zT0 zInv (true, true) PZ zbd pre post d prog_8_method_3_code "CapitalCase$Script" zTr_48 := (xB_n (xB_n (xB_n (xB_l ⟨_, zs_aload_n em45_0, as_aload⟩) (xB_n (xB_l ⟨_, zs_getf (T := TX6) (M := 15) (ci := 6) (j := 11) em45_1 rfl inX6 (by decide) wd_211 ((congrFun xo_7 32).trans rfl), as_getf zTie⟩) (xB_l ⟨_, zs_iload_n em45_4, as_iload⟩))) (xB_n (xB_n (xB_l ⟨_, zs_aload_n em45_5, as_aload⟩) (xB_l ⟨_, zs_getf (T := TX6) (M := 15) (ci := 6) (j := 14) em45_6 rfl inX6 (by decide) wd_218 ((congrFun xo_7 66).trans rfl), as_getf zTie⟩)) (xB_n (xB_l ⟨_, zs_iast zInj0 em45_9, as_iast zTie⟩) (xB_l ⟨_, zs_aload_n em45_10, as_aload⟩)))) (xB_n (xB_n (xB_l ⟨_, zs_iload_n em45_11, as_iload⟩) (xB_n (xB_l ⟨_, zs_iload_n em45_12, as_iload⟩) (xB_l ⟨_, zs_invV (T := TX6) em45_13 zl_44 rfl wd_158 wd_159 wd_160 ((congrFun xo_7 75).trans rfl) xm_43, ag_invV H zh_44 hd (by decide)⟩))) (xB_n (xB_n (xB_l ⟨_, zs_aload_n em45_16, as_aload⟩) (xB_l ⟨_, zs_bipush (v := 7) em45_17 (by decide +kernel), as_const (by decide +kernel)⟩)) (xB_n (xB_l ⟨_, zs_iconst (v := 0) em45_19 (by decide +kernel), as_const (by decide +kernel)⟩) (xB_l ⟨_, zs_invV (T := TX6) em45_20 zl_46 rfl wd_158 wd_159 wd_160 ((congrFun xo_7 75).trans rfl) xm_43, ag_invV H zh_46 hd (by decide)⟩)))))
set_option maxRecDepth 100000 in
set_option maxHeartbeats 4000000 in
theorem zM_48 : zOKa 48 zc_48 := z_auto (cuts := []) (rets := [(23, 3)]) (fuel := 1000) rfl rfl (by decide) (xrt_ok (xR_c (Or.inr (Or.inr (Or.inl ⟨rfl, em45_23, rfl⟩))) (xR_n))) (fun _ _ H _ hd => zTo_48 H hd) (by decide +kernel)
/-! CapitalCase$Script.layDown:(III)V -/
noncomputable def zTr_49 : Nat → Option aF := bn 11 (bn 5 (bn 1 (bl 0 (a_aload 0 1)) (bn 4 (bl 1 (a_getf zG0 zT0 6 11 4)) (bl 4 (a_iload 1 5)))) (bn 9 (bn 6 (bl 5 (a_aload 0 6)) (bl 6 (a_getf zG0 zT0 6 14 9))) (bn 10 (bl 9 (a_ast zG0 zT0 ts0 10)) (bl 10 (a_aload 0 11))))) (bn 16 (bn 12 (bl 11 (a_iload 2 12)) (bn 13 (bl 12 (a_iload 3 13)) (bl 13 (a_invV zG0 zprot (true, true) zc_45 (zbd 45) (2, 0, 0) 6 3 16)))) (bn 19 (bn 17 (bl 16 (a_aload 0 17)) (bl 17 (a_const 7 19))) (bn 20 (bl 19 (a_const 0 20)) (bl 20 (a_invV zG0 zprot (true, true) zc_46 (zbd 46) (2, 0, 0) 6 3 23)))))
set_option maxRecDepth 100000 in
set_option maxHeartbeats 4000000 in
theorem zTo_49 {pre : zPre} {post : zPost} (H : zTieC pre post) {d : Nat × Nat × Nat} (hd : zLe (2, 0, 0) d) : aTr zG0 zT0 zInv (true, true) PZ zbd pre post d prog_8_method_3_code "CapitalCase$Script" zTr_49 := (xB_n (xB_n (xB_n (xB_l ⟨_, zs_aload_n em45_0, as_aload⟩) (xB_n (xB_l ⟨_, zs_getf (T := TX6) (M := 15) (ci := 6) (j := 11) em45_1 rfl inX6 (by decide) wd_211 ((congrFun xo_7 32).trans rfl), as_getf zTie⟩) (xB_l ⟨_, zs_iload_n em45_4, as_iload⟩))) (xB_n (xB_n (xB_l ⟨_, zs_aload_n em45_5, as_aload⟩) (xB_l ⟨_, zs_getf (T := TX6) (M := 15) (ci := 6) (j := 14) em45_6 rfl inX6 (by decide) wd_218 ((congrFun xo_7 66).trans rfl), as_getf zTie⟩)) (xB_n (xB_l ⟨_, zs_iast zInj0 em45_9, as_iast zTie⟩) (xB_l ⟨_, zs_aload_n em45_10, as_aload⟩)))) (xB_n (xB_n (xB_l ⟨_, zs_iload_n em45_11, as_iload⟩) (xB_n (xB_l ⟨_, zs_iload_n em45_12, as_iload⟩) (xB_l ⟨_, zs_invV (T := TX6) em45_13 zl_45 rfl wd_158 wd_159 wd_160 ((congrFun xo_7 75).trans rfl) xm_43, ag_invV H zh_45 hd (by decide)⟩))) (xB_n (xB_n (xB_l ⟨_, zs_aload_n em45_16, as_aload⟩) (xB_l ⟨_, zs_bipush (v := 7) em45_17 (by decide +kernel), as_const (by decide +kernel)⟩)) (xB_n (xB_l ⟨_, zs_iconst (v := 0) em45_19 (by decide +kernel), as_const (by decide +kernel)⟩) (xB_l ⟨_, zs_invV (T := TX6) em45_20 zl_46 rfl wd_158 wd_159 wd_160 ((congrFun xo_7 75).trans rfl) xm_43, ag_invV H zh_46 hd (by decide)⟩)))))
set_option maxRecDepth 100000 in
set_option maxHeartbeats 4000000 in
theorem zM_49 : zOKa 49 zc_49 := z_auto (cuts := []) (rets := [(23, 3)]) (fuel := 1000) rfl rfl (by decide) (xrt_ok (xR_c (Or.inr (Or.inr (Or.inl ⟨rfl, em45_23, rfl⟩))) (xR_n))) (fun _ _ H _ hd => zTo_49 H hd) (by decide +kernel)
theorem em46_0 : decode prog_8_method_7_code 0 = .ok (.iconst 0, 1) := by decide +kernel
theorem em46_1 : decode prog_8_method_7_code 1 = .ok (.istore_n 2, 1) := by decide +kernel
theorem em46_2 : decode prog_8_method_7_code 2 = .ok (.iconst 0, 1) := by decide +kernel
theorem em46_3 : decode prog_8_method_7_code 3 = .ok (.istore_n 3, 1) := by decide +kernel
theorem em46_4 : decode prog_8_method_7_code 4 = .ok (.iload_n 3, 1) := by decide +kernel
theorem em46_5 : decode prog_8_method_7_code 5 = .ok (.bipush 8, 2) := by decide +kernel
theorem em46_7 : decode prog_8_method_7_code 7 = .ok (.if_icmp .ge 29, 3) := by decide +kernel
theorem em46_10 : decode prog_8_method_7_code 10 = .ok (.aload_n 0, 1) := by decide +kernel
theorem em46_11 : decode prog_8_method_7_code 11 = .ok (.getfield 29, 3) := by decide +kernel
theorem em46_14 : decode prog_8_method_7_code 14 = .ok (.iload_n 1, 1) := by decide +kernel
theorem em46_15 : decode prog_8_method_7_code 15 = .ok (.bipush 8, 2) := by decide +kernel
theorem em46_17 : decode prog_8_method_7_code 17 = .ok (.imul, 1) := by decide +kernel
theorem em46_18 : decode prog_8_method_7_code 18 = .ok (.iload_n 3, 1) := by decide +kernel
theorem em46_19 : decode prog_8_method_7_code 19 = .ok (.iadd, 1) := by decide +kernel
theorem em46_20 : decode prog_8_method_7_code 20 = .ok (.iaload, 1) := by decide +kernel
theorem em46_21 : decode prog_8_method_7_code 21 = .ok (.ifCond .le 9, 3) := by decide +kernel
theorem em46_24 : decode prog_8_method_7_code 24 = .ok (.iload_n 2, 1) := by decide +kernel
theorem em46_25 : decode prog_8_method_7_code 25 = .ok (.iconst 1, 1) := by decide +kernel
theorem em46_26 : decode prog_8_method_7_code 26 = .ok (.iload_n 3, 1) := by decide +kernel
theorem em46_27 : decode prog_8_method_7_code 27 = .ok (.ishl, 1) := by decide +kernel
theorem em46_28 : decode prog_8_method_7_code 28 = .ok (.ior, 1) := by decide +kernel
theorem em46_29 : decode prog_8_method_7_code 29 = .ok (.istore_n 2, 1) := by decide +kernel
theorem em46_30 : decode prog_8_method_7_code 30 = .ok (.iinc 3 1, 3) := by decide +kernel
theorem em46_33 : decode prog_8_method_7_code 33 = .ok (.goto (-29), 3) := by decide +kernel
theorem em46_36 : decode prog_8_method_7_code 36 = .ok (.iload_n 2, 1) := by decide +kernel
theorem em46_37 : decode prog_8_method_7_code 37 = .ok (.ireturn, 1) := by decide +kernel
/-! CapitalCase$Script.lettersOf:(I)I -/
noncomputable def zTr_50 : Nat → Option aF := bn 18 (bn 7 (bn 3 (bn 1 (bl 0 (a_const 0 1)) (bn 2 (bl 1 (a_istore 2 2)) (bl 2 (a_const 0 3)))) (bn 4 (bl 3 (a_istore 3 4)) (bn 5 (bl 4 (a_iload 3 5)) (bl 5 (a_const 8 7))))) (bn 14 (bn 10 (bl 7 (a_icmp 3 36 10)) (bn 11 (bl 10 (a_aload 0 11)) (bl 11 (a_getf zG0 zT0 6 10 14)))) (bn 15 (bl 14 (a_iload 1 15)) (bn 17 (bl 15 (a_const 8 17)) (bl 17 (a_bin fmul 18)))))) (bn 26 (bn 21 (bn 19 (bl 18 (a_iload 3 19)) (bn 20 (bl 19 (a_bin fadd 20)) (bl 20 (a_ald zG0 zT0 (false, false) ts0 21)))) (bn 24 (bl 21 (a_if 5 30 24)) (bn 25 (bl 24 (a_iload 2 25)) (bl 25 (a_const 1 26))))) (bn 29 (bn 27 (bl 26 (a_iload 3 27)) (bn 28 (bl 27 (a_bin fshl 28)) (bl 28 (a_bin fany 29)))) (bn 33 (bn 30 (bl 29 (a_istore 2 30)) (bl 30 (a_iinc 3 1 33))) (bn 36 (bl 33 (a_goto 4)) (bl 36 (a_iload 2 37))))))
set_option maxRecDepth 100000 in
set_option maxHeartbeats 4000000 in
theorem zTo_50 {pre : zPre} {post : zPost} (H : zTieC pre post) {d : Nat × Nat × Nat} (hd : zLe (0, 0, 0) d) : aTr zG0 zT0 zInv (false, false) PZ zbd pre post d prog_8_method_7_code "CapitalCase$Script" zTr_50 := (xB_n (xB_n (xB_n (xB_n (xB_l ⟨_, zs_iconst (v := 0) em46_0 (by decide +kernel), as_const (by decide +kernel)⟩) (xB_n (xB_l ⟨_, zs_istore_n em46_1, as_istore⟩) (xB_l ⟨_, zs_iconst (v := 0) em46_2 (by decide +kernel), as_const (by decide +kernel)⟩))) (xB_n (xB_l ⟨_, zs_istore_n em46_3, as_istore⟩) (xB_n (xB_l ⟨_, zs_iload_n em46_4, as_iload⟩) (xB_l ⟨_, zs_bipush (v := 8) em46_5 (by decide +kernel), as_const (by decide +kernel)⟩)))) (xB_n (xB_n (xB_l ⟨_, zs_icmpge em46_7 (t := 36) (by decide), as_icmp⟩) (xB_n (xB_l ⟨_, zs_aload_n em46_10, as_aload⟩) (xB_l ⟨_, zs_getf (T := TX6) (M := 15) (ci := 6) (j := 10) em46_11 rfl inX6 (by decide) wd_207 ((congrFun xo_7 29).trans rfl), as_getf zTie⟩))) (xB_n (xB_l ⟨_, zs_iload_n em46_14, as_iload⟩) (xB_n (xB_l ⟨_, zs_bipush (v := 8) em46_15 (by decide +kernel), as_const (by decide +kernel)⟩) (xB_l ⟨_, zs_imul em46_17, as_bin fmul_ok⟩))))) (xB_n (xB_n (xB_n (xB_l ⟨_, zs_iload_n em46_18, as_iload⟩) (xB_n (xB_l ⟨_, zs_iadd em46_19, as_bin fadd_ok⟩) (xB_l ⟨_, zs_iald em46_20, ag_iald⟩))) (xB_n (xB_l ⟨_, zs_ifle em46_21 (t := 30) (by decide), as_if⟩) (xB_n (xB_l ⟨_, zs_iload_n em46_24, as_iload⟩) (xB_l ⟨_, zs_iconst (v := 1) em46_25 (by decide +kernel), as_const (by decide +kernel)⟩)))) (xB_n (xB_n (xB_l ⟨_, zs_iload_n em46_26, as_iload⟩) (xB_n (xB_l ⟨_, zs_ishl em46_27, as_bin fshl_ok⟩) (xB_l ⟨_, zs_ior em46_28, as_bin fany_ok⟩))) (xB_n (xB_n (xB_l ⟨_, zs_istore_n em46_29, as_istore⟩) (xB_l ⟨_, zs_iinc (k := 1) em46_30 (by decide +kernel), as_iinc (by decide +kernel)⟩)) (xB_n (xB_l ⟨_, zs_goto em46_33 (t := 4) (by decide), as_goto⟩) (xB_l ⟨_, zs_iload_n em46_36, as_iload⟩))))))
set_option maxRecDepth 100000 in
set_option maxHeartbeats 4000000 in
theorem zM_50 : zOKa 50 zc_50 := z_auto (cuts := [(4, ([(0, 0), (0, 6), ((-2147483648), 2147483647), (0, 8)], [], [some (.inr (.inl (0, 2))), some (.inl (1, 0)), some (.inl (2, 0)), some (.inl (3, 0))], [], [], (0, 0)), [(0, 2), (0, 3)], 8, [0, 0, 0, (-1)])]) (rets := [(37, 1)]) (fuel := 1000) rfl rfl (by decide) (xrt_ok (xR_c (Or.inl ⟨rfl, em46_37, rfl⟩) (xR_n))) (fun _ _ H _ hd => zTo_50 H hd) (by decide +kernel)
theorem em47_0 : decode prog_8_method_2_code 0 = .ok (.aload_n 0, 1) := by decide +kernel
theorem em47_1 : decode prog_8_method_2_code 1 = .ok (.iconst 0, 1) := by decide +kernel
theorem em47_2 : decode prog_8_method_2_code 2 = .ok (.putfield 44, 3) := by decide +kernel
theorem em47_5 : decode prog_8_method_2_code 5 = .ok (.aload_n 0, 1) := by decide +kernel
theorem em47_6 : decode prog_8_method_2_code 6 = .ok (.iconst 0, 1) := by decide +kernel
theorem em47_7 : decode prog_8_method_2_code 7 = .ok (.putfield 48, 3) := by decide +kernel
theorem em47_10 : decode prog_8_method_2_code 10 = .ok (.aload_n 0, 1) := by decide +kernel
theorem em47_11 : decode prog_8_method_2_code 11 = .ok (.bipush 20, 2) := by decide +kernel
theorem em47_13 : decode prog_8_method_2_code 13 = .ok (.putfield 51, 3) := by decide +kernel
theorem em47_16 : decode prog_8_method_2_code 16 = .ok (.aload_n 0, 1) := by decide +kernel
theorem em47_17 : decode prog_8_method_2_code 17 = .ok (.iconst 0, 1) := by decide +kernel
theorem em47_18 : decode prog_8_method_2_code 18 = .ok (.putfield 54, 3) := by decide +kernel
theorem em47_21 : decode prog_8_method_2_code 21 = .ok (.aload_n 0, 1) := by decide +kernel
theorem em47_22 : decode prog_8_method_2_code 22 = .ok (.iconst 0, 1) := by decide +kernel
theorem em47_23 : decode prog_8_method_2_code 23 = .ok (.putfield 57, 3) := by decide +kernel
theorem em47_26 : decode prog_8_method_2_code 26 = .ok (.aload_n 0, 1) := by decide +kernel
theorem em47_27 : decode prog_8_method_2_code 27 = .ok (.getfield 13, 3) := by decide +kernel
theorem em47_30 : decode prog_8_method_2_code 30 = .ok (.iconst 0, 1) := by decide +kernel
theorem em47_31 : decode prog_8_method_2_code 31 = .ok (.invokestatic 60, 3) := by decide +kernel
theorem em47_34 : decode prog_8_method_2_code 34 = .ok (.aload_n 0, 1) := by decide +kernel
theorem em47_35 : decode prog_8_method_2_code 35 = .ok (.getfield 29, 3) := by decide +kernel
theorem em47_38 : decode prog_8_method_2_code 38 = .ok (.iconst 0, 1) := by decide +kernel
theorem em47_39 : decode prog_8_method_2_code 39 = .ok (.invokestatic 60, 3) := by decide +kernel
theorem em47_42 : decode prog_8_method_2_code 42 = .ok (.aload_n 0, 1) := by decide +kernel
theorem em47_43 : decode prog_8_method_2_code 43 = .ok (.iconst 0, 1) := by decide +kernel
theorem em47_44 : decode prog_8_method_2_code 44 = .ok (.putfield 66, 3) := by decide +kernel
theorem em47_47 : decode prog_8_method_2_code 47 = .ok (.aload_n 0, 1) := by decide +kernel
theorem em47_48 : decode prog_8_method_2_code 48 = .ok (.iconst 0, 1) := by decide +kernel
theorem em47_49 : decode prog_8_method_2_code 49 = .ok (.iconst 0, 1) := by decide +kernel
theorem em47_50 : decode prog_8_method_2_code 50 = .ok (.iconst 1, 1) := by decide +kernel
theorem em47_51 : decode prog_8_method_2_code 51 = .ok (.invokevirtual 69, 3) := by decide +kernel
theorem em47_54 : decode prog_8_method_2_code 54 = .ok (.aload_n 0, 1) := by decide +kernel
theorem em47_55 : decode prog_8_method_2_code 55 = .ok (.iconst 1, 1) := by decide +kernel
theorem em47_56 : decode prog_8_method_2_code 56 = .ok (.iconst 0, 1) := by decide +kernel
theorem em47_57 : decode prog_8_method_2_code 57 = .ok (.iconst 0, 1) := by decide +kernel
theorem em47_58 : decode prog_8_method_2_code 58 = .ok (.invokevirtual 69, 3) := by decide +kernel
theorem em47_61 : decode prog_8_method_2_code 61 = .ok (.aload_n 0, 1) := by decide +kernel
theorem em47_62 : decode prog_8_method_2_code 62 = .ok (.iconst 2, 1) := by decide +kernel
theorem em47_63 : decode prog_8_method_2_code 63 = .ok (.iconst 0, 1) := by decide +kernel
theorem em47_64 : decode prog_8_method_2_code 64 = .ok (.iconst 1, 1) := by decide +kernel
theorem em47_65 : decode prog_8_method_2_code 65 = .ok (.invokevirtual 69, 3) := by decide +kernel
theorem em47_68 : decode prog_8_method_2_code 68 = .ok (.aload_n 0, 1) := by decide +kernel
theorem em47_69 : decode prog_8_method_2_code 69 = .ok (.iconst 3, 1) := by decide +kernel
theorem em47_70 : decode prog_8_method_2_code 70 = .ok (.iconst 1, 1) := by decide +kernel
theorem em47_71 : decode prog_8_method_2_code 71 = .ok (.iconst 0, 1) := by decide +kernel
theorem em47_72 : decode prog_8_method_2_code 72 = .ok (.invokevirtual 69, 3) := by decide +kernel
theorem em47_75 : decode prog_8_method_2_code 75 = .ok (.return_, 1) := by decide +kernel
/-! CapitalCase$Script.wipe:()V -/
noncomputable def zTr_51 : Nat → Option aF := bn 42 (bn 18 (bn 7 (bn 2 (bn 1 (bl 0 (a_aload 0 1)) (bl 1 (a_const 0 2))) (bn 5 (bl 2 (a_puti zG0 zT0 zprot 6 0 0 5)) (bn 6 (bl 5 (a_aload 0 6)) (bl 6 (a_const 0 7))))) (bn 13 (bn 10 (bl 7 (a_puti zG0 zT0 zprot 6 1 0 10)) (bn 11 (bl 10 (a_aload 0 11)) (bl 11 (a_const 20 13)))) (bn 16 (bl 13 (a_puti zG0 zT0 zprot 6 4 0 16)) (bn 17 (bl 16 (a_aload 0 17)) (bl 17 (a_const 0 18)))))) (bn 30 (bn 23 (bn 21 (bl 18 (a_puti zG0 zT0 zprot 6 2 0 21)) (bn 22 (bl 21 (a_aload 0 22)) (bl 22 (a_const 0 23)))) (bn 26 (bl 23 (a_puti zG0 zT0 zprot 6 3 0 26)) (bn 27 (bl 26 (a_aload 0 27)) (bl 27 (a_getf zG0 zT0 6 5 30))))) (bn 35 (bn 31 (bl 30 (a_const 0 31)) (bn 34 (bl 31 (a_inv zG0 zprot (true, true) zc_237 (zbd 237) (3, 0, 0) 2 34)) (bl 34 (a_aload 0 35)))) (bn 38 (bl 35 (a_getf zG0 zT0 6 10 38)) (bn 39 (bl 38 (a_const 0 39)) (bl 39 (a_inv zG0 zprot (true, true) zc_238 (zbd 238) (3, 0, 0) 2 42))))))) (bn 57 (bn 49 (bn 44 (bn 43 (bl 42 (a_aload 0 43)) (bl 43 (a_const 0 44))) (bn 47 (bl 44 (a_puti zG0 zT0 zprot 6 14 0 47)) (bn 48 (bl 47 (a_aload 0 48)) (bl 48 (a_const 0 49))))) (bn 54 (bn 50 (bl 49 (a_const 0 50)) (bn 51 (bl 50 (a_const 1 51)) (bl 51 (a_invV zG0 zprot (true, true) zc_48 (zbd 48) (3, 0, 0) 6 4 54)))) (bn 55 (bl 54 (a_aload 0 55)) (bn 56 (bl 55 (a_const 1 56)) (bl 56 (a_const 0 57)))))) (bn 65 (bn 62 (bn 58 (bl 57 (a_const 0 58)) (bn 61 (bl 58 (a_invV zG0 zprot (true, true) zc_48 (zbd 48) (3, 0, 0) 6 4 61)) (bl 61 (a_aload 0 62)))) (bn 63 (bl 62 (a_const 2 63)) (bn 64 (bl 63 (a_const 0 64)) (bl 64 (a_const 1 65))))) (bn 70 (bn 68 (bl 65 (a_invV zG0 zprot (true, true) zc_48 (zbd 48) (3, 0, 0) 6 4 68)) (bn 69 (bl 68 (a_aload 0 69)) (bl 69 (a_const 3 70)))) (bn 71 (bl 70 (a_const 1 71)) (bn 72 (bl 71 (a_const 0 72)) (bl 72 (a_invV zG0 zprot (true, true) zc_49 (zbd 49) (3, 0, 0) 6 4 75)))))))
set_option maxRecDepth 100000 in
set_option maxHeartbeats 4000000 in
theorem zTo_51 {pre : zPre} {post : zPost} (H : zTieC pre post) {d : Nat × Nat × Nat} (hd : zLe (3, 0, 0) d) : aTr zG0 zT0 zInv (true, true) PZ zbd pre post d prog_8_method_2_code "CapitalCase$Script" zTr_51 := (xB_n (xB_n (xB_n (xB_n (xB_n (xB_l ⟨_, zs_aload_n em47_0, as_aload⟩) (xB_l ⟨_, zs_iconst (v := 0) em47_1 (by decide +kernel), as_const (by decide +kernel)⟩)) (xB_n (xB_l ⟨_, zs_puti zInj0 (T := TX6) (M := 15) (ty := tyX6) (ci := 6) (j := 0) (kd := 0) em47_2 rfl inX6 tyX6_ok nmX6 (by decide) wd_162 (Or.inl ⟨rfl, rfl⟩) rfl ((congrFun xo_7 44).trans rfl), ag_puti0⟩) (xB_n (xB_l ⟨_, zs_aload_n em47_5, as_aload⟩) (xB_l ⟨_, zs_iconst (v := 0) em47_6 (by decide +kernel), as_const (by decide +kernel)⟩)))) (xB_n (xB_n (xB_l ⟨_, zs_puti zInj0 (T := TX6) (M := 15) (ty := tyX6) (ci := 6) (j := 1) (kd := 0) em47_7 rfl inX6 tyX6_ok nmX6 (by decide) wd_169 (Or.inl ⟨rfl, rfl⟩) rfl ((congrFun xo_7 48).trans rfl), ag_puti0⟩) (xB_n (xB_l ⟨_, zs_aload_n em47_10, as_aload⟩) (xB_l ⟨_, zs_bipush (v := 20) em47_11 (by decide +kernel), as_const (by decide +kernel)⟩))) (xB_n (xB_l ⟨_, zs_puti zInj0 (T := TX6) (M := 15) (ty := tyX6) (ci := 6) (j := 4) (kd := 0) em47_13 rfl inX6 tyX6_ok nmX6 (by decide) wd_175 (Or.inl ⟨rfl, rfl⟩) rfl ((congrFun xo_7 51).trans rfl), ag_puti0⟩) (xB_n (xB_l ⟨_, zs_aload_n em47_16, as_aload⟩) (xB_l ⟨_, zs_iconst (v := 0) em47_17 (by decide +kernel), as_const (by decide +kernel)⟩))))) (xB_n (xB_n (xB_n (xB_l ⟨_, zs_puti zInj0 (T := TX6) (M := 15) (ty := tyX6) (ci := 6) (j := 2) (kd := 0) em47_18 rfl inX6 tyX6_ok nmX6 (by decide) wd_178 (Or.inl ⟨rfl, rfl⟩) rfl ((congrFun xo_7 54).trans rfl), ag_puti0⟩) (xB_n (xB_l ⟨_, zs_aload_n em47_21, as_aload⟩) (xB_l ⟨_, zs_iconst (v := 0) em47_22 (by decide +kernel), as_const (by decide +kernel)⟩))) (xB_n (xB_l ⟨_, zs_puti zInj0 (T := TX6) (M := 15) (ty := tyX6) (ci := 6) (j := 3) (kd := 0) em47_23 rfl inX6 tyX6_ok nmX6 (by decide) wd_181 (Or.inl ⟨rfl, rfl⟩) rfl ((congrFun xo_7 57).trans rfl), ag_puti0⟩) (xB_n (xB_l ⟨_, zs_aload_n em47_26, as_aload⟩) (xB_l ⟨_, zs_getf (T := TX6) (M := 15) (ci := 6) (j := 5) em47_27 rfl inX6 (by decide) wd_184 ((congrFun xo_7 13).trans rfl), as_getf zTie⟩)))) (xB_n (xB_n (xB_l ⟨_, zs_iconst (v := 0) em47_30 (by decide +kernel), as_const (by decide +kernel)⟩) (xB_n (xB_l ⟨_, zs_invS em47_31 zl_237 wd_151 wd_152 ((congrFun xo_7 60).trans rfl) xm_207, ag_inv H zh_237 hd (by decide)⟩) (xB_l ⟨_, zs_aload_n em47_34, as_aload⟩))) (xB_n (xB_l ⟨_, zs_getf (T := TX6) (M := 15) (ci := 6) (j := 10) em47_35 rfl inX6 (by decide) wd_207 ((congrFun xo_7 29).trans rfl), as_getf zTie⟩) (xB_n (xB_l ⟨_, zs_iconst (v := 0) em47_38 (by decide +kernel), as_const (by decide +kernel)⟩) (xB_l ⟨_, zs_invS em47_39 zl_238 wd_151 wd_152 ((congrFun xo_7 60).trans rfl) xm_207, ag_inv H zh_238 hd (by decide)⟩)))))) (xB_n (xB_n (xB_n (xB_n (xB_l ⟨_, zs_aload_n em47_42, as_aload⟩) (xB_l ⟨_, zs_iconst (v := 0) em47_43 (by decide +kernel), as_const (by decide +kernel)⟩)) (xB_n (xB_l ⟨_, zs_puti zInj0 (T := TX6) (M := 15) (ty := tyX6) (ci := 6) (j := 14) (kd := 0) em47_44 rfl inX6 tyX6_ok nmX6 (by decide) wd_218 (Or.inl ⟨rfl, rfl⟩) rfl ((congrFun xo_7 66).trans rfl), ag_puti0⟩) (xB_n (xB_l ⟨_, zs_aload_n em47_47, as_aload⟩) (xB_l ⟨_, zs_iconst (v := 0) em47_48 (by decide +kernel), as_const (by decide +kernel)⟩)))) (xB_n (xB_n (xB_l ⟨_, zs_iconst (v := 0) em47_49 (by decide +kernel), as_const (by decide +kernel)⟩) (xB_n (xB_l ⟨_, zs_iconst (v := 1) em47_50 (by decide +kernel), as_const (by decide +kernel)⟩) (xB_l ⟨_, zs_invV (T := TX6) em47_51 zl_48 rfl wd_154 wd_156 wd_0 ((congrFun xo_7 69).trans rfl) xm_45, ag_invV H zh_48 hd (by decide)⟩))) (xB_n (xB_l ⟨_, zs_aload_n em47_54, as_aload⟩) (xB_n (xB_l ⟨_, zs_iconst (v := 1) em47_55 (by decide +kernel), as_const (by decide +kernel)⟩) (xB_l ⟨_, zs_iconst (v := 0) em47_56 (by decide +kernel), as_const (by decide +kernel)⟩))))) (xB_n (xB_n (xB_n (xB_l ⟨_, zs_iconst (v := 0) em47_57 (by decide +kernel), as_const (by decide +kernel)⟩) (xB_n (xB_l ⟨_, zs_invV (T := TX6) em47_58 zl_48 rfl wd_154 wd_156 wd_0 ((congrFun xo_7 69).trans rfl) xm_45, ag_invV H zh_48 hd (by decide)⟩) (xB_l ⟨_, zs_aload_n em47_61, as_aload⟩))) (xB_n (xB_l ⟨_, zs_iconst (v := 2) em47_62 (by decide +kernel), as_const (by decide +kernel)⟩) (xB_n (xB_l ⟨_, zs_iconst (v := 0) em47_63 (by decide +kernel), as_const (by decide +kernel)⟩) (xB_l ⟨_, zs_iconst (v := 1) em47_64 (by decide +kernel), as_const (by decide +kernel)⟩)))) (xB_n (xB_n (xB_l ⟨_, zs_invV (T := TX6) em47_65 zl_48 rfl wd_154 wd_156 wd_0 ((congrFun xo_7 69).trans rfl) xm_45, ag_invV H zh_48 hd (by decide)⟩) (xB_n (xB_l ⟨_, zs_aload_n em47_68, as_aload⟩) (xB_l ⟨_, zs_iconst (v := 3) em47_69 (by decide +kernel), as_const (by decide +kernel)⟩))) (xB_n (xB_l ⟨_, zs_iconst (v := 1) em47_70 (by decide +kernel), as_const (by decide +kernel)⟩) (xB_n (xB_l ⟨_, zs_iconst (v := 0) em47_71 (by decide +kernel), as_const (by decide +kernel)⟩) (xB_l ⟨_, zs_invV (T := TX6) em47_72 zl_49 rfl wd_154 wd_156 wd_0 ((congrFun xo_7 69).trans rfl) xm_45, ag_invV H zh_49 hd (by decide)⟩)))))))
set_option maxRecDepth 100000 in
set_option maxHeartbeats 4000000 in
theorem zM_51 : zOKa 51 zc_51 := z_auto (cuts := []) (rets := [(75, 3)]) (fuel := 1000) rfl rfl (by decide) (xrt_ok (xR_c (Or.inr (Or.inr (Or.inl ⟨rfl, em47_75, rfl⟩))) (xR_n))) (fun _ _ H _ hd => zTo_51 H hd) (by decide +kernel)
theorem em49_0 : decode prog_10_method_3_code 0 = .ok (.aload_n 1, 1) := by decide +kernel
theorem em49_1 : decode prog_10_method_3_code 1 = .ok (.getfield 9, 3) := by decide +kernel
theorem em49_4 : decode prog_10_method_3_code 4 = .ok (.iconst 0, 1) := by decide +kernel
theorem em49_5 : decode prog_10_method_3_code 5 = .ok (.aload_n 0, 1) := by decide +kernel
theorem em49_6 : decode prog_10_method_3_code 6 = .ok (.getfield 9, 3) := by decide +kernel
theorem em49_9 : decode prog_10_method_3_code 9 = .ok (.iconst 0, 1) := by decide +kernel
theorem em49_10 : decode prog_10_method_3_code 10 = .ok (.bipush 40, 2) := by decide +kernel
theorem em49_12 : decode prog_10_method_3_code 12 = .ok (.invokestatic 32, 3) := by decide +kernel
theorem em49_15 : decode prog_10_method_3_code 15 = .ok (.aload_n 1, 1) := by decide +kernel
theorem em49_16 : decode prog_10_method_3_code 16 = .ok (.getfield 15, 3) := by decide +kernel
theorem em49_19 : decode prog_10_method_3_code 19 = .ok (.iconst 0, 1) := by decide +kernel
theorem em49_20 : decode prog_10_method_3_code 20 = .ok (.aload_n 0, 1) := by decide +kernel
theorem em49_21 : decode prog_10_method_3_code 21 = .ok (.getfield 15, 3) := by decide +kernel
theorem em49_24 : decode prog_10_method_3_code 24 = .ok (.iconst 0, 1) := by decide +kernel
theorem em49_25 : decode prog_10_method_3_code 25 = .ok (.bipush 40, 2) := by decide +kernel
theorem em49_27 : decode prog_10_method_3_code 27 = .ok (.invokestatic 32, 3) := by decide +kernel
theorem em49_30 : decode prog_10_method_3_code 30 = .ok (.aload_n 1, 1) := by decide +kernel
theorem em49_31 : decode prog_10_method_3_code 31 = .ok (.getfield 18, 3) := by decide +kernel
theorem em49_34 : decode prog_10_method_3_code 34 = .ok (.iconst 0, 1) := by decide +kernel
theorem em49_35 : decode prog_10_method_3_code 35 = .ok (.aload_n 0, 1) := by decide +kernel
theorem em49_36 : decode prog_10_method_3_code 36 = .ok (.getfield 18, 3) := by decide +kernel
theorem em49_39 : decode prog_10_method_3_code 39 = .ok (.iconst 0, 1) := by decide +kernel
theorem em49_40 : decode prog_10_method_3_code 40 = .ok (.bipush 40, 2) := by decide +kernel
theorem em49_42 : decode prog_10_method_3_code 42 = .ok (.invokestatic 32, 3) := by decide +kernel
theorem em49_45 : decode prog_10_method_3_code 45 = .ok (.aload_n 1, 1) := by decide +kernel
theorem em49_46 : decode prog_10_method_3_code 46 = .ok (.getfield 21, 3) := by decide +kernel
theorem em49_49 : decode prog_10_method_3_code 49 = .ok (.iconst 0, 1) := by decide +kernel
theorem em49_50 : decode prog_10_method_3_code 50 = .ok (.aload_n 0, 1) := by decide +kernel
theorem em49_51 : decode prog_10_method_3_code 51 = .ok (.getfield 21, 3) := by decide +kernel
theorem em49_54 : decode prog_10_method_3_code 54 = .ok (.iconst 0, 1) := by decide +kernel
theorem em49_55 : decode prog_10_method_3_code 55 = .ok (.sipush 200, 3) := by decide +kernel
theorem em49_58 : decode prog_10_method_3_code 58 = .ok (.invokestatic 32, 3) := by decide +kernel
theorem em49_61 : decode prog_10_method_3_code 61 = .ok (.aload_n 1, 1) := by decide +kernel
theorem em49_62 : decode prog_10_method_3_code 62 = .ok (.getfield 24, 3) := by decide +kernel
theorem em49_65 : decode prog_10_method_3_code 65 = .ok (.iconst 0, 1) := by decide +kernel
theorem em49_66 : decode prog_10_method_3_code 66 = .ok (.aload_n 0, 1) := by decide +kernel
theorem em49_67 : decode prog_10_method_3_code 67 = .ok (.getfield 24, 3) := by decide +kernel
theorem em49_70 : decode prog_10_method_3_code 70 = .ok (.iconst 0, 1) := by decide +kernel
theorem em49_71 : decode prog_10_method_3_code 71 = .ok (.bipush 56, 2) := by decide +kernel
theorem em49_73 : decode prog_10_method_3_code 73 = .ok (.invokestatic 32, 3) := by decide +kernel
theorem em49_76 : decode prog_10_method_3_code 76 = .ok (.aload_n 0, 1) := by decide +kernel
theorem em49_77 : decode prog_10_method_3_code 77 = .ok (.aload_n 1, 1) := by decide +kernel
theorem em49_78 : decode prog_10_method_3_code 78 = .ok (.getfield 44, 3) := by decide +kernel
theorem em49_81 : decode prog_10_method_3_code 81 = .ok (.putfield 44, 3) := by decide +kernel
theorem em49_84 : decode prog_10_method_3_code 84 = .ok (.aload_n 0, 1) := by decide +kernel
theorem em49_85 : decode prog_10_method_3_code 85 = .ok (.aload_n 1, 1) := by decide +kernel
theorem em49_86 : decode prog_10_method_3_code 86 = .ok (.getfield 48, 3) := by decide +kernel
theorem em49_89 : decode prog_10_method_3_code 89 = .ok (.putfield 48, 3) := by decide +kernel
theorem em49_92 : decode prog_10_method_3_code 92 = .ok (.aload_n 0, 1) := by decide +kernel
theorem em49_93 : decode prog_10_method_3_code 93 = .ok (.aload_n 1, 1) := by decide +kernel
theorem em49_94 : decode prog_10_method_3_code 94 = .ok (.getfield 51, 3) := by decide +kernel
theorem em49_97 : decode prog_10_method_3_code 97 = .ok (.putfield 51, 3) := by decide +kernel
theorem em49_100 : decode prog_10_method_3_code 100 = .ok (.aload_n 0, 1) := by decide +kernel
theorem em49_101 : decode prog_10_method_3_code 101 = .ok (.aload_n 1, 1) := by decide +kernel
theorem em49_102 : decode prog_10_method_3_code 102 = .ok (.getfield 54, 3) := by decide +kernel
theorem em49_105 : decode prog_10_method_3_code 105 = .ok (.putfield 54, 3) := by decide +kernel
theorem em49_108 : decode prog_10_method_3_code 108 = .ok (.aload_n 0, 1) := by decide +kernel
theorem em49_109 : decode prog_10_method_3_code 109 = .ok (.aload_n 1, 1) := by decide +kernel
theorem em49_110 : decode prog_10_method_3_code 110 = .ok (.getfield 57, 3) := by decide +kernel
theorem em49_113 : decode prog_10_method_3_code 113 = .ok (.putfield 57, 3) := by decide +kernel
theorem em49_116 : decode prog_10_method_3_code 116 = .ok (.return_, 1) := by decide +kernel
/-! CapitalCase$Town.become:(LCapitalCase$Town;)V -/
noncomputable def zTr_53 : Nat → Option aF := bn 55 (bn 27 (bn 12 (bn 5 (bn 1 (bl 0 (a_aload 1 1)) (bn 4 (bl 1 (a_getf zG0 zT0 8 0 4)) (bl 4 (a_const 0 5)))) (bn 9 (bn 6 (bl 5 (a_aload 0 6)) (bl 6 (a_getf zG0 zT0 8 0 9))) (bn 10 (bl 9 (a_const 0 10)) (bl 10 (a_const 40 12))))) (bn 20 (bn 16 (bn 15 (bl 12 (a_copy zG0 zT0 15)) (bl 15 (a_aload 1 16))) (bn 19 (bl 16 (a_getf zG0 zT0 8 1 19)) (bl 19 (a_const 0 20)))) (bn 24 (bn 21 (bl 20 (a_aload 0 21)) (bl 21 (a_getf zG0 zT0 8 1 24))) (bn 25 (bl 24 (a_const 0 25)) (bl 25 (a_const 40 27)))))) (bn 40 (bn 34 (bn 30 (bl 27 (a_copy zG0 zT0 30)) (bn 31 (bl 30 (a_aload 1 31)) (bl 31 (a_getf zG0 zT0 8 2 34)))) (bn 36 (bn 35 (bl 34 (a_const 0 35)) (bl 35 (a_aload 0 36))) (bn 39 (bl 36 (a_getf zG0 zT0 8 2 39)) (bl 39 (a_const 0 40))))) (bn 49 (bn 45 (bn 42 (bl 40 (a_const 40 42)) (bl 42 (a_copy zG0 zT0 45))) (bn 46 (bl 45 (a_aload 1 46)) (bl 46 (a_getf zG0 zT0 8 3 49)))) (bn 51 (bn 50 (bl 49 (a_const 0 50)) (bl 50 (a_aload 0 51))) (bn 54 (bl 51 (a_getf zG0 zT0 8 3 54)) (bl 54 (a_const 0 55))))))) (bn 85 (bn 70 (bn 62 (bn 58 (bl 55 (a_const 200 58)) (bn 61 (bl 58 (a_copy zG0 zT0 61)) (bl 61 (a_aload 1 62)))) (bn 66 (bn 65 (bl 62 (a_getf zG0 zT0 8 4 65)) (bl 65 (a_const 0 66))) (bn 67 (bl 66 (a_aload 0 67)) (bl 67 (a_getf zG0 zT0 8 4 70))))) (bn 77 (bn 73 (bn 71 (bl 70 (a_const 0 71)) (bl 71 (a_const 56 73))) (bn 76 (bl 73 (a_copy zG0 zT0 76)) (bl 76 (a_aload 0 77)))) (bn 81 (bn 78 (bl 77 (a_aload 1 78)) (bl 78 (a_getf zG0 zT0 8 5 81))) (bn 84 (bl 81 (a_puti zG0 zT0 zprot 8 5 0 84)) (bl 84 (a_aload 0 85)))))) (bn 100 (bn 92 (bn 86 (bl 85 (a_aload 1 86)) (bn 89 (bl 86 (a_getf zG0 zT0 8 6 89)) (bl 89 (a_puti zG0 zT0 zprot 8 6 0 92)))) (bn 94 (bn 93 (bl 92 (a_aload 0 93)) (bl 93 (a_aload 1 94))) (bn 97 (bl 94 (a_getf zG0 zT0 8 7 97)) (bl 97 (a_puti zG0 zT0 zprot 8 7 0 100))))) (bn 108 (bn 102 (bn 101 (bl 100 (a_aload 0 101)) (bl 101 (a_aload 1 102))) (bn 105 (bl 102 (a_getf zG0 zT0 8 8 105)) (bl 105 (a_puti zG0 zT0 zprot 8 8 0 108)))) (bn 110 (bn 109 (bl 108 (a_aload 0 109)) (bl 109 (a_aload 1 110))) (bn 113 (bl 110 (a_getf zG0 zT0 8 9 113)) (bl 113 (a_puti zG0 zT0 zprot 8 9 0 116)))))))
set_option maxRecDepth 100000 in
set_option maxHeartbeats 4000000 in
theorem zTo_53 {pre : zPre} {post : zPost} (H : zTieC pre post) {d : Nat × Nat × Nat} (hd : zLe (0, 0, 0) d) : aTr zG0 zT0 zInv (false, false) PZ zbd pre post d prog_10_method_3_code "CapitalCase$Town" zTr_53 := (xB_n (xB_n (xB_n (xB_n (xB_n (xB_l ⟨_, zs_aload_n em49_0, as_aload⟩) (xB_n (xB_l ⟨_, zs_getf (T := TX8) (M := 10) (ci := 8) (j := 0) em49_1 rfl inX8 (by decide) wd_320 ((congrFun xo_9 9).trans rfl), as_getf zTie⟩) (xB_l ⟨_, zs_iconst (v := 0) em49_4 (by decide +kernel), as_const (by decide +kernel)⟩))) (xB_n (xB_n (xB_l ⟨_, zs_aload_n em49_5, as_aload⟩) (xB_l ⟨_, zs_getf (T := TX8) (M := 10) (ci := 8) (j := 0) em49_6 rfl inX8 (by decide) wd_320 ((congrFun xo_9 9).trans rfl), as_getf zTie⟩)) (xB_n (xB_l ⟨_, zs_iconst (v := 0) em49_9 (by decide +kernel), as_const (by decide +kernel)⟩) (xB_l ⟨_, zs_bipush (v := 40) em49_10 (by decide +kernel), as_const (by decide +kernel)⟩)))) (xB_n (xB_n (xB_n (xB_l ⟨_, zs_copy zInj0 em49_12 wd_840 wd_831 wd_830 wd_131 (by decide +kernel) ((congrFun xo_9 32).trans rfl), as_copy zTie⟩) (xB_l ⟨_, zs_aload_n em49_15, as_aload⟩)) (xB_n (xB_l ⟨_, zs_getf (T := TX8) (M := 10) (ci := 8) (j := 1) em49_16 rfl inX8 (by decide) wd_325 ((congrFun xo_9 15).trans rfl), as_getf zTie⟩) (xB_l ⟨_, zs_iconst (v := 0) em49_19 (by decide +kernel), as_const (by decide +kernel)⟩))) (xB_n (xB_n (xB_l ⟨_, zs_aload_n em49_20, as_aload⟩) (xB_l ⟨_, zs_getf (T := TX8) (M := 10) (ci := 8) (j := 1) em49_21 rfl inX8 (by decide) wd_325 ((congrFun xo_9 15).trans rfl), as_getf zTie⟩)) (xB_n (xB_l ⟨_, zs_iconst (v := 0) em49_24 (by decide +kernel), as_const (by decide +kernel)⟩) (xB_l ⟨_, zs_bipush (v := 40) em49_25 (by decide +kernel), as_const (by decide +kernel)⟩))))) (xB_n (xB_n (xB_n (xB_l ⟨_, zs_copy zInj0 em49_27 wd_840 wd_831 wd_830 wd_131 (by decide +kernel) ((congrFun xo_9 32).trans rfl), as_copy zTie⟩) (xB_n (xB_l ⟨_, zs_aload_n em49_30, as_aload⟩) (xB_l ⟨_, zs_getf (T := TX8) (M := 10) (ci := 8) (j := 2) em49_31 rfl inX8 (by decide) wd_329 ((congrFun xo_9 18).trans rfl), as_getf zTie⟩))) (xB_n (xB_n (xB_l ⟨_, zs_iconst (v := 0) em49_34 (by decide +kernel), as_const (by decide +kernel)⟩) (xB_l ⟨_, zs_aload_n em49_35, as_aload⟩)) (xB_n (xB_l ⟨_, zs_getf (T := TX8) (M := 10) (ci := 8) (j := 2) em49_36 rfl inX8 (by decide) wd_329 ((congrFun xo_9 18).trans rfl), as_getf zTie⟩) (xB_l ⟨_, zs_iconst (v := 0) em49_39 (by decide +kernel), as_const (by decide +kernel)⟩)))) (xB_n (xB_n (xB_n (xB_l ⟨_, zs_bipush (v := 40) em49_40 (by decide +kernel), as_const (by decide +kernel)⟩) (xB_l ⟨_, zs_copy zInj0 em49_42 wd_840 wd_831 wd_830 wd_131 (by decide +kernel) ((congrFun xo_9 32).trans rfl), as_copy zTie⟩)) (xB_n (xB_l ⟨_, zs_aload_n em49_45, as_aload⟩) (xB_l ⟨_, zs_getf (T := TX8) (M := 10) (ci := 8) (j := 3) em49_46 rfl inX8 (by decide) wd_334 ((congrFun xo_9 21).trans rfl), as_getf zTie⟩))) (xB_n (xB_n (xB_l ⟨_, zs_iconst (v := 0) em49_49 (by decide +kernel), as_const (by decide +kernel)⟩) (xB_l ⟨_, zs_aload_n em49_50, as_aload⟩)) (xB_n (xB_l ⟨_, zs_getf (T := TX8) (M := 10) (ci := 8) (j := 3) em49_51 rfl inX8 (by decide) wd_334 ((congrFun xo_9 21).trans rfl), as_getf zTie⟩) (xB_l ⟨_, zs_iconst (v := 0) em49_54 (by decide +kernel), as_const (by decide +kernel)⟩)))))) (xB_n (xB_n (xB_n (xB_n (xB_l ⟨_, zs_sipush (v := 200) em49_55 (by decide +kernel), as_const (by decide +kernel)⟩) (xB_n (xB_l ⟨_, zs_copy zInj0 em49_58 wd_840 wd_831 wd_830 wd_131 (by decide +kernel) ((congrFun xo_9 32).trans rfl), as_copy zTie⟩) (xB_l ⟨_, zs_aload_n em49_61, as_aload⟩))) (xB_n (xB_n (xB_l ⟨_, zs_getf (T := TX8) (M := 10) (ci := 8) (j := 4) em49_62 rfl inX8 (by decide) wd_336 ((congrFun xo_9 24).trans rfl), as_getf zTie⟩) (xB_l ⟨_, zs_iconst (v := 0) em49_65 (by decide +kernel), as_const (by decide +kernel)⟩)) (xB_n (xB_l ⟨_, zs_aload_n em49_66, as_aload⟩) (xB_l ⟨_, zs_getf (T := TX8) (M := 10) (ci := 8) (j := 4) em49_67 rfl inX8 (by decide) wd_336 ((congrFun xo_9 24).trans rfl), as_getf zTie⟩)))) (xB_n (xB_n (xB_n (xB_l ⟨_, zs_iconst (v := 0) em49_70 (by decide +kernel), as_const (by decide +kernel)⟩) (xB_l ⟨_, zs_bipush (v := 56) em49_71 (by decide +kernel), as_const (by decide +kernel)⟩)) (xB_n (xB_l ⟨_, zs_copy zInj0 em49_73 wd_840 wd_831 wd_830 wd_131 (by decide +kernel) ((congrFun xo_9 32).trans rfl), as_copy zTie⟩) (xB_l ⟨_, zs_aload_n em49_76, as_aload⟩))) (xB_n (xB_n (xB_l ⟨_, zs_aload_n em49_77, as_aload⟩) (xB_l ⟨_, zs_getf (T := TX8) (M := 10) (ci := 8) (j := 5) em49_78 rfl inX8 (by decide) wd_338 ((congrFun xo_9 44).trans rfl), as_getf zTie⟩)) (xB_n (xB_l ⟨_, zs_puti zInj0 (T := TX8) (M := 10) (ty := tyX8) (ci := 8) (j := 5) (kd := 0) em49_81 rfl inX8 tyX8_ok nmX8 (by decide) wd_338 (Or.inl ⟨rfl, rfl⟩) rfl ((congrFun xo_9 44).trans rfl), ag_puti0⟩) (xB_l ⟨_, zs_aload_n em49_84, as_aload⟩))))) (xB_n (xB_n (xB_n (xB_l ⟨_, zs_aload_n em49_85, as_aload⟩) (xB_n (xB_l ⟨_, zs_getf (T := TX8) (M := 10) (ci := 8) (j := 6) em49_86 rfl inX8 (by decide) wd_341 ((congrFun xo_9 48).trans rfl), as_getf zTie⟩) (xB_l ⟨_, zs_puti zInj0 (T := TX8) (M := 10) (ty := tyX8) (ci := 8) (j := 6) (kd := 0) em49_89 rfl inX8 tyX8_ok nmX8 (by decide) wd_341 (Or.inl ⟨rfl, rfl⟩) rfl ((congrFun xo_9 48).trans rfl), ag_puti0⟩))) (xB_n (xB_n (xB_l ⟨_, zs_aload_n em49_92, as_aload⟩) (xB_l ⟨_, zs_aload_n em49_93, as_aload⟩)) (xB_n (xB_l ⟨_, zs_getf (T := TX8) (M := 10) (ci := 8) (j := 7) em49_94 rfl inX8 (by decide) wd_346 ((congrFun xo_9 51).trans rfl), as_getf zTie⟩) (xB_l ⟨_, zs_puti zInj0 (T := TX8) (M := 10) (ty := tyX8) (ci := 8) (j := 7) (kd := 0) em49_97 rfl inX8 tyX8_ok nmX8 (by decide) wd_346 (Or.inl ⟨rfl, rfl⟩) rfl ((congrFun xo_9 51).trans rfl), ag_puti0⟩)))) (xB_n (xB_n (xB_n (xB_l ⟨_, zs_aload_n em49_100, as_aload⟩) (xB_l ⟨_, zs_aload_n em49_101, as_aload⟩)) (xB_n (xB_l ⟨_, zs_getf (T := TX8) (M := 10) (ci := 8) (j := 8) em49_102 rfl inX8 (by decide) wd_350 ((congrFun xo_9 54).trans rfl), as_getf zTie⟩) (xB_l ⟨_, zs_puti zInj0 (T := TX8) (M := 10) (ty := tyX8) (ci := 8) (j := 8) (kd := 0) em49_105 rfl inX8 tyX8_ok nmX8 (by decide) wd_350 (Or.inl ⟨rfl, rfl⟩) rfl ((congrFun xo_9 54).trans rfl), ag_puti0⟩))) (xB_n (xB_n (xB_l ⟨_, zs_aload_n em49_108, as_aload⟩) (xB_l ⟨_, zs_aload_n em49_109, as_aload⟩)) (xB_n (xB_l ⟨_, zs_getf (T := TX8) (M := 10) (ci := 8) (j := 9) em49_110 rfl inX8 (by decide) wd_353 ((congrFun xo_9 57).trans rfl), as_getf zTie⟩) (xB_l ⟨_, zs_puti zInj0 (T := TX8) (M := 10) (ty := tyX8) (ci := 8) (j := 9) (kd := 0) em49_113 rfl inX8 tyX8_ok nmX8 (by decide) wd_353 (Or.inl ⟨rfl, rfl⟩) rfl ((congrFun xo_9 57).trans rfl), ag_puti0⟩)))))))
set_option maxRecDepth 100000 in
set_option maxHeartbeats 4000000 in
theorem zM_53 : zOKa 53 zc_53 := z_auto (cuts := []) (rets := [(116, 3)]) (fuel := 1000) rfl rfl (by decide) (xrt_ok (xR_c (Or.inr (Or.inr (Or.inl ⟨rfl, em49_116, rfl⟩))) (xR_n))) (fun _ _ H _ hd => zTo_53 H hd) (by decide +kernel)
theorem em50_0 : decode prog_10_method_2_code 0 = .ok (.aload_n 1, 1) := by decide +kernel
theorem em50_1 : decode prog_10_method_2_code 1 = .ok (.getfield 27, 3) := by decide +kernel
theorem em50_4 : decode prog_10_method_2_code 4 = .ok (.iconst 0, 1) := by decide +kernel
theorem em50_5 : decode prog_10_method_2_code 5 = .ok (.aload_n 0, 1) := by decide +kernel
theorem em50_6 : decode prog_10_method_2_code 6 = .ok (.getfield 9, 3) := by decide +kernel
theorem em50_9 : decode prog_10_method_2_code 9 = .ok (.iconst 0, 1) := by decide +kernel
theorem em50_10 : decode prog_10_method_2_code 10 = .ok (.bipush 40, 2) := by decide +kernel
theorem em50_12 : decode prog_10_method_2_code 12 = .ok (.invokestatic 32, 3) := by decide +kernel
theorem em50_15 : decode prog_10_method_2_code 15 = .ok (.aload_n 0, 1) := by decide +kernel
theorem em50_16 : decode prog_10_method_2_code 16 = .ok (.getfield 15, 3) := by decide +kernel
theorem em50_19 : decode prog_10_method_2_code 19 = .ok (.iconst 0, 1) := by decide +kernel
theorem em50_20 : decode prog_10_method_2_code 20 = .ok (.invokestatic 38, 3) := by decide +kernel
theorem em50_23 : decode prog_10_method_2_code 23 = .ok (.aload_n 0, 1) := by decide +kernel
theorem em50_24 : decode prog_10_method_2_code 24 = .ok (.getfield 18, 3) := by decide +kernel
theorem em50_27 : decode prog_10_method_2_code 27 = .ok (.iconst 0, 1) := by decide +kernel
theorem em50_28 : decode prog_10_method_2_code 28 = .ok (.invokestatic 38, 3) := by decide +kernel
theorem em50_31 : decode prog_10_method_2_code 31 = .ok (.aload_n 0, 1) := by decide +kernel
theorem em50_32 : decode prog_10_method_2_code 32 = .ok (.getfield 21, 3) := by decide +kernel
theorem em50_35 : decode prog_10_method_2_code 35 = .ok (.iconst 0, 1) := by decide +kernel
theorem em50_36 : decode prog_10_method_2_code 36 = .ok (.invokestatic 38, 3) := by decide +kernel
theorem em50_39 : decode prog_10_method_2_code 39 = .ok (.aload_n 0, 1) := by decide +kernel
theorem em50_40 : decode prog_10_method_2_code 40 = .ok (.iconst 0, 1) := by decide +kernel
theorem em50_41 : decode prog_10_method_2_code 41 = .ok (.putfield 44, 3) := by decide +kernel
theorem em50_44 : decode prog_10_method_2_code 44 = .ok (.aload_n 0, 1) := by decide +kernel
theorem em50_45 : decode prog_10_method_2_code 45 = .ok (.iconst 0, 1) := by decide +kernel
theorem em50_46 : decode prog_10_method_2_code 46 = .ok (.putfield 48, 3) := by decide +kernel
theorem em50_49 : decode prog_10_method_2_code 49 = .ok (.aload_n 0, 1) := by decide +kernel
theorem em50_50 : decode prog_10_method_2_code 50 = .ok (.iconst 0, 1) := by decide +kernel
theorem em50_51 : decode prog_10_method_2_code 51 = .ok (.putfield 51, 3) := by decide +kernel
theorem em50_54 : decode prog_10_method_2_code 54 = .ok (.aload_n 0, 1) := by decide +kernel
theorem em50_55 : decode prog_10_method_2_code 55 = .ok (.iconst 0, 1) := by decide +kernel
theorem em50_56 : decode prog_10_method_2_code 56 = .ok (.putfield 54, 3) := by decide +kernel
theorem em50_59 : decode prog_10_method_2_code 59 = .ok (.aload_n 0, 1) := by decide +kernel
theorem em50_60 : decode prog_10_method_2_code 60 = .ok (.iconst 0, 1) := by decide +kernel
theorem em50_61 : decode prog_10_method_2_code 61 = .ok (.putfield 57, 3) := by decide +kernel
theorem em50_64 : decode prog_10_method_2_code 64 = .ok (.return_, 1) := by decide +kernel
/-! CapitalCase$Town.begin:(LCapitalCase$Script;)V -/
noncomputable def zTr_54 : Nat → Option aF := bn 32 (bn 15 (bn 6 (bn 4 (bn 1 (bl 0 (a_aload 1 1)) (bl 1 (a_getf zG0 zT0 6 5 4))) (bn 5 (bl 4 (a_const 0 5)) (bl 5 (a_aload 0 6)))) (bn 10 (bn 9 (bl 6 (a_getf zG0 zT0 8 0 9)) (bl 9 (a_const 0 10))) (bn 12 (bl 10 (a_const 40 12)) (bl 12 (a_copy zG0 zT0 15))))) (bn 23 (bn 19 (bn 16 (bl 15 (a_aload 0 16)) (bl 16 (a_getf zG0 zT0 8 1 19))) (bn 20 (bl 19 (a_const 0 20)) (bl 20 (a_inv zG0 zprot (false, false) zc_234 (zbd 234) (1, 0, 0) 2 23)))) (bn 27 (bn 24 (bl 23 (a_aload 0 24)) (bl 24 (a_getf zG0 zT0 8 2 27))) (bn 28 (bl 27 (a_const 0 28)) (bn 31 (bl 28 (a_inv zG0 zprot (false, false) zc_235 (zbd 235) (1, 0, 0) 2 31)) (bl 31 (a_aload 0 32))))))) (bn 49 (bn 40 (bn 36 (bn 35 (bl 32 (a_getf zG0 zT0 8 3 35)) (bl 35 (a_const 0 36))) (bn 39 (bl 36 (a_inv zG0 zprot (false, false) zc_236 (zbd 236) (1, 0, 0) 2 39)) (bl 39 (a_aload 0 40)))) (bn 44 (bn 41 (bl 40 (a_const 0 41)) (bl 41 (a_puti zG0 zT0 zprot 8 5 0 44))) (bn 45 (bl 44 (a_aload 0 45)) (bn 46 (bl 45 (a_const 0 46)) (bl 46 (a_puti zG0 zT0 zprot 8 6 0 49)))))) (bn 55 (bn 51 (bn 50 (bl 49 (a_aload 0 50)) (bl 50 (a_const 0 51))) (bn 54 (bl 51 (a_puti zG0 zT0 zprot 8 7 0 54)) (bl 54 (a_aload 0 55)))) (bn 59 (bn 56 (bl 55 (a_const 0 56)) (bl 56 (a_puti zG0 zT0 zprot 8 8 0 59))) (bn 60 (bl 59 (a_aload 0 60)) (bn 61 (bl 60 (a_const 0 61)) (bl 61 (a_puti zG0 zT0 zprot 8 9 0 64)))))))
set_option maxRecDepth 100000 in
set_option maxHeartbeats 4000000 in
theorem zTo_54 {pre : zPre} {post : zPost} (H : zTieC pre post) {d : Nat × Nat × Nat} (hd : zLe (1, 0, 0) d) : aTr zG0 zT0 zInv (false, false) PZ zbd pre post d prog_10_method_2_code "CapitalCase$Town" zTr_54 := (xB_n (xB_n (xB_n (xB_n (xB_n (xB_l ⟨_, zs_aload_n em50_0, as_aload⟩) (xB_l ⟨_, zs_getf (T := TX6) (M := 15) (ci := 6) (j := 5) em50_1 rfl inX6 (by decide) wd_185 ((congrFun xo_9 27).trans rfl), as_getf zTie⟩)) (xB_n (xB_l ⟨_, zs_iconst (v := 0) em50_4 (by decide +kernel), as_const (by decide +kernel)⟩) (xB_l ⟨_, zs_aload_n em50_5, as_aload⟩))) (xB_n (xB_n (xB_l ⟨_, zs_getf (T := TX8) (M := 10) (ci := 8) (j := 0) em50_6 rfl inX8 (by decide) wd_320 ((congrFun xo_9 9).trans rfl), as_getf zTie⟩) (xB_l ⟨_, zs_iconst (v := 0) em50_9 (by decide +kernel), as_const (by decide +kernel)⟩)) (xB_n (xB_l ⟨_, zs_bipush (v := 40) em50_10 (by decide +kernel), as_const (by decide +kernel)⟩) (xB_l ⟨_, zs_copy zInj0 em50_12 wd_840 wd_831 wd_830 wd_131 (by decide +kernel) ((congrFun xo_9 32).trans rfl), as_copy zTie⟩)))) (xB_n (xB_n (xB_n (xB_l ⟨_, zs_aload_n em50_15, as_aload⟩) (xB_l ⟨_, zs_getf (T := TX8) (M := 10) (ci := 8) (j := 1) em50_16 rfl inX8 (by decide) wd_325 ((congrFun xo_9 15).trans rfl), as_getf zTie⟩)) (xB_n (xB_l ⟨_, zs_iconst (v := 0) em50_19 (by decide +kernel), as_const (by decide +kernel)⟩) (xB_l ⟨_, zs_invS em50_20 zl_234 wd_841 wd_152 ((congrFun xo_9 38).trans rfl) xm_207, ag_inv H zh_234 hd (by decide)⟩))) (xB_n (xB_n (xB_l ⟨_, zs_aload_n em50_23, as_aload⟩) (xB_l ⟨_, zs_getf (T := TX8) (M := 10) (ci := 8) (j := 2) em50_24 rfl inX8 (by decide) wd_329 ((congrFun xo_9 18).trans rfl), as_getf zTie⟩)) (xB_n (xB_l ⟨_, zs_iconst (v := 0) em50_27 (by decide +kernel), as_const (by decide +kernel)⟩) (xB_n (xB_l ⟨_, zs_invS em50_28 zl_235 wd_841 wd_152 ((congrFun xo_9 38).trans rfl) xm_207, ag_inv H zh_235 hd (by decide)⟩) (xB_l ⟨_, zs_aload_n em50_31, as_aload⟩)))))) (xB_n (xB_n (xB_n (xB_n (xB_l ⟨_, zs_getf (T := TX8) (M := 10) (ci := 8) (j := 3) em50_32 rfl inX8 (by decide) wd_334 ((congrFun xo_9 21).trans rfl), as_getf zTie⟩) (xB_l ⟨_, zs_iconst (v := 0) em50_35 (by decide +kernel), as_const (by decide +kernel)⟩)) (xB_n (xB_l ⟨_, zs_invS em50_36 zl_236 wd_841 wd_152 ((congrFun xo_9 38).trans rfl) xm_207, ag_inv H zh_236 hd (by decide)⟩) (xB_l ⟨_, zs_aload_n em50_39, as_aload⟩))) (xB_n (xB_n (xB_l ⟨_, zs_iconst (v := 0) em50_40 (by decide +kernel), as_const (by decide +kernel)⟩) (xB_l ⟨_, zs_puti zInj0 (T := TX8) (M := 10) (ty := tyX8) (ci := 8) (j := 5) (kd := 0) em50_41 rfl inX8 tyX8_ok nmX8 (by decide) wd_338 (Or.inl ⟨rfl, rfl⟩) rfl ((congrFun xo_9 44).trans rfl), ag_puti0⟩)) (xB_n (xB_l ⟨_, zs_aload_n em50_44, as_aload⟩) (xB_n (xB_l ⟨_, zs_iconst (v := 0) em50_45 (by decide +kernel), as_const (by decide +kernel)⟩) (xB_l ⟨_, zs_puti zInj0 (T := TX8) (M := 10) (ty := tyX8) (ci := 8) (j := 6) (kd := 0) em50_46 rfl inX8 tyX8_ok nmX8 (by decide) wd_341 (Or.inl ⟨rfl, rfl⟩) rfl ((congrFun xo_9 48).trans rfl), ag_puti0⟩))))) (xB_n (xB_n (xB_n (xB_l ⟨_, zs_aload_n em50_49, as_aload⟩) (xB_l ⟨_, zs_iconst (v := 0) em50_50 (by decide +kernel), as_const (by decide +kernel)⟩)) (xB_n (xB_l ⟨_, zs_puti zInj0 (T := TX8) (M := 10) (ty := tyX8) (ci := 8) (j := 7) (kd := 0) em50_51 rfl inX8 tyX8_ok nmX8 (by decide) wd_346 (Or.inl ⟨rfl, rfl⟩) rfl ((congrFun xo_9 51).trans rfl), ag_puti0⟩) (xB_l ⟨_, zs_aload_n em50_54, as_aload⟩))) (xB_n (xB_n (xB_l ⟨_, zs_iconst (v := 0) em50_55 (by decide +kernel), as_const (by decide +kernel)⟩) (xB_l ⟨_, zs_puti zInj0 (T := TX8) (M := 10) (ty := tyX8) (ci := 8) (j := 8) (kd := 0) em50_56 rfl inX8 tyX8_ok nmX8 (by decide) wd_350 (Or.inl ⟨rfl, rfl⟩) rfl ((congrFun xo_9 54).trans rfl), ag_puti0⟩)) (xB_n (xB_l ⟨_, zs_aload_n em50_59, as_aload⟩) (xB_n (xB_l ⟨_, zs_iconst (v := 0) em50_60 (by decide +kernel), as_const (by decide +kernel)⟩) (xB_l ⟨_, zs_puti zInj0 (T := TX8) (M := 10) (ty := tyX8) (ci := 8) (j := 9) (kd := 0) em50_61 rfl inX8 tyX8_ok nmX8 (by decide) wd_353 (Or.inl ⟨rfl, rfl⟩) rfl ((congrFun xo_9 57).trans rfl), ag_puti0⟩)))))))
set_option maxRecDepth 100000 in
set_option maxHeartbeats 4000000 in
theorem zM_54 : zOKa 54 zc_54 := z_auto (cuts := []) (rets := [(64, 3)]) (fuel := 1000) rfl rfl (by decide) (xrt_ok (xR_c (Or.inr (Or.inr (Or.inl ⟨rfl, em50_64, rfl⟩))) (xR_n))) (fun _ _ H _ hd => zTo_54 H hd) (by decide +kernel)
theorem em51_0 : decode prog_10_method_4_code 0 = .ok (.iconst 0, 1) := by decide +kernel
theorem em51_1 : decode prog_10_method_4_code 1 = .ok (.aload_n 0, 1) := by decide +kernel
theorem em51_2 : decode prog_10_method_4_code 2 = .ok (.getfield 9, 3) := by decide +kernel
theorem em51_5 : decode prog_10_method_4_code 5 = .ok (.iload_n 1, 1) := by decide +kernel
theorem em51_6 : decode prog_10_method_4_code 6 = .ok (.iaload, 1) := by decide +kernel
theorem em51_7 : decode prog_10_method_4_code 7 = .ok (.aload_n 0, 1) := by decide +kernel
theorem em51_8 : decode prog_10_method_4_code 8 = .ok (.getfield 15, 3) := by decide +kernel
theorem em51_11 : decode prog_10_method_4_code 11 = .ok (.iload_n 1, 1) := by decide +kernel
theorem em51_12 : decode prog_10_method_4_code 12 = .ok (.iaload, 1) := by decide +kernel
theorem em51_13 : decode prog_10_method_4_code 13 = .ok (.isub, 1) := by decide +kernel
theorem em51_14 : decode prog_10_method_4_code 14 = .ok (.invokestatic 60, 3) := by decide +kernel
theorem em51_17 : decode prog_10_method_4_code 17 = .ok (.ireturn, 1) := by decide +kernel
/-! CapitalCase$Town.free:(I)I -/
noncomputable def zTr_55 : Nat → Option aF := bn 7 (bn 2 (bn 1 (bl 0 (a_const 0 1)) (bl 1 (a_aload 0 2))) (bn 5 (bl 2 (a_getf zG0 zT0 8 0 5)) (bn 6 (bl 5 (a_iload 1 6)) (bl 6 (a_ald zG0 zT0 (false, false) ts0 7))))) (bn 12 (bn 8 (bl 7 (a_aload 0 8)) (bn 11 (bl 8 (a_getf zG0 zT0 8 1 11)) (bl 11 (a_iload 1 12)))) (bn 13 (bl 12 (a_ald zG0 zT0 (false, false) ts0 13)) (bn 14 (bl 13 (a_bin fsub 14)) (bl 14 (a_math fmax 17)))))
set_option maxRecDepth 100000 in
set_option maxHeartbeats 4000000 in
theorem zTo_55 {pre : zPre} {post : zPost} (H : zTieC pre post) {d : Nat × Nat × Nat} (hd : zLe (0, 0, 0) d) : aTr zG0 zT0 zInv (false, false) PZ zbd pre post d prog_10_method_4_code "CapitalCase$Town" zTr_55 := (xB_n (xB_n (xB_n (xB_l ⟨_, zs_iconst (v := 0) em51_0 (by decide +kernel), as_const (by decide +kernel)⟩) (xB_l ⟨_, zs_aload_n em51_1, as_aload⟩)) (xB_n (xB_l ⟨_, zs_getf (T := TX8) (M := 10) (ci := 8) (j := 0) em51_2 rfl inX8 (by decide) wd_320 ((congrFun xo_9 9).trans rfl), as_getf zTie⟩) (xB_n (xB_l ⟨_, zs_iload_n em51_5, as_iload⟩) (xB_l ⟨_, zs_iald em51_6, ag_iald⟩)))) (xB_n (xB_n (xB_l ⟨_, zs_aload_n em51_7, as_aload⟩) (xB_n (xB_l ⟨_, zs_getf (T := TX8) (M := 10) (ci := 8) (j := 1) em51_8 rfl inX8 (by decide) wd_325 ((congrFun xo_9 15).trans rfl), as_getf zTie⟩) (xB_l ⟨_, zs_iload_n em51_11, as_iload⟩))) (xB_n (xB_l ⟨_, zs_iald em51_12, ag_iald⟩) (xB_n (xB_l ⟨_, zs_isub em51_13, as_bin fsub_ok⟩) (xB_l ⟨_, zs_max em51_14 wd_862 wd_713 wd_129 wz_max ((congrFun xo_9 60).trans rfl), as_math fmax_ok⟩)))))
set_option maxRecDepth 100000 in
set_option maxHeartbeats 4000000 in
theorem zM_55 : zOKa 55 zc_55 := z_auto (cuts := []) (rets := [(17, 1)]) (fuel := 1000) rfl rfl (by decide) (xrt_ok (xR_c (Or.inl ⟨rfl, em51_17, rfl⟩) (xR_n))) (fun _ _ H _ hd => zTo_55 H hd) (by decide +kernel)
theorem em52_0 : decode prog_10_method_8_code 0 = .ok (.iconst 0, 1) := by decide +kernel
theorem em52_1 : decode prog_10_method_8_code 1 = .ok (.istore 4, 2) := by decide +kernel
theorem em52_3 : decode prog_10_method_8_code 3 = .ok (.iload 4, 2) := by decide +kernel
theorem em52_5 : decode prog_10_method_8_code 5 = .ok (.aload_n 1, 1) := by decide +kernel
theorem em52_6 : decode prog_10_method_8_code 6 = .ok (.getfield 66, 3) := by decide +kernel
theorem em52_9 : decode prog_10_method_8_code 9 = .ok (.iload_n 2, 1) := by decide +kernel
theorem em52_10 : decode prog_10_method_8_code 10 = .ok (.iaload, 1) := by decide +kernel
theorem em52_11 : decode prog_10_method_8_code 11 = .ok (.if_icmp .ge 53, 3) := by decide +kernel
theorem em52_14 : decode prog_10_method_8_code 14 = .ok (.iload_n 2, 1) := by decide +kernel
theorem em52_15 : decode prog_10_method_8_code 15 = .ok (.bipush 8, 2) := by decide +kernel
theorem em52_17 : decode prog_10_method_8_code 17 = .ok (.imul, 1) := by decide +kernel
theorem em52_18 : decode prog_10_method_8_code 18 = .ok (.iload 4, 2) := by decide +kernel
theorem em52_20 : decode prog_10_method_8_code 20 = .ok (.iadd, 1) := by decide +kernel
theorem em52_21 : decode prog_10_method_8_code 21 = .ok (.istore 5, 2) := by decide +kernel
theorem em52_23 : decode prog_10_method_8_code 23 = .ok (.aload_n 0, 1) := by decide +kernel
theorem em52_24 : decode prog_10_method_8_code 24 = .ok (.getfield 24, 3) := by decide +kernel
theorem em52_27 : decode prog_10_method_8_code 27 = .ok (.iload 5, 2) := by decide +kernel
theorem em52_29 : decode prog_10_method_8_code 29 = .ok (.aload_n 3, 1) := by decide +kernel
theorem em52_30 : decode prog_10_method_8_code 30 = .ok (.iload 5, 2) := by decide +kernel
theorem em52_32 : decode prog_10_method_8_code 32 = .ok (.iaload, 1) := by decide +kernel
theorem em52_33 : decode prog_10_method_8_code 33 = .ok (.iastore, 1) := by decide +kernel
theorem em52_34 : decode prog_10_method_8_code 34 = .ok (.aload_n 0, 1) := by decide +kernel
theorem em52_35 : decode prog_10_method_8_code 35 = .ok (.getfield 15, 3) := by decide +kernel
theorem em52_38 : decode prog_10_method_8_code 38 = .ok (.aload_n 3, 1) := by decide +kernel
theorem em52_39 : decode prog_10_method_8_code 39 = .ok (.iload 5, 2) := by decide +kernel
theorem em52_41 : decode prog_10_method_8_code 41 = .ok (.iaload, 1) := by decide +kernel
theorem em52_42 : decode prog_10_method_8_code 42 = .ok (.bipush 8, 2) := by decide +kernel
theorem em52_44 : decode prog_10_method_8_code 44 = .ok (.imul, 1) := by decide +kernel
theorem em52_45 : decode prog_10_method_8_code 45 = .ok (.aload_n 1, 1) := by decide +kernel
theorem em52_46 : decode prog_10_method_8_code 46 = .ok (.getfield 69, 3) := by decide +kernel
theorem em52_49 : decode prog_10_method_8_code 49 = .ok (.iload 5, 2) := by decide +kernel
theorem em52_51 : decode prog_10_method_8_code 51 = .ok (.iaload, 1) := by decide +kernel
theorem em52_52 : decode prog_10_method_8_code 52 = .ok (.iadd, 1) := by decide +kernel
theorem em52_53 : decode prog_10_method_8_code 53 = .ok (.dup2, 1) := by decide +kernel
theorem em52_54 : decode prog_10_method_8_code 54 = .ok (.iaload, 1) := by decide +kernel
theorem em52_55 : decode prog_10_method_8_code 55 = .ok (.iconst 1, 1) := by decide +kernel
theorem em52_56 : decode prog_10_method_8_code 56 = .ok (.iadd, 1) := by decide +kernel
theorem em52_57 : decode prog_10_method_8_code 57 = .ok (.iastore, 1) := by decide +kernel
theorem em52_58 : decode prog_10_method_8_code 58 = .ok (.iinc 4 1, 3) := by decide +kernel
theorem em52_61 : decode prog_10_method_8_code 61 = .ok (.goto (-58), 3) := by decide +kernel
theorem em52_64 : decode prog_10_method_8_code 64 = .ok (.aload_n 0, 1) := by decide +kernel
theorem em52_65 : decode prog_10_method_8_code 65 = .ok (.dup, 1) := by decide +kernel
theorem em52_66 : decode prog_10_method_8_code 66 = .ok (.getfield 44, 3) := by decide +kernel
theorem em52_69 : decode prog_10_method_8_code 69 = .ok (.iconst 1, 1) := by decide +kernel
theorem em52_70 : decode prog_10_method_8_code 70 = .ok (.iload_n 2, 1) := by decide +kernel
theorem em52_71 : decode prog_10_method_8_code 71 = .ok (.ishl, 1) := by decide +kernel
theorem em52_72 : decode prog_10_method_8_code 72 = .ok (.ior, 1) := by decide +kernel
theorem em52_73 : decode prog_10_method_8_code 73 = .ok (.putfield 44, 3) := by decide +kernel
theorem em52_76 : decode prog_10_method_8_code 76 = .ok (.return_, 1) := by decide +kernel
/-! CapitalCase$Town.lay:(LCapitalCase$Script;I[I)V -/
noncomputable def zTr_56 : Nat → Option aF := bn 39 (bn 20 (bn 10 (bn 5 (bn 1 (bl 0 (a_const 0 1)) (bn 3 (bl 1 (a_istore 4 3)) (bl 3 (a_iload 4 5)))) (bn 6 (bl 5 (a_aload 1 6)) (bn 9 (bl 6 (a_getf zG0 zT0 6 8 9)) (bl 9 (a_iload 2 10))))) (bn 15 (bn 11 (bl 10 (a_ald zG0 zT0 (true, false) ts0 11)) (bn 14 (bl 11 (a_icmp 3 64 14)) (bl 14 (a_iload 2 15)))) (bn 17 (bl 15 (a_const 8 17)) (bn 18 (bl 17 (a_bin fmul 18)) (bl 18 (a_iload 4 20)))))) (bn 30 (bn 24 (bn 21 (bl 20 (a_bin fadd 21)) (bn 23 (bl 21 (a_istore 5 23)) (bl 23 (a_aload 0 24)))) (bn 27 (bl 24 (a_getf zG0 zT0 8 4 27)) (bn 29 (bl 27 (a_iload 5 29)) (bl 29 (a_aload 3 30))))) (bn 34 (bn 32 (bl 30 (a_iload 5 32)) (bn 33 (bl 32 (a_ald zG0 zT0 (true, false) ts0 33)) (bl 33 (a_ast zG0 zT0 ts0 34)))) (bn 35 (bl 34 (a_aload 0 35)) (bn 38 (bl 35 (a_getf zG0 zT0 8 1 38)) (bl 38 (a_aload 3 39))))))) (bn 56 (bn 49 (bn 44 (bn 41 (bl 39 (a_iload 5 41)) (bn 42 (bl 41 (a_ald zG0 zT0 (true, false) ts0 42)) (bl 42 (a_const 8 44)))) (bn 45 (bl 44 (a_bin fmul 45)) (bn 46 (bl 45 (a_aload 1 46)) (bl 46 (a_getf zG0 zT0 6 9 49))))) (bn 53 (bn 51 (bl 49 (a_iload 5 51)) (bn 52 (bl 51 (a_ald zG0 zT0 (true, false) ts0 52)) (bl 52 (a_bin fadd 53)))) (bn 54 (bl 53 (a_dup2 54)) (bn 55 (bl 54 (a_ald zG0 zT0 (true, false) ts0 55)) (bl 55 (a_const 1 56)))))) (bn 66 (bn 61 (bn 57 (bl 56 (a_bin fadd 57)) (bn 58 (bl 57 (a_ast zG0 zT0 ts0 58)) (bl 58 (a_iinc 4 1 61)))) (bn 64 (bl 61 (a_goto 3)) (bn 65 (bl 64 (a_aload 0 65)) (bl 65 (a_dup 66))))) (bn 71 (bn 69 (bl 66 (a_getf zG0 zT0 8 5 69)) (bn 70 (bl 69 (a_const 1 70)) (bl 70 (a_iload 2 71)))) (bn 72 (bl 71 (a_bin fshl 72)) (bn 73 (bl 72 (a_bin fany 73)) (bl 73 (a_puti zG0 zT0 zprot 8 5 0 76)))))))
set_option maxRecDepth 100000 in
set_option maxHeartbeats 4000000 in
theorem zTo_56 {pre : zPre} {post : zPost} (H : zTieC pre post) {d : Nat × Nat × Nat} (hd : zLe (0, 0, 0) d) : aTr zG0 zT0 zInv (true, false) PZ zbd pre post d prog_10_method_8_code "CapitalCase$Town" zTr_56 := (xB_n (xB_n (xB_n (xB_n (xB_n (xB_l ⟨_, zs_iconst (v := 0) em52_0 (by decide +kernel), as_const (by decide +kernel)⟩) (xB_n (xB_l ⟨_, zs_istore em52_1, as_istore⟩) (xB_l ⟨_, zs_iload em52_3, as_iload⟩))) (xB_n (xB_l ⟨_, zs_aload_n em52_5, as_aload⟩) (xB_n (xB_l ⟨_, zs_getf (T := TX6) (M := 15) (ci := 6) (j := 8) em52_6 rfl inX6 (by decide) wd_199 ((congrFun xo_9 66).trans rfl), as_getf zTie⟩) (xB_l ⟨_, zs_iload_n em52_9, as_iload⟩)))) (xB_n (xB_n (xB_l ⟨_, zs_iald em52_10, ag_iald⟩) (xB_n (xB_l ⟨_, zs_icmpge em52_11 (t := 64) (by decide), as_icmp⟩) (xB_l ⟨_, zs_iload_n em52_14, as_iload⟩))) (xB_n (xB_l ⟨_, zs_bipush (v := 8) em52_15 (by decide +kernel), as_const (by decide +kernel)⟩) (xB_n (xB_l ⟨_, zs_imul em52_17, as_bin fmul_ok⟩) (xB_l ⟨_, zs_iload em52_18, as_iload⟩))))) (xB_n (xB_n (xB_n (xB_l ⟨_, zs_iadd em52_20, as_bin fadd_ok⟩) (xB_n (xB_l ⟨_, zs_istore em52_21, as_istore⟩) (xB_l ⟨_, zs_aload_n em52_23, as_aload⟩))) (xB_n (xB_l ⟨_, zs_getf (T := TX8) (M := 10) (ci := 8) (j := 4) em52_24 rfl inX8 (by decide) wd_336 ((congrFun xo_9 24).trans rfl), as_getf zTie⟩) (xB_n (xB_l ⟨_, zs_iload em52_27, as_iload⟩) (xB_l ⟨_, zs_aload_n em52_29, as_aload⟩)))) (xB_n (xB_n (xB_l ⟨_, zs_iload em52_30, as_iload⟩) (xB_n (xB_l ⟨_, zs_iald em52_32, ag_iald⟩) (xB_l ⟨_, zs_iast zInj0 em52_33, as_iast zTie⟩))) (xB_n (xB_l ⟨_, zs_aload_n em52_34, as_aload⟩) (xB_n (xB_l ⟨_, zs_getf (T := TX8) (M := 10) (ci := 8) (j := 1) em52_35 rfl inX8 (by decide) wd_325 ((congrFun xo_9 15).trans rfl), as_getf zTie⟩) (xB_l ⟨_, zs_aload_n em52_38, as_aload⟩)))))) (xB_n (xB_n (xB_n (xB_n (xB_l ⟨_, zs_iload em52_39, as_iload⟩) (xB_n (xB_l ⟨_, zs_iald em52_41, ag_iald⟩) (xB_l ⟨_, zs_bipush (v := 8) em52_42 (by decide +kernel), as_const (by decide +kernel)⟩))) (xB_n (xB_l ⟨_, zs_imul em52_44, as_bin fmul_ok⟩) (xB_n (xB_l ⟨_, zs_aload_n em52_45, as_aload⟩) (xB_l ⟨_, zs_getf (T := TX6) (M := 15) (ci := 6) (j := 9) em52_46 rfl inX6 (by decide) wd_204 ((congrFun xo_9 69).trans rfl), as_getf zTie⟩)))) (xB_n (xB_n (xB_l ⟨_, zs_iload em52_49, as_iload⟩) (xB_n (xB_l ⟨_, zs_iald em52_51, ag_iald⟩) (xB_l ⟨_, zs_iadd em52_52, as_bin fadd_ok⟩))) (xB_n (xB_l ⟨_, zs_dup2 em52_53, as_dup2⟩) (xB_n (xB_l ⟨_, zs_iald em52_54, ag_iald⟩) (xB_l ⟨_, zs_iconst (v := 1) em52_55 (by decide +kernel), as_const (by decide +kernel)⟩))))) (xB_n (xB_n (xB_n (xB_l ⟨_, zs_iadd em52_56, as_bin fadd_ok⟩) (xB_n (xB_l ⟨_, zs_iast zInj0 em52_57, as_iast zTie⟩) (xB_l ⟨_, zs_iinc (k := 1) em52_58 (by decide +kernel), as_iinc (by decide +kernel)⟩))) (xB_n (xB_l ⟨_, zs_goto em52_61 (t := 3) (by decide), as_goto⟩) (xB_n (xB_l ⟨_, zs_aload_n em52_64, as_aload⟩) (xB_l ⟨_, zs_dup em52_65, as_dup⟩)))) (xB_n (xB_n (xB_l ⟨_, zs_getf (T := TX8) (M := 10) (ci := 8) (j := 5) em52_66 rfl inX8 (by decide) wd_338 ((congrFun xo_9 44).trans rfl), as_getf zTie⟩) (xB_n (xB_l ⟨_, zs_iconst (v := 1) em52_69 (by decide +kernel), as_const (by decide +kernel)⟩) (xB_l ⟨_, zs_iload_n em52_70, as_iload⟩))) (xB_n (xB_l ⟨_, zs_ishl em52_71, as_bin fshl_ok⟩) (xB_n (xB_l ⟨_, zs_ior em52_72, as_bin fany_ok⟩) (xB_l ⟨_, zs_puti zInj0 (T := TX8) (M := 10) (ty := tyX8) (ci := 8) (j := 5) (kd := 0) em52_73 rfl inX8 tyX8_ok nmX8 (by decide) wd_338 (Or.inl ⟨rfl, rfl⟩) rfl ((congrFun xo_9 44).trans rfl), ag_puti0⟩)))))))
set_option maxRecDepth 100000 in
set_option maxHeartbeats 4000000 in
theorem zM_56 : zOKa 56 zc_56 := z_auto (cuts := [(3, ([(0, 0), (0, 6), (0, 8)], [], [some (.inr (.inl (1, 1000))), some (.inr (.inl (0, 2))), some (.inl (1, 0)), some (.inr (.inl (1, 2002))), some (.inl (2, 0)), none], [], [], (0, 0)), [(0, 4)], 8, [0, 0, (-1)])]) (rets := [(76, 3)]) (fuel := 1000) rfl rfl (by decide) (xrt_ok (xR_c (Or.inr (Or.inr (Or.inl ⟨rfl, em52_76, rfl⟩))) (xR_n))) (fun _ _ H _ hd => zTo_56 H hd) (by decide +kernel)
theorem em53_0 : decode prog_10_method_5_code 0 = .ok (.iconst 0, 1) := by decide +kernel
theorem em53_1 : decode prog_10_method_5_code 1 = .ok (.istore_n 3, 1) := by decide +kernel
theorem em53_2 : decode prog_10_method_5_code 2 = .ok (.iconst 0, 1) := by decide +kernel
theorem em53_3 : decode prog_10_method_5_code 3 = .ok (.istore 4, 2) := by decide +kernel
theorem em53_5 : decode prog_10_method_5_code 5 = .ok (.iload 4, 2) := by decide +kernel
theorem em53_7 : decode prog_10_method_5_code 7 = .ok (.iconst 5, 1) := by decide +kernel
theorem em53_8 : decode prog_10_method_5_code 8 = .ok (.if_icmp .ge 28, 3) := by decide +kernel
theorem em53_11 : decode prog_10_method_5_code 11 = .ok (.iload_n 3, 1) := by decide +kernel
theorem em53_12 : decode prog_10_method_5_code 12 = .ok (.aload_n 0, 1) := by decide +kernel
theorem em53_13 : decode prog_10_method_5_code 13 = .ok (.getfield 21, 3) := by decide +kernel
theorem em53_16 : decode prog_10_method_5_code 16 = .ok (.iload_n 1, 1) := by decide +kernel
theorem em53_17 : decode prog_10_method_5_code 17 = .ok (.iconst 5, 1) := by decide +kernel
theorem em53_18 : decode prog_10_method_5_code 18 = .ok (.imul, 1) := by decide +kernel
theorem em53_19 : decode prog_10_method_5_code 19 = .ok (.iload 4, 2) := by decide +kernel
theorem em53_21 : decode prog_10_method_5_code 21 = .ok (.iadd, 1) := by decide +kernel
theorem em53_22 : decode prog_10_method_5_code 22 = .ok (.bipush 8, 2) := by decide +kernel
theorem em53_24 : decode prog_10_method_5_code 24 = .ok (.imul, 1) := by decide +kernel
theorem em53_25 : decode prog_10_method_5_code 25 = .ok (.iload_n 2, 1) := by decide +kernel
theorem em53_26 : decode prog_10_method_5_code 26 = .ok (.iadd, 1) := by decide +kernel
theorem em53_27 : decode prog_10_method_5_code 27 = .ok (.iaload, 1) := by decide +kernel
theorem em53_28 : decode prog_10_method_5_code 28 = .ok (.iadd, 1) := by decide +kernel
theorem em53_29 : decode prog_10_method_5_code 29 = .ok (.istore_n 3, 1) := by decide +kernel
theorem em53_30 : decode prog_10_method_5_code 30 = .ok (.iinc 4 1, 3) := by decide +kernel
theorem em53_33 : decode prog_10_method_5_code 33 = .ok (.goto (-28), 3) := by decide +kernel
theorem em53_36 : decode prog_10_method_5_code 36 = .ok (.iload_n 3, 1) := by decide +kernel
theorem em53_37 : decode prog_10_method_5_code 37 = .ok (.ireturn, 1) := by decide +kernel
/-! CapitalCase$Town.lentBy:(II)I -/
noncomputable def zTr_57 : Nat → Option aF := bn 18 (bn 8 (bn 3 (bn 1 (bl 0 (a_const 0 1)) (bn 2 (bl 1 (a_istore 3 2)) (bl 2 (a_const 0 3)))) (bn 5 (bl 3 (a_istore 4 5)) (bn 7 (bl 5 (a_iload 4 7)) (bl 7 (a_const 5 8))))) (bn 13 (bn 11 (bl 8 (a_icmp 3 36 11)) (bn 12 (bl 11 (a_iload 3 12)) (bl 12 (a_aload 0 13)))) (bn 16 (bl 13 (a_getf zG0 zT0 8 3 16)) (bn 17 (bl 16 (a_iload 1 17)) (bl 17 (a_const 5 18)))))) (bn 26 (bn 22 (bn 19 (bl 18 (a_bin fmul 19)) (bn 21 (bl 19 (a_iload 4 21)) (bl 21 (a_bin fadd 22)))) (bn 24 (bl 22 (a_const 8 24)) (bn 25 (bl 24 (a_bin fmul 25)) (bl 25 (a_iload 2 26))))) (bn 29 (bn 27 (bl 26 (a_bin fadd 27)) (bn 28 (bl 27 (a_ald zG0 zT0 (false, false) ts0 28)) (bl 28 (a_bin fadd 29)))) (bn 33 (bn 30 (bl 29 (a_istore 3 30)) (bl 30 (a_iinc 4 1 33))) (bn 36 (bl 33 (a_goto 5)) (bl 36 (a_iload 3 37))))))
set_option maxRecDepth 100000 in
set_option maxHeartbeats 4000000 in
theorem zTo_57 {pre : zPre} {post : zPost} (H : zTieC pre post) {d : Nat × Nat × Nat} (hd : zLe (0, 0, 0) d) : aTr zG0 zT0 zInv (false, false) PZ zbd pre post d prog_10_method_5_code "CapitalCase$Town" zTr_57 := (xB_n (xB_n (xB_n (xB_n (xB_l ⟨_, zs_iconst (v := 0) em53_0 (by decide +kernel), as_const (by decide +kernel)⟩) (xB_n (xB_l ⟨_, zs_istore_n em53_1, as_istore⟩) (xB_l ⟨_, zs_iconst (v := 0) em53_2 (by decide +kernel), as_const (by decide +kernel)⟩))) (xB_n (xB_l ⟨_, zs_istore em53_3, as_istore⟩) (xB_n (xB_l ⟨_, zs_iload em53_5, as_iload⟩) (xB_l ⟨_, zs_iconst (v := 5) em53_7 (by decide +kernel), as_const (by decide +kernel)⟩)))) (xB_n (xB_n (xB_l ⟨_, zs_icmpge em53_8 (t := 36) (by decide), as_icmp⟩) (xB_n (xB_l ⟨_, zs_iload_n em53_11, as_iload⟩) (xB_l ⟨_, zs_aload_n em53_12, as_aload⟩))) (xB_n (xB_l ⟨_, zs_getf (T := TX8) (M := 10) (ci := 8) (j := 3) em53_13 rfl inX8 (by decide) wd_334 ((congrFun xo_9 21).trans rfl), as_getf zTie⟩) (xB_n (xB_l ⟨_, zs_iload_n em53_16, as_iload⟩) (xB_l ⟨_, zs_iconst (v := 5) em53_17 (by decide +kernel), as_const (by decide +kernel)⟩))))) (xB_n (xB_n (xB_n (xB_l ⟨_, zs_imul em53_18, as_bin fmul_ok⟩) (xB_n (xB_l ⟨_, zs_iload em53_19, as_iload⟩) (xB_l ⟨_, zs_iadd em53_21, as_bin fadd_ok⟩))) (xB_n (xB_l ⟨_, zs_bipush (v := 8) em53_22 (by decide +kernel), as_const (by decide +kernel)⟩) (xB_n (xB_l ⟨_, zs_imul em53_24, as_bin fmul_ok⟩) (xB_l ⟨_, zs_iload_n em53_25, as_iload⟩)))) (xB_n (xB_n (xB_l ⟨_, zs_iadd em53_26, as_bin fadd_ok⟩) (xB_n (xB_l ⟨_, zs_iald em53_27, ag_iald⟩) (xB_l ⟨_, zs_iadd em53_28, as_bin fadd_ok⟩))) (xB_n (xB_n (xB_l ⟨_, zs_istore_n em53_29, as_istore⟩) (xB_l ⟨_, zs_iinc (k := 1) em53_30 (by decide +kernel), as_iinc (by decide +kernel)⟩)) (xB_n (xB_l ⟨_, zs_goto em53_33 (t := 5) (by decide), as_goto⟩) (xB_l ⟨_, zs_iload_n em53_36, as_iload⟩))))))
set_option maxRecDepth 100000 in
set_option maxHeartbeats 4000000 in
theorem zM_57 : zOKa 57 zc_57 := z_auto (cuts := [(5, ([(0, 0), (0, 4), (0, 7), ((-2147483648), 2147483647), (0, 5)], [], [some (.inr (.inl (1, 1000))), some (.inl (1, 0)), some (.inl (2, 0)), some (.inl (3, 0)), some (.inl (4, 0))], [], [], (0, 0)), [(0, 3), (0, 4)], 5, [0, 0, 0, 0, (-1)])]) (rets := [(37, 1)]) (fuel := 1000) rfl rfl (by decide) (xrt_ok (xR_c (Or.inl ⟨rfl, em53_37, rfl⟩) (xR_n))) (fun _ _ H _ hd => zTo_57 H hd) (by decide +kernel)
theorem em54_0 : decode prog_10_method_6_code 0 = .ok (.iconst 0, 1) := by decide +kernel
theorem em54_1 : decode prog_10_method_6_code 1 = .ok (.istore_n 3, 1) := by decide +kernel
theorem em54_2 : decode prog_10_method_6_code 2 = .ok (.iconst 0, 1) := by decide +kernel
theorem em54_3 : decode prog_10_method_6_code 3 = .ok (.istore 4, 2) := by decide +kernel
theorem em54_5 : decode prog_10_method_6_code 5 = .ok (.iload 4, 2) := by decide +kernel
theorem em54_7 : decode prog_10_method_6_code 7 = .ok (.iconst 5, 1) := by decide +kernel
theorem em54_8 : decode prog_10_method_6_code 8 = .ok (.if_icmp .ge 28, 3) := by decide +kernel
theorem em54_11 : decode prog_10_method_6_code 11 = .ok (.iload_n 3, 1) := by decide +kernel
theorem em54_12 : decode prog_10_method_6_code 12 = .ok (.aload_n 0, 1) := by decide +kernel
theorem em54_13 : decode prog_10_method_6_code 13 = .ok (.getfield 21, 3) := by decide +kernel
theorem em54_16 : decode prog_10_method_6_code 16 = .ok (.iload 4, 2) := by decide +kernel
theorem em54_18 : decode prog_10_method_6_code 18 = .ok (.iconst 5, 1) := by decide +kernel
theorem em54_19 : decode prog_10_method_6_code 19 = .ok (.imul, 1) := by decide +kernel
theorem em54_20 : decode prog_10_method_6_code 20 = .ok (.iload_n 1, 1) := by decide +kernel
theorem em54_21 : decode prog_10_method_6_code 21 = .ok (.iadd, 1) := by decide +kernel
theorem em54_22 : decode prog_10_method_6_code 22 = .ok (.bipush 8, 2) := by decide +kernel
theorem em54_24 : decode prog_10_method_6_code 24 = .ok (.imul, 1) := by decide +kernel
theorem em54_25 : decode prog_10_method_6_code 25 = .ok (.iload_n 2, 1) := by decide +kernel
theorem em54_26 : decode prog_10_method_6_code 26 = .ok (.iadd, 1) := by decide +kernel
theorem em54_27 : decode prog_10_method_6_code 27 = .ok (.iaload, 1) := by decide +kernel
theorem em54_28 : decode prog_10_method_6_code 28 = .ok (.iadd, 1) := by decide +kernel
theorem em54_29 : decode prog_10_method_6_code 29 = .ok (.istore_n 3, 1) := by decide +kernel
theorem em54_30 : decode prog_10_method_6_code 30 = .ok (.iinc 4 1, 3) := by decide +kernel
theorem em54_33 : decode prog_10_method_6_code 33 = .ok (.goto (-28), 3) := by decide +kernel
theorem em54_36 : decode prog_10_method_6_code 36 = .ok (.iload_n 3, 1) := by decide +kernel
theorem em54_37 : decode prog_10_method_6_code 37 = .ok (.ireturn, 1) := by decide +kernel
/-! CapitalCase$Town.lentTo:(II)I -/
noncomputable def zTr_58 : Nat → Option aF := bn 19 (bn 8 (bn 3 (bn 1 (bl 0 (a_const 0 1)) (bn 2 (bl 1 (a_istore 3 2)) (bl 2 (a_const 0 3)))) (bn 5 (bl 3 (a_istore 4 5)) (bn 7 (bl 5 (a_iload 4 7)) (bl 7 (a_const 5 8))))) (bn 13 (bn 11 (bl 8 (a_icmp 3 36 11)) (bn 12 (bl 11 (a_iload 3 12)) (bl 12 (a_aload 0 13)))) (bn 16 (bl 13 (a_getf zG0 zT0 8 3 16)) (bn 18 (bl 16 (a_iload 4 18)) (bl 18 (a_const 5 19)))))) (bn 26 (bn 22 (bn 20 (bl 19 (a_bin fmul 20)) (bn 21 (bl 20 (a_iload 1 21)) (bl 21 (a_bin fadd 22)))) (bn 24 (bl 22 (a_const 8 24)) (bn 25 (bl 24 (a_bin fmul 25)) (bl 25 (a_iload 2 26))))) (bn 29 (bn 27 (bl 26 (a_bin fadd 27)) (bn 28 (bl 27 (a_ald zG0 zT0 (false, false) ts0 28)) (bl 28 (a_bin fadd 29)))) (bn 33 (bn 30 (bl 29 (a_istore 3 30)) (bl 30 (a_iinc 4 1 33))) (bn 36 (bl 33 (a_goto 5)) (bl 36 (a_iload 3 37))))))
set_option maxRecDepth 100000 in
set_option maxHeartbeats 4000000 in
theorem zTo_58 {pre : zPre} {post : zPost} (H : zTieC pre post) {d : Nat × Nat × Nat} (hd : zLe (0, 0, 0) d) : aTr zG0 zT0 zInv (false, false) PZ zbd pre post d prog_10_method_6_code "CapitalCase$Town" zTr_58 := (xB_n (xB_n (xB_n (xB_n (xB_l ⟨_, zs_iconst (v := 0) em54_0 (by decide +kernel), as_const (by decide +kernel)⟩) (xB_n (xB_l ⟨_, zs_istore_n em54_1, as_istore⟩) (xB_l ⟨_, zs_iconst (v := 0) em54_2 (by decide +kernel), as_const (by decide +kernel)⟩))) (xB_n (xB_l ⟨_, zs_istore em54_3, as_istore⟩) (xB_n (xB_l ⟨_, zs_iload em54_5, as_iload⟩) (xB_l ⟨_, zs_iconst (v := 5) em54_7 (by decide +kernel), as_const (by decide +kernel)⟩)))) (xB_n (xB_n (xB_l ⟨_, zs_icmpge em54_8 (t := 36) (by decide), as_icmp⟩) (xB_n (xB_l ⟨_, zs_iload_n em54_11, as_iload⟩) (xB_l ⟨_, zs_aload_n em54_12, as_aload⟩))) (xB_n (xB_l ⟨_, zs_getf (T := TX8) (M := 10) (ci := 8) (j := 3) em54_13 rfl inX8 (by decide) wd_334 ((congrFun xo_9 21).trans rfl), as_getf zTie⟩) (xB_n (xB_l ⟨_, zs_iload em54_16, as_iload⟩) (xB_l ⟨_, zs_iconst (v := 5) em54_18 (by decide +kernel), as_const (by decide +kernel)⟩))))) (xB_n (xB_n (xB_n (xB_l ⟨_, zs_imul em54_19, as_bin fmul_ok⟩) (xB_n (xB_l ⟨_, zs_iload_n em54_20, as_iload⟩) (xB_l ⟨_, zs_iadd em54_21, as_bin fadd_ok⟩))) (xB_n (xB_l ⟨_, zs_bipush (v := 8) em54_22 (by decide +kernel), as_const (by decide +kernel)⟩) (xB_n (xB_l ⟨_, zs_imul em54_24, as_bin fmul_ok⟩) (xB_l ⟨_, zs_iload_n em54_25, as_iload⟩)))) (xB_n (xB_n (xB_l ⟨_, zs_iadd em54_26, as_bin fadd_ok⟩) (xB_n (xB_l ⟨_, zs_iald em54_27, ag_iald⟩) (xB_l ⟨_, zs_iadd em54_28, as_bin fadd_ok⟩))) (xB_n (xB_n (xB_l ⟨_, zs_istore_n em54_29, as_istore⟩) (xB_l ⟨_, zs_iinc (k := 1) em54_30 (by decide +kernel), as_iinc (by decide +kernel)⟩)) (xB_n (xB_l ⟨_, zs_goto em54_33 (t := 5) (by decide), as_goto⟩) (xB_l ⟨_, zs_iload_n em54_36, as_iload⟩))))))
set_option maxRecDepth 100000 in
set_option maxHeartbeats 4000000 in
theorem zM_58 : zOKa 58 zc_58 := z_auto (cuts := [(5, ([(0, 0), (0, 4), (0, 7), ((-2147483648), 2147483647), (0, 5)], [], [some (.inr (.inl (1, 1000))), some (.inl (1, 0)), some (.inl (2, 0)), some (.inl (3, 0)), some (.inl (4, 0))], [], [], (0, 0)), [(0, 3), (0, 4)], 5, [0, 0, 0, 0, (-1)])]) (rets := [(37, 1)]) (fuel := 1000) rfl rfl (by decide) (xrt_ok (xR_c (Or.inl ⟨rfl, em54_37, rfl⟩) (xR_n))) (fun _ _ H _ hd => zTo_58 H hd) (by decide +kernel)
theorem em55_0 : decode prog_10_method_9_code 0 = .ok (.iconst 0, 1) := by decide +kernel
theorem em55_1 : decode prog_10_method_9_code 1 = .ok (.istore_n 3, 1) := by decide +kernel
theorem em55_2 : decode prog_10_method_9_code 2 = .ok (.iload_n 3, 1) := by decide +kernel
theorem em55_3 : decode prog_10_method_9_code 3 = .ok (.aload_n 1, 1) := by decide +kernel
theorem em55_4 : decode prog_10_method_9_code 4 = .ok (.getfield 66, 3) := by decide +kernel
theorem em55_7 : decode prog_10_method_9_code 7 = .ok (.iload_n 2, 1) := by decide +kernel
theorem em55_8 : decode prog_10_method_9_code 8 = .ok (.iaload, 1) := by decide +kernel
theorem em55_9 : decode prog_10_method_9_code 9 = .ok (.if_icmp .ge 44, 3) := by decide +kernel
theorem em55_12 : decode prog_10_method_9_code 12 = .ok (.iload_n 2, 1) := by decide +kernel
theorem em55_13 : decode prog_10_method_9_code 13 = .ok (.bipush 8, 2) := by decide +kernel
theorem em55_15 : decode prog_10_method_9_code 15 = .ok (.imul, 1) := by decide +kernel
theorem em55_16 : decode prog_10_method_9_code 16 = .ok (.iload_n 3, 1) := by decide +kernel
theorem em55_17 : decode prog_10_method_9_code 17 = .ok (.iadd, 1) := by decide +kernel
theorem em55_18 : decode prog_10_method_9_code 18 = .ok (.istore 4, 2) := by decide +kernel
theorem em55_20 : decode prog_10_method_9_code 20 = .ok (.aload_n 0, 1) := by decide +kernel
theorem em55_21 : decode prog_10_method_9_code 21 = .ok (.getfield 15, 3) := by decide +kernel
theorem em55_24 : decode prog_10_method_9_code 24 = .ok (.aload_n 0, 1) := by decide +kernel
theorem em55_25 : decode prog_10_method_9_code 25 = .ok (.getfield 24, 3) := by decide +kernel
theorem em55_28 : decode prog_10_method_9_code 28 = .ok (.iload 4, 2) := by decide +kernel
theorem em55_30 : decode prog_10_method_9_code 30 = .ok (.iaload, 1) := by decide +kernel
theorem em55_31 : decode prog_10_method_9_code 31 = .ok (.bipush 8, 2) := by decide +kernel
theorem em55_33 : decode prog_10_method_9_code 33 = .ok (.imul, 1) := by decide +kernel
theorem em55_34 : decode prog_10_method_9_code 34 = .ok (.aload_n 1, 1) := by decide +kernel
theorem em55_35 : decode prog_10_method_9_code 35 = .ok (.getfield 69, 3) := by decide +kernel
theorem em55_38 : decode prog_10_method_9_code 38 = .ok (.iload 4, 2) := by decide +kernel
theorem em55_40 : decode prog_10_method_9_code 40 = .ok (.iaload, 1) := by decide +kernel
theorem em55_41 : decode prog_10_method_9_code 41 = .ok (.iadd, 1) := by decide +kernel
theorem em55_42 : decode prog_10_method_9_code 42 = .ok (.dup2, 1) := by decide +kernel
theorem em55_43 : decode prog_10_method_9_code 43 = .ok (.iaload, 1) := by decide +kernel
theorem em55_44 : decode prog_10_method_9_code 44 = .ok (.iconst 1, 1) := by decide +kernel
theorem em55_45 : decode prog_10_method_9_code 45 = .ok (.isub, 1) := by decide +kernel
theorem em55_46 : decode prog_10_method_9_code 46 = .ok (.iastore, 1) := by decide +kernel
theorem em55_47 : decode prog_10_method_9_code 47 = .ok (.iinc 3 1, 3) := by decide +kernel
theorem em55_50 : decode prog_10_method_9_code 50 = .ok (.goto (-48), 3) := by decide +kernel
theorem em55_53 : decode prog_10_method_9_code 53 = .ok (.aload_n 0, 1) := by decide +kernel
theorem em55_54 : decode prog_10_method_9_code 54 = .ok (.dup, 1) := by decide +kernel
theorem em55_55 : decode prog_10_method_9_code 55 = .ok (.getfield 44, 3) := by decide +kernel
theorem em55_58 : decode prog_10_method_9_code 58 = .ok (.iconst 1, 1) := by decide +kernel
theorem em55_59 : decode prog_10_method_9_code 59 = .ok (.iload_n 2, 1) := by decide +kernel
theorem em55_60 : decode prog_10_method_9_code 60 = .ok (.ishl, 1) := by decide +kernel
theorem em55_61 : decode prog_10_method_9_code 61 = .ok (.iconst (-1), 1) := by decide +kernel
theorem em55_62 : decode prog_10_method_9_code 62 = .ok (.ixor, 1) := by decide +kernel
theorem em55_63 : decode prog_10_method_9_code 63 = .ok (.iand, 1) := by decide +kernel
theorem em55_64 : decode prog_10_method_9_code 64 = .ok (.putfield 44, 3) := by decide +kernel
theorem em55_67 : decode prog_10_method_9_code 67 = .ok (.return_, 1) := by decide +kernel
/-! CapitalCase$Town.lift:(LCapitalCase$Script;I)V -/
noncomputable def zTr_59 : Nat → Option aF := bn 34 (bn 16 (bn 7 (bn 2 (bn 1 (bl 0 (a_const 0 1)) (bl 1 (a_istore 3 2))) (bn 3 (bl 2 (a_iload 3 3)) (bn 4 (bl 3 (a_aload 1 4)) (bl 4 (a_getf zG0 zT0 6 8 7))))) (bn 12 (bn 8 (bl 7 (a_iload 2 8)) (bn 9 (bl 8 (a_ald zG0 zT0 (true, false) ts0 9)) (bl 9 (a_icmp 3 53 12)))) (bn 13 (bl 12 (a_iload 2 13)) (bn 15 (bl 13 (a_const 8 15)) (bl 15 (a_bin fmul 16)))))) (bn 24 (bn 18 (bn 17 (bl 16 (a_iload 3 17)) (bl 17 (a_bin fadd 18))) (bn 20 (bl 18 (a_istore 4 20)) (bn 21 (bl 20 (a_aload 0 21)) (bl 21 (a_getf zG0 zT0 8 1 24))))) (bn 30 (bn 25 (bl 24 (a_aload 0 25)) (bn 28 (bl 25 (a_getf zG0 zT0 8 4 28)) (bl 28 (a_iload 4 30)))) (bn 31 (bl 30 (a_ald zG0 zT0 (true, false) ts0 31)) (bn 33 (bl 31 (a_const 8 33)) (bl 33 (a_bin fmul 34))))))) (bn 50 (bn 42 (bn 38 (bn 35 (bl 34 (a_aload 1 35)) (bl 35 (a_getf zG0 zT0 6 9 38))) (bn 40 (bl 38 (a_iload 4 40)) (bn 41 (bl 40 (a_ald zG0 zT0 (true, false) ts0 41)) (bl 41 (a_bin fadd 42))))) (bn 45 (bn 43 (bl 42 (a_dup2 43)) (bn 44 (bl 43 (a_ald zG0 zT0 (true, false) ts0 44)) (bl 44 (a_const 1 45)))) (bn 46 (bl 45 (a_bin fsub 46)) (bn 47 (bl 46 (a_ast zG0 zT0 ts0 47)) (bl 47 (a_iinc 3 1 50)))))) (bn 59 (bn 54 (bn 53 (bl 50 (a_goto 2)) (bl 53 (a_aload 0 54))) (bn 55 (bl 54 (a_dup 55)) (bn 58 (bl 55 (a_getf zG0 zT0 8 5 58)) (bl 58 (a_const 1 59))))) (bn 62 (bn 60 (bl 59 (a_iload 2 60)) (bn 61 (bl 60 (a_bin fshl 61)) (bl 61 (a_const (-1) 62)))) (bn 63 (bl 62 (a_bin fany 63)) (bn 64 (bl 63 (a_bin fand 64)) (bl 64 (a_puti zG0 zT0 zprot 8 5 0 67)))))))
set_option maxRecDepth 100000 in
set_option maxHeartbeats 4000000 in
theorem zTo_59 {pre : zPre} {post : zPost} (H : zTieC pre post) {d : Nat × Nat × Nat} (hd : zLe (0, 0, 0) d) : aTr zG0 zT0 zInv (true, false) PZ zbd pre post d prog_10_method_9_code "CapitalCase$Town" zTr_59 := (xB_n (xB_n (xB_n (xB_n (xB_n (xB_l ⟨_, zs_iconst (v := 0) em55_0 (by decide +kernel), as_const (by decide +kernel)⟩) (xB_l ⟨_, zs_istore_n em55_1, as_istore⟩)) (xB_n (xB_l ⟨_, zs_iload_n em55_2, as_iload⟩) (xB_n (xB_l ⟨_, zs_aload_n em55_3, as_aload⟩) (xB_l ⟨_, zs_getf (T := TX6) (M := 15) (ci := 6) (j := 8) em55_4 rfl inX6 (by decide) wd_199 ((congrFun xo_9 66).trans rfl), as_getf zTie⟩)))) (xB_n (xB_n (xB_l ⟨_, zs_iload_n em55_7, as_iload⟩) (xB_n (xB_l ⟨_, zs_iald em55_8, ag_iald⟩) (xB_l ⟨_, zs_icmpge em55_9 (t := 53) (by decide), as_icmp⟩))) (xB_n (xB_l ⟨_, zs_iload_n em55_12, as_iload⟩) (xB_n (xB_l ⟨_, zs_bipush (v := 8) em55_13 (by decide +kernel), as_const (by decide +kernel)⟩) (xB_l ⟨_, zs_imul em55_15, as_bin fmul_ok⟩))))) (xB_n (xB_n (xB_n (xB_l ⟨_, zs_iload_n em55_16, as_iload⟩) (xB_l ⟨_, zs_iadd em55_17, as_bin fadd_ok⟩)) (xB_n (xB_l ⟨_, zs_istore em55_18, as_istore⟩) (xB_n (xB_l ⟨_, zs_aload_n em55_20, as_aload⟩) (xB_l ⟨_, zs_getf (T := TX8) (M := 10) (ci := 8) (j := 1) em55_21 rfl inX8 (by decide) wd_325 ((congrFun xo_9 15).trans rfl), as_getf zTie⟩)))) (xB_n (xB_n (xB_l ⟨_, zs_aload_n em55_24, as_aload⟩) (xB_n (xB_l ⟨_, zs_getf (T := TX8) (M := 10) (ci := 8) (j := 4) em55_25 rfl inX8 (by decide) wd_336 ((congrFun xo_9 24).trans rfl), as_getf zTie⟩) (xB_l ⟨_, zs_iload em55_28, as_iload⟩))) (xB_n (xB_l ⟨_, zs_iald em55_30, ag_iald⟩) (xB_n (xB_l ⟨_, zs_bipush (v := 8) em55_31 (by decide +kernel), as_const (by decide +kernel)⟩) (xB_l ⟨_, zs_imul em55_33, as_bin fmul_ok⟩)))))) (xB_n (xB_n (xB_n (xB_n (xB_l ⟨_, zs_aload_n em55_34, as_aload⟩) (xB_l ⟨_, zs_getf (T := TX6) (M := 15) (ci := 6) (j := 9) em55_35 rfl inX6 (by decide) wd_204 ((congrFun xo_9 69).trans rfl), as_getf zTie⟩)) (xB_n (xB_l ⟨_, zs_iload em55_38, as_iload⟩) (xB_n (xB_l ⟨_, zs_iald em55_40, ag_iald⟩) (xB_l ⟨_, zs_iadd em55_41, as_bin fadd_ok⟩)))) (xB_n (xB_n (xB_l ⟨_, zs_dup2 em55_42, as_dup2⟩) (xB_n (xB_l ⟨_, zs_iald em55_43, ag_iald⟩) (xB_l ⟨_, zs_iconst (v := 1) em55_44 (by decide +kernel), as_const (by decide +kernel)⟩))) (xB_n (xB_l ⟨_, zs_isub em55_45, as_bin fsub_ok⟩) (xB_n (xB_l ⟨_, zs_iast zInj0 em55_46, as_iast zTie⟩) (xB_l ⟨_, zs_iinc (k := 1) em55_47 (by decide +kernel), as_iinc (by decide +kernel)⟩))))) (xB_n (xB_n (xB_n (xB_l ⟨_, zs_goto em55_50 (t := 2) (by decide), as_goto⟩) (xB_l ⟨_, zs_aload_n em55_53, as_aload⟩)) (xB_n (xB_l ⟨_, zs_dup em55_54, as_dup⟩) (xB_n (xB_l ⟨_, zs_getf (T := TX8) (M := 10) (ci := 8) (j := 5) em55_55 rfl inX8 (by decide) wd_338 ((congrFun xo_9 44).trans rfl), as_getf zTie⟩) (xB_l ⟨_, zs_iconst (v := 1) em55_58 (by decide +kernel), as_const (by decide +kernel)⟩)))) (xB_n (xB_n (xB_l ⟨_, zs_iload_n em55_59, as_iload⟩) (xB_n (xB_l ⟨_, zs_ishl em55_60, as_bin fshl_ok⟩) (xB_l ⟨_, zs_iconst (v := (-1)) em55_61 (by decide +kernel), as_const (by decide +kernel)⟩))) (xB_n (xB_l ⟨_, zs_ixor em55_62, as_bin fany_ok⟩) (xB_n (xB_l ⟨_, zs_iand em55_63, as_bin fand_ok⟩) (xB_l ⟨_, zs_puti zInj0 (T := TX8) (M := 10) (ty := tyX8) (ci := 8) (j := 5) (kd := 0) em55_64 rfl inX8 tyX8_ok nmX8 (by decide) wd_338 (Or.inl ⟨rfl, rfl⟩) rfl ((congrFun xo_9 44).trans rfl), ag_puti0⟩)))))))
set_option maxRecDepth 100000 in
set_option maxHeartbeats 4000000 in
theorem zM_59 : zOKa 59 zc_59 := z_auto (cuts := [(2, ([(0, 0), (0, 6), (0, 8)], [], [some (.inr (.inl (1, 1000))), some (.inr (.inl (0, 2))), some (.inl (1, 0)), some (.inl (2, 0)), none], [], [], (0, 0)), [(0, 3)], 8, [0, 0, (-1)])]) (rets := [(67, 3)]) (fuel := 1000) rfl rfl (by decide) (xrt_ok (xR_c (Or.inr (Or.inr (Or.inl ⟨rfl, em55_67, rfl⟩))) (xR_n))) (fun _ _ H _ hd => zTo_59 H hd) (by decide +kernel)
theorem em56_0 : decode prog_10_method_11_code 0 = .ok (.aload_n 0, 1) := by decide +kernel
theorem em56_1 : decode prog_10_method_11_code 1 = .ok (.getfield 9, 3) := by decide +kernel
theorem em56_4 : decode prog_10_method_11_code 4 = .ok (.iload_n 1, 1) := by decide +kernel
theorem em56_5 : decode prog_10_method_11_code 5 = .ok (.iaload, 1) := by decide +kernel
theorem em56_6 : decode prog_10_method_11_code 6 = .ok (.ifCond .ne 5, 3) := by decide +kernel
theorem em56_9 : decode prog_10_method_11_code 9 = .ok (.iconst 0, 1) := by decide +kernel
theorem em56_10 : decode prog_10_method_11_code 10 = .ok (.ireturn, 1) := by decide +kernel
theorem em56_11 : decode prog_10_method_11_code 11 = .ok (.aload_n 0, 1) := by decide +kernel
theorem em56_12 : decode prog_10_method_11_code 12 = .ok (.getfield 9, 3) := by decide +kernel
theorem em56_15 : decode prog_10_method_11_code 15 = .ok (.iload_n 1, 1) := by decide +kernel
theorem em56_16 : decode prog_10_method_11_code 16 = .ok (.dup2, 1) := by decide +kernel
theorem em56_17 : decode prog_10_method_11_code 17 = .ok (.iaload, 1) := by decide +kernel
theorem em56_18 : decode prog_10_method_11_code 18 = .ok (.iconst 1, 1) := by decide +kernel
theorem em56_19 : decode prog_10_method_11_code 19 = .ok (.isub, 1) := by decide +kernel
theorem em56_20 : decode prog_10_method_11_code 20 = .ok (.iastore, 1) := by decide +kernel
theorem em56_21 : decode prog_10_method_11_code 21 = .ok (.aload_n 0, 1) := by decide +kernel
theorem em56_22 : decode prog_10_method_11_code 22 = .ok (.dup, 1) := by decide +kernel
theorem em56_23 : decode prog_10_method_11_code 23 = .ok (.getfield 57, 3) := by decide +kernel
theorem em56_26 : decode prog_10_method_11_code 26 = .ok (.iconst 1, 1) := by decide +kernel
theorem em56_27 : decode prog_10_method_11_code 27 = .ok (.iadd, 1) := by decide +kernel
theorem em56_28 : decode prog_10_method_11_code 28 = .ok (.putfield 57, 3) := by decide +kernel
theorem em56_31 : decode prog_10_method_11_code 31 = .ok (.iconst 1, 1) := by decide +kernel
theorem em56_32 : decode prog_10_method_11_code 32 = .ok (.ireturn, 1) := by decide +kernel
/-! CapitalCase$Town.lose:(I)Z -/
noncomputable def zTr_60 : Nat → Option aF := bn 17 (bn 9 (bn 4 (bn 1 (bl 0 (a_aload 0 1)) (bl 1 (a_getf zG0 zT0 8 0 4))) (bn 5 (bl 4 (a_iload 1 5)) (bn 6 (bl 5 (a_ald zG0 zT0 (false, false) ts0 6)) (bl 6 (a_if 1 11 9))))) (bn 12 (bn 11 (bl 9 (a_const 0 10)) (bl 11 (a_aload 0 12))) (bn 15 (bl 12 (a_getf zG0 zT0 8 0 15)) (bn 16 (bl 15 (a_iload 1 16)) (bl 16 (a_dup2 17)))))) (bn 22 (bn 19 (bn 18 (bl 17 (a_ald zG0 zT0 (false, false) ts0 18)) (bl 18 (a_const 1 19))) (bn 20 (bl 19 (a_bin fsub 20)) (bn 21 (bl 20 (a_ast zG0 zT0 ts0 21)) (bl 21 (a_aload 0 22))))) (bn 27 (bn 23 (bl 22 (a_dup 23)) (bn 26 (bl 23 (a_getf zG0 zT0 8 9 26)) (bl 26 (a_const 1 27)))) (bn 28 (bl 27 (a_bin fadd 28)) (bn 31 (bl 28 (a_puti zG0 zT0 zprot 8 9 0 31)) (bl 31 (a_const 1 32))))))
set_option maxRecDepth 100000 in
set_option maxHeartbeats 4000000 in
theorem zTo_60 {pre : zPre} {post : zPost} (H : zTieC pre post) {d : Nat × Nat × Nat} (hd : zLe (0, 0, 0) d) : aTr zG0 zT0 zInv (false, false) PZ zbd pre post d prog_10_method_11_code "CapitalCase$Town" zTr_60 := (xB_n (xB_n (xB_n (xB_n (xB_l ⟨_, zs_aload_n em56_0, as_aload⟩) (xB_l ⟨_, zs_getf (T := TX8) (M := 10) (ci := 8) (j := 0) em56_1 rfl inX8 (by decide) wd_320 ((congrFun xo_9 9).trans rfl), as_getf zTie⟩)) (xB_n (xB_l ⟨_, zs_iload_n em56_4, as_iload⟩) (xB_n (xB_l ⟨_, zs_iald em56_5, ag_iald⟩) (xB_l ⟨_, zs_ifne em56_6 (t := 11) (by decide), as_if⟩)))) (xB_n (xB_n (xB_l ⟨_, zs_iconst (v := 0) em56_9 (by decide +kernel), as_const (by decide +kernel)⟩) (xB_l ⟨_, zs_aload_n em56_11, as_aload⟩)) (xB_n (xB_l ⟨_, zs_getf (T := TX8) (M := 10) (ci := 8) (j := 0) em56_12 rfl inX8 (by decide) wd_320 ((congrFun xo_9 9).trans rfl), as_getf zTie⟩) (xB_n (xB_l ⟨_, zs_iload_n em56_15, as_iload⟩) (xB_l ⟨_, zs_dup2 em56_16, as_dup2⟩))))) (xB_n (xB_n (xB_n (xB_l ⟨_, zs_iald em56_17, ag_iald⟩) (xB_l ⟨_, zs_iconst (v := 1) em56_18 (by decide +kernel), as_const (by decide +kernel)⟩)) (xB_n (xB_l ⟨_, zs_isub em56_19, as_bin fsub_ok⟩) (xB_n (xB_l ⟨_, zs_iast zInj0 em56_20, as_iast zTie⟩) (xB_l ⟨_, zs_aload_n em56_21, as_aload⟩)))) (xB_n (xB_n (xB_l ⟨_, zs_dup em56_22, as_dup⟩) (xB_n (xB_l ⟨_, zs_getf (T := TX8) (M := 10) (ci := 8) (j := 9) em56_23 rfl inX8 (by decide) wd_353 ((congrFun xo_9 57).trans rfl), as_getf zTie⟩) (xB_l ⟨_, zs_iconst (v := 1) em56_26 (by decide +kernel), as_const (by decide +kernel)⟩))) (xB_n (xB_l ⟨_, zs_iadd em56_27, as_bin fadd_ok⟩) (xB_n (xB_l ⟨_, zs_puti zInj0 (T := TX8) (M := 10) (ty := tyX8) (ci := 8) (j := 9) (kd := 0) em56_28 rfl inX8 tyX8_ok nmX8 (by decide) wd_353 (Or.inl ⟨rfl, rfl⟩) rfl ((congrFun xo_9 57).trans rfl), ag_puti0⟩) (xB_l ⟨_, zs_iconst (v := 1) em56_31 (by decide +kernel), as_const (by decide +kernel)⟩))))))
set_option maxRecDepth 100000 in
set_option maxHeartbeats 4000000 in
theorem zM_60 : zOKa 60 zc_60 := z_auto (cuts := []) (rets := [(10, 2), (32, 2)]) (fuel := 1000) rfl rfl (by decide) (xrt_ok (xR_c (Or.inr (Or.inl ⟨rfl, em56_10, rfl⟩)) (xR_c (Or.inr (Or.inl ⟨rfl, em56_32, rfl⟩)) (xR_n)))) (fun _ _ H _ hd => zTo_60 H hd) (by decide +kernel)
