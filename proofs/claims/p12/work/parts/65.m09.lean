theorem em148_0 : decode prog_14_method_40_code 0 = .ok (.iload_n 0, 1) := by decide +kernel
theorem em148_1 : decode prog_14_method_40_code 1 = .ok (.iload_n 1, 1) := by decide +kernel
theorem em148_2 : decode prog_14_method_40_code 2 = .ok (.if_icmp .lt 12, 3) := by decide +kernel
theorem em148_5 : decode prog_14_method_40_code 5 = .ok (.iload_n 0, 1) := by decide +kernel
theorem em148_6 : decode prog_14_method_40_code 6 = .ok (.iload_n 2, 1) := by decide +kernel
theorem em148_7 : decode prog_14_method_40_code 7 = .ok (.if_icmp .gt 7, 3) := by decide +kernel
theorem em148_10 : decode prog_14_method_40_code 10 = .ok (.iconst 1, 1) := by decide +kernel
theorem em148_11 : decode prog_14_method_40_code 11 = .ok (.goto 4, 3) := by decide +kernel
theorem em148_14 : decode prog_14_method_40_code 14 = .ok (.iconst 0, 1) := by decide +kernel
theorem em148_15 : decode prog_14_method_40_code 15 = .ok (.ireturn, 1) := by decide +kernel
/-! CapitalCaseModel.in:(III)Z -/
noncomputable def zTr_155 : Nat → Option aF := bn 6 (bn 2 (bn 1 (bl 0 (a_iload 0 1)) (bl 1 (a_iload 1 2))) (bn 5 (bl 2 (a_icmp 2 14 5)) (bl 5 (a_iload 0 6)))) (bn 10 (bn 7 (bl 6 (a_iload 2 7)) (bl 7 (a_icmp 4 14 10))) (bn 11 (bl 10 (a_const 1 11)) (bn 14 (bl 11 (a_goto 15)) (bl 14 (a_const 0 15)))))
set_option maxRecDepth 100000 in
set_option maxHeartbeats 4000000 in
theorem zTo_155 {pre : zPre} {post : zPost} (H : zTieC pre post) {d : Nat × Nat × Nat} (hd : zLe (0, 0, 0) d) : aTr zG0 zT0 zInv (false, false) PZ zbd pre post d prog_14_method_40_code "CapitalCaseModel" zTr_155 := (xB_n (xB_n (xB_n (xB_l ⟨_, zs_iload_n em148_0, as_iload⟩) (xB_l ⟨_, zs_iload_n em148_1, as_iload⟩)) (xB_n (xB_l ⟨_, zs_icmplt em148_2 (t := 14) (by decide), as_icmp⟩) (xB_l ⟨_, zs_iload_n em148_5, as_iload⟩))) (xB_n (xB_n (xB_l ⟨_, zs_iload_n em148_6, as_iload⟩) (xB_l ⟨_, zs_icmpgt em148_7 (t := 14) (by decide), as_icmp⟩)) (xB_n (xB_l ⟨_, zs_iconst (v := 1) em148_10 (by decide +kernel), as_const (by decide +kernel)⟩) (xB_n (xB_l ⟨_, zs_goto em148_11 (t := 15) (by decide), as_goto⟩) (xB_l ⟨_, zs_iconst (v := 0) em148_14 (by decide +kernel), as_const (by decide +kernel)⟩)))))
set_option maxRecDepth 100000 in
set_option maxHeartbeats 4000000 in
theorem zM_155 : zOKa 155 zc_155 := z_auto (cuts := []) (rets := [(15, 2)]) (fuel := 1000) rfl rfl (by decide) (xrt_ok (xR_c (Or.inr (Or.inl ⟨rfl, em148_15, rfl⟩)) (xR_n))) (fun _ _ H _ hd => zTo_155 H hd) (by decide +kernel)
/-! CapitalCaseModel.in:(III)Z -/
noncomputable def zTr_156 : Nat → Option aF := bn 6 (bn 2 (bn 1 (bl 0 (a_iload 0 1)) (bl 1 (a_iload 1 2))) (bn 5 (bl 2 (a_icmp 2 14 5)) (bl 5 (a_iload 0 6)))) (bn 10 (bn 7 (bl 6 (a_iload 2 7)) (bl 7 (a_icmp 4 14 10))) (bn 11 (bl 10 (a_const 1 11)) (bn 14 (bl 11 (a_goto 15)) (bl 14 (a_const 0 15)))))
set_option maxRecDepth 100000 in
set_option maxHeartbeats 4000000 in
theorem zTo_156 {pre : zPre} {post : zPost} (H : zTieC pre post) {d : Nat × Nat × Nat} (hd : zLe (0, 0, 0) d) : aTr zG0 zT0 zInv (false, false) PZ zbd pre post d prog_14_method_40_code "CapitalCaseModel" zTr_156 := (xB_n (xB_n (xB_n (xB_l ⟨_, zs_iload_n em148_0, as_iload⟩) (xB_l ⟨_, zs_iload_n em148_1, as_iload⟩)) (xB_n (xB_l ⟨_, zs_icmplt em148_2 (t := 14) (by decide), as_icmp⟩) (xB_l ⟨_, zs_iload_n em148_5, as_iload⟩))) (xB_n (xB_n (xB_l ⟨_, zs_iload_n em148_6, as_iload⟩) (xB_l ⟨_, zs_icmpgt em148_7 (t := 14) (by decide), as_icmp⟩)) (xB_n (xB_l ⟨_, zs_iconst (v := 1) em148_10 (by decide +kernel), as_const (by decide +kernel)⟩) (xB_n (xB_l ⟨_, zs_goto em148_11 (t := 15) (by decide), as_goto⟩) (xB_l ⟨_, zs_iconst (v := 0) em148_14 (by decide +kernel), as_const (by decide +kernel)⟩)))))
set_option maxRecDepth 100000 in
set_option maxHeartbeats 4000000 in
theorem zM_156 : zOKa 156 zc_156 := z_auto (cuts := []) (rets := [(15, 2)]) (fuel := 1000) rfl rfl (by decide) (xrt_ok (xR_c (Or.inr (Or.inl ⟨rfl, em148_15, rfl⟩)) (xR_n))) (fun _ _ H _ hd => zTo_156 H hd) (by decide +kernel)
/-! CapitalCaseModel.in:(III)Z -/
noncomputable def zTr_157 : Nat → Option aF := bn 6 (bn 2 (bn 1 (bl 0 (a_iload 0 1)) (bl 1 (a_iload 1 2))) (bn 5 (bl 2 (a_icmp 2 14 5)) (bl 5 (a_iload 0 6)))) (bn 10 (bn 7 (bl 6 (a_iload 2 7)) (bl 7 (a_icmp 4 14 10))) (bn 11 (bl 10 (a_const 1 11)) (bn 14 (bl 11 (a_goto 15)) (bl 14 (a_const 0 15)))))
set_option maxRecDepth 100000 in
set_option maxHeartbeats 4000000 in
theorem zTo_157 {pre : zPre} {post : zPost} (H : zTieC pre post) {d : Nat × Nat × Nat} (hd : zLe (0, 0, 0) d) : aTr zG0 zT0 zInv (false, false) PZ zbd pre post d prog_14_method_40_code "CapitalCaseModel" zTr_157 := (xB_n (xB_n (xB_n (xB_l ⟨_, zs_iload_n em148_0, as_iload⟩) (xB_l ⟨_, zs_iload_n em148_1, as_iload⟩)) (xB_n (xB_l ⟨_, zs_icmplt em148_2 (t := 14) (by decide), as_icmp⟩) (xB_l ⟨_, zs_iload_n em148_5, as_iload⟩))) (xB_n (xB_n (xB_l ⟨_, zs_iload_n em148_6, as_iload⟩) (xB_l ⟨_, zs_icmpgt em148_7 (t := 14) (by decide), as_icmp⟩)) (xB_n (xB_l ⟨_, zs_iconst (v := 1) em148_10 (by decide +kernel), as_const (by decide +kernel)⟩) (xB_n (xB_l ⟨_, zs_goto em148_11 (t := 15) (by decide), as_goto⟩) (xB_l ⟨_, zs_iconst (v := 0) em148_14 (by decide +kernel), as_const (by decide +kernel)⟩)))))
set_option maxRecDepth 100000 in
set_option maxHeartbeats 4000000 in
theorem zM_157 : zOKa 157 zc_157 := z_auto (cuts := []) (rets := [(15, 2)]) (fuel := 1000) rfl rfl (by decide) (xrt_ok (xR_c (Or.inr (Or.inl ⟨rfl, em148_15, rfl⟩)) (xR_n))) (fun _ _ H _ hd => zTo_157 H hd) (by decide +kernel)
/-! CapitalCaseModel.in:(III)Z -/
noncomputable def zTr_158 : Nat → Option aF := bn 6 (bn 2 (bn 1 (bl 0 (a_iload 0 1)) (bl 1 (a_iload 1 2))) (bn 5 (bl 2 (a_icmp 2 14 5)) (bl 5 (a_iload 0 6)))) (bn 10 (bn 7 (bl 6 (a_iload 2 7)) (bl 7 (a_icmp 4 14 10))) (bn 11 (bl 10 (a_const 1 11)) (bn 14 (bl 11 (a_goto 15)) (bl 14 (a_const 0 15)))))
set_option maxRecDepth 100000 in
set_option maxHeartbeats 4000000 in
theorem zTo_158 {pre : zPre} {post : zPost} (H : zTieC pre post) {d : Nat × Nat × Nat} (hd : zLe (0, 0, 0) d) : aTr zG0 zT0 zInv (false, false) PZ zbd pre post d prog_14_method_40_code "CapitalCaseModel" zTr_158 := (xB_n (xB_n (xB_n (xB_l ⟨_, zs_iload_n em148_0, as_iload⟩) (xB_l ⟨_, zs_iload_n em148_1, as_iload⟩)) (xB_n (xB_l ⟨_, zs_icmplt em148_2 (t := 14) (by decide), as_icmp⟩) (xB_l ⟨_, zs_iload_n em148_5, as_iload⟩))) (xB_n (xB_n (xB_l ⟨_, zs_iload_n em148_6, as_iload⟩) (xB_l ⟨_, zs_icmpgt em148_7 (t := 14) (by decide), as_icmp⟩)) (xB_n (xB_l ⟨_, zs_iconst (v := 1) em148_10 (by decide +kernel), as_const (by decide +kernel)⟩) (xB_n (xB_l ⟨_, zs_goto em148_11 (t := 15) (by decide), as_goto⟩) (xB_l ⟨_, zs_iconst (v := 0) em148_14 (by decide +kernel), as_const (by decide +kernel)⟩)))))
set_option maxRecDepth 100000 in
set_option maxHeartbeats 4000000 in
theorem zM_158 : zOKa 158 zc_158 := z_auto (cuts := []) (rets := [(15, 2)]) (fuel := 1000) rfl rfl (by decide) (xrt_ok (xR_c (Or.inr (Or.inl ⟨rfl, em148_15, rfl⟩)) (xR_n))) (fun _ _ H _ hd => zTo_158 H hd) (by decide +kernel)
/-! CapitalCaseModel.in:(III)Z -/
noncomputable def zTr_159 : Nat → Option aF := bn 6 (bn 2 (bn 1 (bl 0 (a_iload 0 1)) (bl 1 (a_iload 1 2))) (bn 5 (bl 2 (a_icmp 2 14 5)) (bl 5 (a_iload 0 6)))) (bn 10 (bn 7 (bl 6 (a_iload 2 7)) (bl 7 (a_icmp 4 14 10))) (bn 11 (bl 10 (a_const 1 11)) (bn 14 (bl 11 (a_goto 15)) (bl 14 (a_const 0 15)))))
set_option maxRecDepth 100000 in
set_option maxHeartbeats 4000000 in
theorem zTo_159 {pre : zPre} {post : zPost} (H : zTieC pre post) {d : Nat × Nat × Nat} (hd : zLe (0, 0, 0) d) : aTr zG0 zT0 zInv (false, false) PZ zbd pre post d prog_14_method_40_code "CapitalCaseModel" zTr_159 := (xB_n (xB_n (xB_n (xB_l ⟨_, zs_iload_n em148_0, as_iload⟩) (xB_l ⟨_, zs_iload_n em148_1, as_iload⟩)) (xB_n (xB_l ⟨_, zs_icmplt em148_2 (t := 14) (by decide), as_icmp⟩) (xB_l ⟨_, zs_iload_n em148_5, as_iload⟩))) (xB_n (xB_n (xB_l ⟨_, zs_iload_n em148_6, as_iload⟩) (xB_l ⟨_, zs_icmpgt em148_7 (t := 14) (by decide), as_icmp⟩)) (xB_n (xB_l ⟨_, zs_iconst (v := 1) em148_10 (by decide +kernel), as_const (by decide +kernel)⟩) (xB_n (xB_l ⟨_, zs_goto em148_11 (t := 15) (by decide), as_goto⟩) (xB_l ⟨_, zs_iconst (v := 0) em148_14 (by decide +kernel), as_const (by decide +kernel)⟩)))))
set_option maxRecDepth 100000 in
set_option maxHeartbeats 4000000 in
theorem zM_159 : zOKa 159 zc_159 := z_auto (cuts := []) (rets := [(15, 2)]) (fuel := 1000) rfl rfl (by decide) (xrt_ok (xR_c (Or.inr (Or.inl ⟨rfl, em148_15, rfl⟩)) (xR_n))) (fun _ _ H _ hd => zTo_159 H hd) (by decide +kernel)
/-! CapitalCaseModel.in:(III)Z -/
noncomputable def zTr_160 : Nat → Option aF := bn 6 (bn 2 (bn 1 (bl 0 (a_iload 0 1)) (bl 1 (a_iload 1 2))) (bn 5 (bl 2 (a_icmp 2 14 5)) (bl 5 (a_iload 0 6)))) (bn 10 (bn 7 (bl 6 (a_iload 2 7)) (bl 7 (a_icmp 4 14 10))) (bn 11 (bl 10 (a_const 1 11)) (bn 14 (bl 11 (a_goto 15)) (bl 14 (a_const 0 15)))))
set_option maxRecDepth 100000 in
set_option maxHeartbeats 4000000 in
theorem zTo_160 {pre : zPre} {post : zPost} (H : zTieC pre post) {d : Nat × Nat × Nat} (hd : zLe (0, 0, 0) d) : aTr zG0 zT0 zInv (false, false) PZ zbd pre post d prog_14_method_40_code "CapitalCaseModel" zTr_160 := (xB_n (xB_n (xB_n (xB_l ⟨_, zs_iload_n em148_0, as_iload⟩) (xB_l ⟨_, zs_iload_n em148_1, as_iload⟩)) (xB_n (xB_l ⟨_, zs_icmplt em148_2 (t := 14) (by decide), as_icmp⟩) (xB_l ⟨_, zs_iload_n em148_5, as_iload⟩))) (xB_n (xB_n (xB_l ⟨_, zs_iload_n em148_6, as_iload⟩) (xB_l ⟨_, zs_icmpgt em148_7 (t := 14) (by decide), as_icmp⟩)) (xB_n (xB_l ⟨_, zs_iconst (v := 1) em148_10 (by decide +kernel), as_const (by decide +kernel)⟩) (xB_n (xB_l ⟨_, zs_goto em148_11 (t := 15) (by decide), as_goto⟩) (xB_l ⟨_, zs_iconst (v := 0) em148_14 (by decide +kernel), as_const (by decide +kernel)⟩)))))
set_option maxRecDepth 100000 in
set_option maxHeartbeats 4000000 in
theorem zM_160 : zOKa 160 zc_160 := z_auto (cuts := []) (rets := [(15, 2)]) (fuel := 1000) rfl rfl (by decide) (xrt_ok (xR_c (Or.inr (Or.inl ⟨rfl, em148_15, rfl⟩)) (xR_n))) (fun _ _ H _ hd => zTo_160 H hd) (by decide +kernel)
/-! CapitalCaseModel.in:(III)Z -/
noncomputable def zTr_161 : Nat → Option aF := bn 6 (bn 2 (bn 1 (bl 0 (a_iload 0 1)) (bl 1 (a_iload 1 2))) (bn 5 (bl 2 (a_icmp 2 14 5)) (bl 5 (a_iload 0 6)))) (bn 10 (bn 7 (bl 6 (a_iload 2 7)) (bl 7 (a_icmp 4 14 10))) (bn 11 (bl 10 (a_const 1 11)) (bn 14 (bl 11 (a_goto 15)) (bl 14 (a_const 0 15)))))
set_option maxRecDepth 100000 in
set_option maxHeartbeats 4000000 in
theorem zTo_161 {pre : zPre} {post : zPost} (H : zTieC pre post) {d : Nat × Nat × Nat} (hd : zLe (0, 0, 0) d) : aTr zG0 zT0 zInv (false, false) PZ zbd pre post d prog_14_method_40_code "CapitalCaseModel" zTr_161 := (xB_n (xB_n (xB_n (xB_l ⟨_, zs_iload_n em148_0, as_iload⟩) (xB_l ⟨_, zs_iload_n em148_1, as_iload⟩)) (xB_n (xB_l ⟨_, zs_icmplt em148_2 (t := 14) (by decide), as_icmp⟩) (xB_l ⟨_, zs_iload_n em148_5, as_iload⟩))) (xB_n (xB_n (xB_l ⟨_, zs_iload_n em148_6, as_iload⟩) (xB_l ⟨_, zs_icmpgt em148_7 (t := 14) (by decide), as_icmp⟩)) (xB_n (xB_l ⟨_, zs_iconst (v := 1) em148_10 (by decide +kernel), as_const (by decide +kernel)⟩) (xB_n (xB_l ⟨_, zs_goto em148_11 (t := 15) (by decide), as_goto⟩) (xB_l ⟨_, zs_iconst (v := 0) em148_14 (by decide +kernel), as_const (by decide +kernel)⟩)))))
set_option maxRecDepth 100000 in
set_option maxHeartbeats 4000000 in
theorem zM_161 : zOKa 161 zc_161 := z_auto (cuts := []) (rets := [(15, 2)]) (fuel := 1000) rfl rfl (by decide) (xrt_ok (xR_c (Or.inr (Or.inl ⟨rfl, em148_15, rfl⟩)) (xR_n))) (fun _ _ H _ hd => zTo_161 H hd) (by decide +kernel)
/-! CapitalCaseModel.in:(III)Z -/
noncomputable def zTr_162 : Nat → Option aF := bn 6 (bn 2 (bn 1 (bl 0 (a_iload 0 1)) (bl 1 (a_iload 1 2))) (bn 5 (bl 2 (a_icmp 2 14 5)) (bl 5 (a_iload 0 6)))) (bn 10 (bn 7 (bl 6 (a_iload 2 7)) (bl 7 (a_icmp 4 14 10))) (bn 11 (bl 10 (a_const 1 11)) (bn 14 (bl 11 (a_goto 15)) (bl 14 (a_const 0 15)))))
set_option maxRecDepth 100000 in
set_option maxHeartbeats 4000000 in
theorem zTo_162 {pre : zPre} {post : zPost} (H : zTieC pre post) {d : Nat × Nat × Nat} (hd : zLe (0, 0, 0) d) : aTr zG0 zT0 zInv (false, false) PZ zbd pre post d prog_14_method_40_code "CapitalCaseModel" zTr_162 := (xB_n (xB_n (xB_n (xB_l ⟨_, zs_iload_n em148_0, as_iload⟩) (xB_l ⟨_, zs_iload_n em148_1, as_iload⟩)) (xB_n (xB_l ⟨_, zs_icmplt em148_2 (t := 14) (by decide), as_icmp⟩) (xB_l ⟨_, zs_iload_n em148_5, as_iload⟩))) (xB_n (xB_n (xB_l ⟨_, zs_iload_n em148_6, as_iload⟩) (xB_l ⟨_, zs_icmpgt em148_7 (t := 14) (by decide), as_icmp⟩)) (xB_n (xB_l ⟨_, zs_iconst (v := 1) em148_10 (by decide +kernel), as_const (by decide +kernel)⟩) (xB_n (xB_l ⟨_, zs_goto em148_11 (t := 15) (by decide), as_goto⟩) (xB_l ⟨_, zs_iconst (v := 0) em148_14 (by decide +kernel), as_const (by decide +kernel)⟩)))))
set_option maxRecDepth 100000 in
set_option maxHeartbeats 4000000 in
theorem zM_162 : zOKa 162 zc_162 := z_auto (cuts := []) (rets := [(15, 2)]) (fuel := 1000) rfl rfl (by decide) (xrt_ok (xR_c (Or.inr (Or.inl ⟨rfl, em148_15, rfl⟩)) (xR_n))) (fun _ _ H _ hd => zTo_162 H hd) (by decide +kernel)
/-! CapitalCaseModel.in:(III)Z -/
noncomputable def zTr_163 : Nat → Option aF := bn 6 (bn 2 (bn 1 (bl 0 (a_iload 0 1)) (bl 1 (a_iload 1 2))) (bn 5 (bl 2 (a_icmp 2 14 5)) (bl 5 (a_iload 0 6)))) (bn 10 (bn 7 (bl 6 (a_iload 2 7)) (bl 7 (a_icmp 4 14 10))) (bn 11 (bl 10 (a_const 1 11)) (bn 14 (bl 11 (a_goto 15)) (bl 14 (a_const 0 15)))))
set_option maxRecDepth 100000 in
set_option maxHeartbeats 4000000 in
theorem zTo_163 {pre : zPre} {post : zPost} (H : zTieC pre post) {d : Nat × Nat × Nat} (hd : zLe (0, 0, 0) d) : aTr zG0 zT0 zInv (false, false) PZ zbd pre post d prog_14_method_40_code "CapitalCaseModel" zTr_163 := (xB_n (xB_n (xB_n (xB_l ⟨_, zs_iload_n em148_0, as_iload⟩) (xB_l ⟨_, zs_iload_n em148_1, as_iload⟩)) (xB_n (xB_l ⟨_, zs_icmplt em148_2 (t := 14) (by decide), as_icmp⟩) (xB_l ⟨_, zs_iload_n em148_5, as_iload⟩))) (xB_n (xB_n (xB_l ⟨_, zs_iload_n em148_6, as_iload⟩) (xB_l ⟨_, zs_icmpgt em148_7 (t := 14) (by decide), as_icmp⟩)) (xB_n (xB_l ⟨_, zs_iconst (v := 1) em148_10 (by decide +kernel), as_const (by decide +kernel)⟩) (xB_n (xB_l ⟨_, zs_goto em148_11 (t := 15) (by decide), as_goto⟩) (xB_l ⟨_, zs_iconst (v := 0) em148_14 (by decide +kernel), as_const (by decide +kernel)⟩)))))
set_option maxRecDepth 100000 in
set_option maxHeartbeats 4000000 in
theorem zM_163 : zOKa 163 zc_163 := z_auto (cuts := []) (rets := [(15, 2)]) (fuel := 1000) rfl rfl (by decide) (xrt_ok (xR_c (Or.inr (Or.inl ⟨rfl, em148_15, rfl⟩)) (xR_n))) (fun _ _ H _ hd => zTo_163 H hd) (by decide +kernel)
/-! CapitalCaseModel.in:(III)Z -/
noncomputable def zTr_164 : Nat → Option aF := bn 6 (bn 2 (bn 1 (bl 0 (a_iload 0 1)) (bl 1 (a_iload 1 2))) (bn 5 (bl 2 (a_icmp 2 14 5)) (bl 5 (a_iload 0 6)))) (bn 10 (bn 7 (bl 6 (a_iload 2 7)) (bl 7 (a_icmp 4 14 10))) (bn 11 (bl 10 (a_const 1 11)) (bn 14 (bl 11 (a_goto 15)) (bl 14 (a_const 0 15)))))
set_option maxRecDepth 100000 in
set_option maxHeartbeats 4000000 in
theorem zTo_164 {pre : zPre} {post : zPost} (H : zTieC pre post) {d : Nat × Nat × Nat} (hd : zLe (0, 0, 0) d) : aTr zG0 zT0 zInv (false, false) PZ zbd pre post d prog_14_method_40_code "CapitalCaseModel" zTr_164 := (xB_n (xB_n (xB_n (xB_l ⟨_, zs_iload_n em148_0, as_iload⟩) (xB_l ⟨_, zs_iload_n em148_1, as_iload⟩)) (xB_n (xB_l ⟨_, zs_icmplt em148_2 (t := 14) (by decide), as_icmp⟩) (xB_l ⟨_, zs_iload_n em148_5, as_iload⟩))) (xB_n (xB_n (xB_l ⟨_, zs_iload_n em148_6, as_iload⟩) (xB_l ⟨_, zs_icmpgt em148_7 (t := 14) (by decide), as_icmp⟩)) (xB_n (xB_l ⟨_, zs_iconst (v := 1) em148_10 (by decide +kernel), as_const (by decide +kernel)⟩) (xB_n (xB_l ⟨_, zs_goto em148_11 (t := 15) (by decide), as_goto⟩) (xB_l ⟨_, zs_iconst (v := 0) em148_14 (by decide +kernel), as_const (by decide +kernel)⟩)))))
set_option maxRecDepth 100000 in
set_option maxHeartbeats 4000000 in
theorem zM_164 : zOKa 164 zc_164 := z_auto (cuts := []) (rets := [(15, 2)]) (fuel := 1000) rfl rfl (by decide) (xrt_ok (xR_c (Or.inr (Or.inl ⟨rfl, em148_15, rfl⟩)) (xR_n))) (fun _ _ H _ hd => zTo_164 H hd) (by decide +kernel)
/-! CapitalCaseModel.in:(III)Z -/
noncomputable def zTr_165 : Nat → Option aF := bn 6 (bn 2 (bn 1 (bl 0 (a_iload 0 1)) (bl 1 (a_iload 1 2))) (bn 5 (bl 2 (a_icmp 2 14 5)) (bl 5 (a_iload 0 6)))) (bn 10 (bn 7 (bl 6 (a_iload 2 7)) (bl 7 (a_icmp 4 14 10))) (bn 11 (bl 10 (a_const 1 11)) (bn 14 (bl 11 (a_goto 15)) (bl 14 (a_const 0 15)))))
set_option maxRecDepth 100000 in
set_option maxHeartbeats 4000000 in
theorem zTo_165 {pre : zPre} {post : zPost} (H : zTieC pre post) {d : Nat × Nat × Nat} (hd : zLe (0, 0, 0) d) : aTr zG0 zT0 zInv (false, false) PZ zbd pre post d prog_14_method_40_code "CapitalCaseModel" zTr_165 := (xB_n (xB_n (xB_n (xB_l ⟨_, zs_iload_n em148_0, as_iload⟩) (xB_l ⟨_, zs_iload_n em148_1, as_iload⟩)) (xB_n (xB_l ⟨_, zs_icmplt em148_2 (t := 14) (by decide), as_icmp⟩) (xB_l ⟨_, zs_iload_n em148_5, as_iload⟩))) (xB_n (xB_n (xB_l ⟨_, zs_iload_n em148_6, as_iload⟩) (xB_l ⟨_, zs_icmpgt em148_7 (t := 14) (by decide), as_icmp⟩)) (xB_n (xB_l ⟨_, zs_iconst (v := 1) em148_10 (by decide +kernel), as_const (by decide +kernel)⟩) (xB_n (xB_l ⟨_, zs_goto em148_11 (t := 15) (by decide), as_goto⟩) (xB_l ⟨_, zs_iconst (v := 0) em148_14 (by decide +kernel), as_const (by decide +kernel)⟩)))))
set_option maxRecDepth 100000 in
set_option maxHeartbeats 4000000 in
theorem zM_165 : zOKa 165 zc_165 := z_auto (cuts := []) (rets := [(15, 2)]) (fuel := 1000) rfl rfl (by decide) (xrt_ok (xR_c (Or.inr (Or.inl ⟨rfl, em148_15, rfl⟩)) (xR_n))) (fun _ _ H _ hd => zTo_165 H hd) (by decide +kernel)
/-! CapitalCaseModel.in:(III)Z -/
noncomputable def zTr_166 : Nat → Option aF := bn 6 (bn 2 (bn 1 (bl 0 (a_iload 0 1)) (bl 1 (a_iload 1 2))) (bn 5 (bl 2 (a_icmp 2 14 5)) (bl 5 (a_iload 0 6)))) (bn 10 (bn 7 (bl 6 (a_iload 2 7)) (bl 7 (a_icmp 4 14 10))) (bn 11 (bl 10 (a_const 1 11)) (bn 14 (bl 11 (a_goto 15)) (bl 14 (a_const 0 15)))))
set_option maxRecDepth 100000 in
set_option maxHeartbeats 4000000 in
theorem zTo_166 {pre : zPre} {post : zPost} (H : zTieC pre post) {d : Nat × Nat × Nat} (hd : zLe (0, 0, 0) d) : aTr zG0 zT0 zInv (false, false) PZ zbd pre post d prog_14_method_40_code "CapitalCaseModel" zTr_166 := (xB_n (xB_n (xB_n (xB_l ⟨_, zs_iload_n em148_0, as_iload⟩) (xB_l ⟨_, zs_iload_n em148_1, as_iload⟩)) (xB_n (xB_l ⟨_, zs_icmplt em148_2 (t := 14) (by decide), as_icmp⟩) (xB_l ⟨_, zs_iload_n em148_5, as_iload⟩))) (xB_n (xB_n (xB_l ⟨_, zs_iload_n em148_6, as_iload⟩) (xB_l ⟨_, zs_icmpgt em148_7 (t := 14) (by decide), as_icmp⟩)) (xB_n (xB_l ⟨_, zs_iconst (v := 1) em148_10 (by decide +kernel), as_const (by decide +kernel)⟩) (xB_n (xB_l ⟨_, zs_goto em148_11 (t := 15) (by decide), as_goto⟩) (xB_l ⟨_, zs_iconst (v := 0) em148_14 (by decide +kernel), as_const (by decide +kernel)⟩)))))
set_option maxRecDepth 100000 in
set_option maxHeartbeats 4000000 in
theorem zM_166 : zOKa 166 zc_166 := z_auto (cuts := []) (rets := [(15, 2)]) (fuel := 1000) rfl rfl (by decide) (xrt_ok (xR_c (Or.inr (Or.inl ⟨rfl, em148_15, rfl⟩)) (xR_n))) (fun _ _ H _ hd => zTo_166 H hd) (by decide +kernel)
/-! CapitalCaseModel.in:(III)Z -/
noncomputable def zTr_167 : Nat → Option aF := bn 6 (bn 2 (bn 1 (bl 0 (a_iload 0 1)) (bl 1 (a_iload 1 2))) (bn 5 (bl 2 (a_icmp 2 14 5)) (bl 5 (a_iload 0 6)))) (bn 10 (bn 7 (bl 6 (a_iload 2 7)) (bl 7 (a_icmp 4 14 10))) (bn 11 (bl 10 (a_const 1 11)) (bn 14 (bl 11 (a_goto 15)) (bl 14 (a_const 0 15)))))
set_option maxRecDepth 100000 in
set_option maxHeartbeats 4000000 in
theorem zTo_167 {pre : zPre} {post : zPost} (H : zTieC pre post) {d : Nat × Nat × Nat} (hd : zLe (0, 0, 0) d) : aTr zG0 zT0 zInv (false, false) PZ zbd pre post d prog_14_method_40_code "CapitalCaseModel" zTr_167 := (xB_n (xB_n (xB_n (xB_l ⟨_, zs_iload_n em148_0, as_iload⟩) (xB_l ⟨_, zs_iload_n em148_1, as_iload⟩)) (xB_n (xB_l ⟨_, zs_icmplt em148_2 (t := 14) (by decide), as_icmp⟩) (xB_l ⟨_, zs_iload_n em148_5, as_iload⟩))) (xB_n (xB_n (xB_l ⟨_, zs_iload_n em148_6, as_iload⟩) (xB_l ⟨_, zs_icmpgt em148_7 (t := 14) (by decide), as_icmp⟩)) (xB_n (xB_l ⟨_, zs_iconst (v := 1) em148_10 (by decide +kernel), as_const (by decide +kernel)⟩) (xB_n (xB_l ⟨_, zs_goto em148_11 (t := 15) (by decide), as_goto⟩) (xB_l ⟨_, zs_iconst (v := 0) em148_14 (by decide +kernel), as_const (by decide +kernel)⟩)))))
set_option maxRecDepth 100000 in
set_option maxHeartbeats 4000000 in
theorem zM_167 : zOKa 167 zc_167 := z_auto (cuts := []) (rets := [(15, 2)]) (fuel := 1000) rfl rfl (by decide) (xrt_ok (xR_c (Or.inr (Or.inl ⟨rfl, em148_15, rfl⟩)) (xR_n))) (fun _ _ H _ hd => zTo_167 H hd) (by decide +kernel)
/-! CapitalCaseModel.in:(III)Z -/
noncomputable def zTr_168 : Nat → Option aF := bn 6 (bn 2 (bn 1 (bl 0 (a_iload 0 1)) (bl 1 (a_iload 1 2))) (bn 5 (bl 2 (a_icmp 2 14 5)) (bl 5 (a_iload 0 6)))) (bn 10 (bn 7 (bl 6 (a_iload 2 7)) (bl 7 (a_icmp 4 14 10))) (bn 11 (bl 10 (a_const 1 11)) (bn 14 (bl 11 (a_goto 15)) (bl 14 (a_const 0 15)))))
set_option maxRecDepth 100000 in
set_option maxHeartbeats 4000000 in
theorem zTo_168 {pre : zPre} {post : zPost} (H : zTieC pre post) {d : Nat × Nat × Nat} (hd : zLe (0, 0, 0) d) : aTr zG0 zT0 zInv (false, false) PZ zbd pre post d prog_14_method_40_code "CapitalCaseModel" zTr_168 := (xB_n (xB_n (xB_n (xB_l ⟨_, zs_iload_n em148_0, as_iload⟩) (xB_l ⟨_, zs_iload_n em148_1, as_iload⟩)) (xB_n (xB_l ⟨_, zs_icmplt em148_2 (t := 14) (by decide), as_icmp⟩) (xB_l ⟨_, zs_iload_n em148_5, as_iload⟩))) (xB_n (xB_n (xB_l ⟨_, zs_iload_n em148_6, as_iload⟩) (xB_l ⟨_, zs_icmpgt em148_7 (t := 14) (by decide), as_icmp⟩)) (xB_n (xB_l ⟨_, zs_iconst (v := 1) em148_10 (by decide +kernel), as_const (by decide +kernel)⟩) (xB_n (xB_l ⟨_, zs_goto em148_11 (t := 15) (by decide), as_goto⟩) (xB_l ⟨_, zs_iconst (v := 0) em148_14 (by decide +kernel), as_const (by decide +kernel)⟩)))))
set_option maxRecDepth 100000 in
set_option maxHeartbeats 4000000 in
theorem zM_168 : zOKa 168 zc_168 := z_auto (cuts := []) (rets := [(15, 2)]) (fuel := 1000) rfl rfl (by decide) (xrt_ok (xR_c (Or.inr (Or.inl ⟨rfl, em148_15, rfl⟩)) (xR_n))) (fun _ _ H _ hd => zTo_168 H hd) (by decide +kernel)
/-! CapitalCaseModel.in:(III)Z -/
noncomputable def zTr_169 : Nat → Option aF := bn 6 (bn 2 (bn 1 (bl 0 (a_iload 0 1)) (bl 1 (a_iload 1 2))) (bn 5 (bl 2 (a_icmp 2 14 5)) (bl 5 (a_iload 0 6)))) (bn 10 (bn 7 (bl 6 (a_iload 2 7)) (bl 7 (a_icmp 4 14 10))) (bn 11 (bl 10 (a_const 1 11)) (bn 14 (bl 11 (a_goto 15)) (bl 14 (a_const 0 15)))))
set_option maxRecDepth 100000 in
set_option maxHeartbeats 4000000 in
theorem zTo_169 {pre : zPre} {post : zPost} (H : zTieC pre post) {d : Nat × Nat × Nat} (hd : zLe (0, 0, 0) d) : aTr zG0 zT0 zInv (false, false) PZ zbd pre post d prog_14_method_40_code "CapitalCaseModel" zTr_169 := (xB_n (xB_n (xB_n (xB_l ⟨_, zs_iload_n em148_0, as_iload⟩) (xB_l ⟨_, zs_iload_n em148_1, as_iload⟩)) (xB_n (xB_l ⟨_, zs_icmplt em148_2 (t := 14) (by decide), as_icmp⟩) (xB_l ⟨_, zs_iload_n em148_5, as_iload⟩))) (xB_n (xB_n (xB_l ⟨_, zs_iload_n em148_6, as_iload⟩) (xB_l ⟨_, zs_icmpgt em148_7 (t := 14) (by decide), as_icmp⟩)) (xB_n (xB_l ⟨_, zs_iconst (v := 1) em148_10 (by decide +kernel), as_const (by decide +kernel)⟩) (xB_n (xB_l ⟨_, zs_goto em148_11 (t := 15) (by decide), as_goto⟩) (xB_l ⟨_, zs_iconst (v := 0) em148_14 (by decide +kernel), as_const (by decide +kernel)⟩)))))
set_option maxRecDepth 100000 in
set_option maxHeartbeats 4000000 in
theorem zM_169 : zOKa 169 zc_169 := z_auto (cuts := []) (rets := [(15, 2)]) (fuel := 1000) rfl rfl (by decide) (xrt_ok (xR_c (Or.inr (Or.inl ⟨rfl, em148_15, rfl⟩)) (xR_n))) (fun _ _ H _ hd => zTo_169 H hd) (by decide +kernel)
/-! CapitalCaseModel.in:(III)Z -/
noncomputable def zTr_170 : Nat → Option aF := bn 6 (bn 2 (bn 1 (bl 0 (a_iload 0 1)) (bl 1 (a_iload 1 2))) (bn 5 (bl 2 (a_icmp 2 14 5)) (bl 5 (a_iload 0 6)))) (bn 10 (bn 7 (bl 6 (a_iload 2 7)) (bl 7 (a_icmp 4 14 10))) (bn 11 (bl 10 (a_const 1 11)) (bn 14 (bl 11 (a_goto 15)) (bl 14 (a_const 0 15)))))
set_option maxRecDepth 100000 in
set_option maxHeartbeats 4000000 in
theorem zTo_170 {pre : zPre} {post : zPost} (H : zTieC pre post) {d : Nat × Nat × Nat} (hd : zLe (0, 0, 0) d) : aTr zG0 zT0 zInv (false, false) PZ zbd pre post d prog_14_method_40_code "CapitalCaseModel" zTr_170 := (xB_n (xB_n (xB_n (xB_l ⟨_, zs_iload_n em148_0, as_iload⟩) (xB_l ⟨_, zs_iload_n em148_1, as_iload⟩)) (xB_n (xB_l ⟨_, zs_icmplt em148_2 (t := 14) (by decide), as_icmp⟩) (xB_l ⟨_, zs_iload_n em148_5, as_iload⟩))) (xB_n (xB_n (xB_l ⟨_, zs_iload_n em148_6, as_iload⟩) (xB_l ⟨_, zs_icmpgt em148_7 (t := 14) (by decide), as_icmp⟩)) (xB_n (xB_l ⟨_, zs_iconst (v := 1) em148_10 (by decide +kernel), as_const (by decide +kernel)⟩) (xB_n (xB_l ⟨_, zs_goto em148_11 (t := 15) (by decide), as_goto⟩) (xB_l ⟨_, zs_iconst (v := 0) em148_14 (by decide +kernel), as_const (by decide +kernel)⟩)))))
set_option maxRecDepth 100000 in
set_option maxHeartbeats 4000000 in
theorem zM_170 : zOKa 170 zc_170 := z_auto (cuts := []) (rets := [(15, 2)]) (fuel := 1000) rfl rfl (by decide) (xrt_ok (xR_c (Or.inr (Or.inl ⟨rfl, em148_15, rfl⟩)) (xR_n))) (fun _ _ H _ hd => zTo_170 H hd) (by decide +kernel)
/-! CapitalCaseModel.in:(III)Z -/
noncomputable def zTr_171 : Nat → Option aF := bn 6 (bn 2 (bn 1 (bl 0 (a_iload 0 1)) (bl 1 (a_iload 1 2))) (bn 5 (bl 2 (a_icmp 2 14 5)) (bl 5 (a_iload 0 6)))) (bn 10 (bn 7 (bl 6 (a_iload 2 7)) (bl 7 (a_icmp 4 14 10))) (bn 11 (bl 10 (a_const 1 11)) (bn 14 (bl 11 (a_goto 15)) (bl 14 (a_const 0 15)))))
set_option maxRecDepth 100000 in
set_option maxHeartbeats 4000000 in
theorem zTo_171 {pre : zPre} {post : zPost} (H : zTieC pre post) {d : Nat × Nat × Nat} (hd : zLe (0, 0, 0) d) : aTr zG0 zT0 zInv (false, false) PZ zbd pre post d prog_14_method_40_code "CapitalCaseModel" zTr_171 := (xB_n (xB_n (xB_n (xB_l ⟨_, zs_iload_n em148_0, as_iload⟩) (xB_l ⟨_, zs_iload_n em148_1, as_iload⟩)) (xB_n (xB_l ⟨_, zs_icmplt em148_2 (t := 14) (by decide), as_icmp⟩) (xB_l ⟨_, zs_iload_n em148_5, as_iload⟩))) (xB_n (xB_n (xB_l ⟨_, zs_iload_n em148_6, as_iload⟩) (xB_l ⟨_, zs_icmpgt em148_7 (t := 14) (by decide), as_icmp⟩)) (xB_n (xB_l ⟨_, zs_iconst (v := 1) em148_10 (by decide +kernel), as_const (by decide +kernel)⟩) (xB_n (xB_l ⟨_, zs_goto em148_11 (t := 15) (by decide), as_goto⟩) (xB_l ⟨_, zs_iconst (v := 0) em148_14 (by decide +kernel), as_const (by decide +kernel)⟩)))))
set_option maxRecDepth 100000 in
set_option maxHeartbeats 4000000 in
theorem zM_171 : zOKa 171 zc_171 := z_auto (cuts := []) (rets := [(15, 2)]) (fuel := 1000) rfl rfl (by decide) (xrt_ok (xR_c (Or.inr (Or.inl ⟨rfl, em148_15, rfl⟩)) (xR_n))) (fun _ _ H _ hd => zTo_171 H hd) (by decide +kernel)
/-! CapitalCaseModel.in:(III)Z -/
noncomputable def zTr_172 : Nat → Option aF := bn 6 (bn 2 (bn 1 (bl 0 (a_iload 0 1)) (bl 1 (a_iload 1 2))) (bn 5 (bl 2 (a_icmp 2 14 5)) (bl 5 (a_iload 0 6)))) (bn 10 (bn 7 (bl 6 (a_iload 2 7)) (bl 7 (a_icmp 4 14 10))) (bn 11 (bl 10 (a_const 1 11)) (bn 14 (bl 11 (a_goto 15)) (bl 14 (a_const 0 15)))))
set_option maxRecDepth 100000 in
set_option maxHeartbeats 4000000 in
theorem zTo_172 {pre : zPre} {post : zPost} (H : zTieC pre post) {d : Nat × Nat × Nat} (hd : zLe (0, 0, 0) d) : aTr zG0 zT0 zInv (false, false) PZ zbd pre post d prog_14_method_40_code "CapitalCaseModel" zTr_172 := (xB_n (xB_n (xB_n (xB_l ⟨_, zs_iload_n em148_0, as_iload⟩) (xB_l ⟨_, zs_iload_n em148_1, as_iload⟩)) (xB_n (xB_l ⟨_, zs_icmplt em148_2 (t := 14) (by decide), as_icmp⟩) (xB_l ⟨_, zs_iload_n em148_5, as_iload⟩))) (xB_n (xB_n (xB_l ⟨_, zs_iload_n em148_6, as_iload⟩) (xB_l ⟨_, zs_icmpgt em148_7 (t := 14) (by decide), as_icmp⟩)) (xB_n (xB_l ⟨_, zs_iconst (v := 1) em148_10 (by decide +kernel), as_const (by decide +kernel)⟩) (xB_n (xB_l ⟨_, zs_goto em148_11 (t := 15) (by decide), as_goto⟩) (xB_l ⟨_, zs_iconst (v := 0) em148_14 (by decide +kernel), as_const (by decide +kernel)⟩)))))
set_option maxRecDepth 100000 in
set_option maxHeartbeats 4000000 in
theorem zM_172 : zOKa 172 zc_172 := z_auto (cuts := []) (rets := [(15, 2)]) (fuel := 1000) rfl rfl (by decide) (xrt_ok (xR_c (Or.inr (Or.inl ⟨rfl, em148_15, rfl⟩)) (xR_n))) (fun _ _ H _ hd => zTo_172 H hd) (by decide +kernel)
/-! CapitalCaseModel.in:(III)Z -/
noncomputable def zTr_173 : Nat → Option aF := bn 6 (bn 2 (bn 1 (bl 0 (a_iload 0 1)) (bl 1 (a_iload 1 2))) (bn 5 (bl 2 (a_icmp 2 14 5)) (bl 5 (a_iload 0 6)))) (bn 10 (bn 7 (bl 6 (a_iload 2 7)) (bl 7 (a_icmp 4 14 10))) (bn 11 (bl 10 (a_const 1 11)) (bn 14 (bl 11 (a_goto 15)) (bl 14 (a_const 0 15)))))
set_option maxRecDepth 100000 in
set_option maxHeartbeats 4000000 in
theorem zTo_173 {pre : zPre} {post : zPost} (H : zTieC pre post) {d : Nat × Nat × Nat} (hd : zLe (0, 0, 0) d) : aTr zG0 zT0 zInv (false, false) PZ zbd pre post d prog_14_method_40_code "CapitalCaseModel" zTr_173 := (xB_n (xB_n (xB_n (xB_l ⟨_, zs_iload_n em148_0, as_iload⟩) (xB_l ⟨_, zs_iload_n em148_1, as_iload⟩)) (xB_n (xB_l ⟨_, zs_icmplt em148_2 (t := 14) (by decide), as_icmp⟩) (xB_l ⟨_, zs_iload_n em148_5, as_iload⟩))) (xB_n (xB_n (xB_l ⟨_, zs_iload_n em148_6, as_iload⟩) (xB_l ⟨_, zs_icmpgt em148_7 (t := 14) (by decide), as_icmp⟩)) (xB_n (xB_l ⟨_, zs_iconst (v := 1) em148_10 (by decide +kernel), as_const (by decide +kernel)⟩) (xB_n (xB_l ⟨_, zs_goto em148_11 (t := 15) (by decide), as_goto⟩) (xB_l ⟨_, zs_iconst (v := 0) em148_14 (by decide +kernel), as_const (by decide +kernel)⟩)))))
set_option maxRecDepth 100000 in
set_option maxHeartbeats 4000000 in
theorem zM_173 : zOKa 173 zc_173 := z_auto (cuts := []) (rets := [(15, 2)]) (fuel := 1000) rfl rfl (by decide) (xrt_ok (xR_c (Or.inr (Or.inl ⟨rfl, em148_15, rfl⟩)) (xR_n))) (fun _ _ H _ hd => zTo_173 H hd) (by decide +kernel)
/-! CapitalCaseModel.in:(III)Z -/
noncomputable def zTr_174 : Nat → Option aF := bn 6 (bn 2 (bn 1 (bl 0 (a_iload 0 1)) (bl 1 (a_iload 1 2))) (bn 5 (bl 2 (a_icmp 2 14 5)) (bl 5 (a_iload 0 6)))) (bn 10 (bn 7 (bl 6 (a_iload 2 7)) (bl 7 (a_icmp 4 14 10))) (bn 11 (bl 10 (a_const 1 11)) (bn 14 (bl 11 (a_goto 15)) (bl 14 (a_const 0 15)))))
set_option maxRecDepth 100000 in
set_option maxHeartbeats 4000000 in
theorem zTo_174 {pre : zPre} {post : zPost} (H : zTieC pre post) {d : Nat × Nat × Nat} (hd : zLe (0, 0, 0) d) : aTr zG0 zT0 zInv (false, false) PZ zbd pre post d prog_14_method_40_code "CapitalCaseModel" zTr_174 := (xB_n (xB_n (xB_n (xB_l ⟨_, zs_iload_n em148_0, as_iload⟩) (xB_l ⟨_, zs_iload_n em148_1, as_iload⟩)) (xB_n (xB_l ⟨_, zs_icmplt em148_2 (t := 14) (by decide), as_icmp⟩) (xB_l ⟨_, zs_iload_n em148_5, as_iload⟩))) (xB_n (xB_n (xB_l ⟨_, zs_iload_n em148_6, as_iload⟩) (xB_l ⟨_, zs_icmpgt em148_7 (t := 14) (by decide), as_icmp⟩)) (xB_n (xB_l ⟨_, zs_iconst (v := 1) em148_10 (by decide +kernel), as_const (by decide +kernel)⟩) (xB_n (xB_l ⟨_, zs_goto em148_11 (t := 15) (by decide), as_goto⟩) (xB_l ⟨_, zs_iconst (v := 0) em148_14 (by decide +kernel), as_const (by decide +kernel)⟩)))))
set_option maxRecDepth 100000 in
set_option maxHeartbeats 4000000 in
theorem zM_174 : zOKa 174 zc_174 := z_auto (cuts := []) (rets := [(15, 2)]) (fuel := 1000) rfl rfl (by decide) (xrt_ok (xR_c (Or.inr (Or.inl ⟨rfl, em148_15, rfl⟩)) (xR_n))) (fun _ _ H _ hd => zTo_174 H hd) (by decide +kernel)
theorem em149_0 : decode prog_14_method_14_code 0 = .ok (.aload_n 0, 1) := by decide +kernel
theorem em149_1 : decode prog_14_method_14_code 1 = .ok (.getfield 200, 3) := by decide +kernel
theorem em149_4 : decode prog_14_method_14_code 4 = .ok (.ifCond .ne 20, 3) := by decide +kernel
theorem em149_7 : decode prog_14_method_14_code 7 = .ok (.aload_n 0, 1) := by decide +kernel
theorem em149_8 : decode prog_14_method_14_code 8 = .ok (.getfield 20, 3) := by decide +kernel
theorem em149_11 : decode prog_14_method_14_code 11 = .ok (.aload_n 0, 1) := by decide +kernel
theorem em149_12 : decode prog_14_method_14_code 12 = .ok (.getfield 203, 3) := by decide +kernel
theorem em149_15 : decode prog_14_method_14_code 15 = .ok (.iaload, 1) := by decide +kernel
theorem em149_16 : decode prog_14_method_14_code 16 = .ok (.iload_n 1, 1) := by decide +kernel
theorem em149_17 : decode prog_14_method_14_code 17 = .ok (.if_icmp .ne 7, 3) := by decide +kernel
theorem em149_20 : decode prog_14_method_14_code 20 = .ok (.iconst 1, 1) := by decide +kernel
theorem em149_21 : decode prog_14_method_14_code 21 = .ok (.goto 4, 3) := by decide +kernel
theorem em149_24 : decode prog_14_method_14_code 24 = .ok (.iconst 0, 1) := by decide +kernel
theorem em149_25 : decode prog_14_method_14_code 25 = .ok (.ireturn, 1) := by decide +kernel
/-! CapitalCaseModel.is:(I)Z -/
noncomputable def zTr_175 : Nat → Option aF := bn 12 (bn 7 (bn 1 (bl 0 (a_aload 0 1)) (bn 4 (bl 1 (a_getf zG0 zT0 12 27 4)) (bl 4 (a_if 1 24 7)))) (bn 8 (bl 7 (a_aload 0 8)) (bn 11 (bl 8 (a_getf zG0 zT0 12 19 11)) (bl 11 (a_aload 0 12))))) (bn 17 (bn 15 (bl 12 (a_getf zG0 zT0 12 25 15)) (bn 16 (bl 15 (a_ald zG0 zT0 (true, false) ts0 16)) (bl 16 (a_iload 1 17)))) (bn 21 (bn 20 (bl 17 (a_icmp 1 24 20)) (bl 20 (a_const 1 21))) (bn 24 (bl 21 (a_goto 25)) (bl 24 (a_const 0 25)))))
set_option maxRecDepth 100000 in
set_option maxHeartbeats 4000000 in
theorem zTo_175 {pre : zPre} {post : zPost} (H : zTieC pre post) {d : Nat × Nat × Nat} (hd : zLe (0, 0, 0) d) : aTr zG0 zT0 zInv (true, false) PZ zbd pre post d prog_14_method_14_code "CapitalCaseModel" zTr_175 := (xB_n (xB_n (xB_n (xB_l ⟨_, zs_aload_n em149_0, as_aload⟩) (xB_n (xB_l ⟨_, zs_getf (T := TX12) (M := 70) (ci := 12) (j := 27) em149_1 rfl inX12 (by decide) wd_1294 ((congrFun xo_12 200).trans rfl), as_getf zTie⟩) (xB_l ⟨_, zs_ifne em149_4 (t := 24) (by decide), as_if⟩))) (xB_n (xB_l ⟨_, zs_aload_n em149_7, as_aload⟩) (xB_n (xB_l ⟨_, zs_getf (T := TX12) (M := 70) (ci := 12) (j := 19) em149_8 rfl inX12 (by decide) wd_1286 ((congrFun xo_12 20).trans rfl), as_getf zTie⟩) (xB_l ⟨_, zs_aload_n em149_11, as_aload⟩)))) (xB_n (xB_n (xB_l ⟨_, zs_getf (T := TX12) (M := 70) (ci := 12) (j := 25) em149_12 rfl inX12 (by decide) wd_1292 ((congrFun xo_12 203).trans rfl), as_getf zTie⟩) (xB_n (xB_l ⟨_, zs_iald em149_15, ag_iald⟩) (xB_l ⟨_, zs_iload_n em149_16, as_iload⟩))) (xB_n (xB_n (xB_l ⟨_, zs_icmpne em149_17 (t := 24) (by decide), as_icmp⟩) (xB_l ⟨_, zs_iconst (v := 1) em149_20 (by decide +kernel), as_const (by decide +kernel)⟩)) (xB_n (xB_l ⟨_, zs_goto em149_21 (t := 25) (by decide), as_goto⟩) (xB_l ⟨_, zs_iconst (v := 0) em149_24 (by decide +kernel), as_const (by decide +kernel)⟩)))))
set_option maxRecDepth 100000 in
set_option maxHeartbeats 4000000 in
theorem zM_175 : zOKa 175 zc_175 := z_auto (cuts := []) (rets := [(25, 2)]) (fuel := 1000) rfl rfl (by decide) (xrt_ok (xR_c (Or.inr (Or.inl ⟨rfl, em149_25, rfl⟩)) (xR_n))) (fun _ _ H _ hd => zTo_175 H hd) (by decide +kernel)
theorem em150_0 : decode prog_14_method_96_code 0 = .ok (.iload_n 3, 1) := by decide +kernel
theorem em150_1 : decode prog_14_method_96_code 1 = .ok (.iload 4, 2) := by decide +kernel
theorem em150_3 : decode prog_14_method_96_code 3 = .ok (.if_icmp .eq 22, 3) := by decide +kernel
theorem em150_6 : decode prog_14_method_96_code 6 = .ok (.aload_n 0, 1) := by decide +kernel
theorem em150_7 : decode prog_14_method_96_code 7 = .ok (.iload_n 1, 1) := by decide +kernel
theorem em150_8 : decode prog_14_method_96_code 8 = .ok (.iload_n 3, 1) := by decide +kernel
theorem em150_9 : decode prog_14_method_96_code 9 = .ok (.invokevirtual 368, 3) := by decide +kernel
theorem em150_12 : decode prog_14_method_96_code 12 = .ok (.ifCond .eq 13, 3) := by decide +kernel
theorem em150_15 : decode prog_14_method_96_code 15 = .ok (.aload_n 0, 1) := by decide +kernel
theorem em150_16 : decode prog_14_method_96_code 16 = .ok (.iload_n 2, 1) := by decide +kernel
theorem em150_17 : decode prog_14_method_96_code 17 = .ok (.iload 4, 2) := by decide +kernel
theorem em150_19 : decode prog_14_method_96_code 19 = .ok (.invokevirtual 368, 3) := by decide +kernel
theorem em150_22 : decode prog_14_method_96_code 22 = .ok (.ifCond .ne 5, 3) := by decide +kernel
theorem em150_25 : decode prog_14_method_96_code 25 = .ok (.iconst 0, 1) := by decide +kernel
theorem em150_26 : decode prog_14_method_96_code 26 = .ok (.ireturn, 1) := by decide +kernel
theorem em150_27 : decode prog_14_method_96_code 27 = .ok (.aload_n 0, 1) := by decide +kernel
theorem em150_28 : decode prog_14_method_96_code 28 = .ok (.iload_n 1, 1) := by decide +kernel
theorem em150_29 : decode prog_14_method_96_code 29 = .ok (.iload 4, 2) := by decide +kernel
theorem em150_31 : decode prog_14_method_96_code 31 = .ok (.iload_n 3, 1) := by decide +kernel
theorem em150_32 : decode prog_14_method_96_code 32 = .ok (.invokevirtual 460, 3) := by decide +kernel
theorem em150_35 : decode prog_14_method_96_code 35 = .ok (.aload_n 0, 1) := by decide +kernel
theorem em150_36 : decode prog_14_method_96_code 36 = .ok (.iload_n 1, 1) := by decide +kernel
theorem em150_37 : decode prog_14_method_96_code 37 = .ok (.iconst (-1), 1) := by decide +kernel
theorem em150_38 : decode prog_14_method_96_code 38 = .ok (.iconst (-1), 1) := by decide +kernel
theorem em150_39 : decode prog_14_method_96_code 39 = .ok (.invokevirtual 460, 3) := by decide +kernel
theorem em150_42 : decode prog_14_method_96_code 42 = .ok (.if_icmp .le 25, 3) := by decide +kernel
theorem em150_45 : decode prog_14_method_96_code 45 = .ok (.aload_n 0, 1) := by decide +kernel
theorem em150_46 : decode prog_14_method_96_code 46 = .ok (.iload_n 2, 1) := by decide +kernel
theorem em150_47 : decode prog_14_method_96_code 47 = .ok (.iload_n 3, 1) := by decide +kernel
theorem em150_48 : decode prog_14_method_96_code 48 = .ok (.iload 4, 2) := by decide +kernel
theorem em150_50 : decode prog_14_method_96_code 50 = .ok (.invokevirtual 460, 3) := by decide +kernel
theorem em150_53 : decode prog_14_method_96_code 53 = .ok (.aload_n 0, 1) := by decide +kernel
theorem em150_54 : decode prog_14_method_96_code 54 = .ok (.iload_n 2, 1) := by decide +kernel
theorem em150_55 : decode prog_14_method_96_code 55 = .ok (.iconst (-1), 1) := by decide +kernel
theorem em150_56 : decode prog_14_method_96_code 56 = .ok (.iconst (-1), 1) := by decide +kernel
theorem em150_57 : decode prog_14_method_96_code 57 = .ok (.invokevirtual 460, 3) := by decide +kernel
theorem em150_60 : decode prog_14_method_96_code 60 = .ok (.if_icmp .le 7, 3) := by decide +kernel
theorem em150_63 : decode prog_14_method_96_code 63 = .ok (.iconst 1, 1) := by decide +kernel
theorem em150_64 : decode prog_14_method_96_code 64 = .ok (.goto 4, 3) := by decide +kernel
theorem em150_67 : decode prog_14_method_96_code 67 = .ok (.iconst 0, 1) := by decide +kernel
theorem em150_68 : decode prog_14_method_96_code 68 = .ok (.ireturn, 1) := by decide +kernel
/-! CapitalCaseModel.isBargain:(IIII)Z -/
noncomputable def zTr_176 : Nat → Option aF := bn 35 (bn 16 (bn 7 (bn 3 (bn 1 (bl 0 (a_iload 3 1)) (bl 1 (a_iload 4 3))) (bn 6 (bl 3 (a_icmp 0 25 6)) (bl 6 (a_aload 0 7)))) (bn 9 (bn 8 (bl 7 (a_iload 1 8)) (bl 8 (a_iload 3 9))) (bn 12 (bl 9 (a_invV zG0 zprot (true, false) zc_145 (zbd 145) (2, 0, 0) 12 3 12)) (bn 15 (bl 12 (a_if 0 25 15)) (bl 15 (a_aload 0 16)))))) (bn 27 (bn 19 (bn 17 (bl 16 (a_iload 2 17)) (bl 17 (a_iload 4 19))) (bn 22 (bl 19 (a_invV zG0 zprot (true, false) zc_145 (zbd 145) (2, 0, 0) 12 3 22)) (bn 25 (bl 22 (a_if 1 27 25)) (bl 25 (a_const 0 26))))) (bn 29 (bn 28 (bl 27 (a_aload 0 28)) (bl 28 (a_iload 1 29))) (bn 31 (bl 29 (a_iload 4 31)) (bn 32 (bl 31 (a_iload 3 32)) (bl 32 (a_invV zG0 zprot (true, false) zc_200 (zbd 200) (2, 0, 0) 12 4 35))))))) (bn 50 (bn 42 (bn 37 (bn 36 (bl 35 (a_aload 0 36)) (bl 36 (a_iload 1 37))) (bn 38 (bl 37 (a_const (-1) 38)) (bn 39 (bl 38 (a_const (-1) 39)) (bl 39 (a_invV zG0 zprot (true, false) zc_200 (zbd 200) (2, 0, 0) 12 4 42))))) (bn 46 (bn 45 (bl 42 (a_icmp 5 67 45)) (bl 45 (a_aload 0 46))) (bn 47 (bl 46 (a_iload 2 47)) (bn 48 (bl 47 (a_iload 3 48)) (bl 48 (a_iload 4 50)))))) (bn 57 (bn 54 (bn 53 (bl 50 (a_invV zG0 zprot (true, false) zc_200 (zbd 200) (2, 0, 0) 12 4 53)) (bl 53 (a_aload 0 54))) (bn 55 (bl 54 (a_iload 2 55)) (bn 56 (bl 55 (a_const (-1) 56)) (bl 56 (a_const (-1) 57))))) (bn 63 (bn 60 (bl 57 (a_invV zG0 zprot (true, false) zc_200 (zbd 200) (2, 0, 0) 12 4 60)) (bl 60 (a_icmp 5 67 63))) (bn 64 (bl 63 (a_const 1 64)) (bn 67 (bl 64 (a_goto 68)) (bl 67 (a_const 0 68)))))))
set_option maxRecDepth 100000 in
set_option maxHeartbeats 4000000 in
theorem zTo_176 {pre : zPre} {post : zPost} (H : zTieC pre post) {d : Nat × Nat × Nat} (hd : zLe (2, 0, 0) d) : aTr zG0 zT0 zInv (true, false) PZ zbd pre post d prog_14_method_96_code "CapitalCaseModel" zTr_176 := (xB_n (xB_n (xB_n (xB_n (xB_n (xB_l ⟨_, zs_iload_n em150_0, as_iload⟩) (xB_l ⟨_, zs_iload em150_1, as_iload⟩)) (xB_n (xB_l ⟨_, zs_icmpeq em150_3 (t := 25) (by decide), as_icmp⟩) (xB_l ⟨_, zs_aload_n em150_6, as_aload⟩))) (xB_n (xB_n (xB_l ⟨_, zs_iload_n em150_7, as_iload⟩) (xB_l ⟨_, zs_iload_n em150_8, as_iload⟩)) (xB_n (xB_l ⟨_, zs_invV (T := TX12) em150_9 zl_145 rfl wd_1639 wd_1641 wd_74 ((congrFun xo_12 368).trans rfl) xm_138, ag_invV H zh_145 hd (by decide)⟩) (xB_n (xB_l ⟨_, zs_ifeq em150_12 (t := 25) (by decide), as_if⟩) (xB_l ⟨_, zs_aload_n em150_15, as_aload⟩))))) (xB_n (xB_n (xB_n (xB_l ⟨_, zs_iload_n em150_16, as_iload⟩) (xB_l ⟨_, zs_iload em150_17, as_iload⟩)) (xB_n (xB_l ⟨_, zs_invV (T := TX12) em150_19 zl_145 rfl wd_1639 wd_1641 wd_74 ((congrFun xo_12 368).trans rfl) xm_138, ag_invV H zh_145 hd (by decide)⟩) (xB_n (xB_l ⟨_, zs_ifne em150_22 (t := 27) (by decide), as_if⟩) (xB_l ⟨_, zs_iconst (v := 0) em150_25 (by decide +kernel), as_const (by decide +kernel)⟩)))) (xB_n (xB_n (xB_l ⟨_, zs_aload_n em150_27, as_aload⟩) (xB_l ⟨_, zs_iload_n em150_28, as_iload⟩)) (xB_n (xB_l ⟨_, zs_iload em150_29, as_iload⟩) (xB_n (xB_l ⟨_, zs_iload_n em150_31, as_iload⟩) (xB_l ⟨_, zs_invV (T := TX12) em150_32 zl_200 rfl wd_1842 wd_1844 wd_106 ((congrFun xo_12 460).trans rfl) xm_173, ag_invV H zh_200 hd (by decide)⟩)))))) (xB_n (xB_n (xB_n (xB_n (xB_l ⟨_, zs_aload_n em150_35, as_aload⟩) (xB_l ⟨_, zs_iload_n em150_36, as_iload⟩)) (xB_n (xB_l ⟨_, zs_iconst (v := (-1)) em150_37 (by decide +kernel), as_const (by decide +kernel)⟩) (xB_n (xB_l ⟨_, zs_iconst (v := (-1)) em150_38 (by decide +kernel), as_const (by decide +kernel)⟩) (xB_l ⟨_, zs_invV (T := TX12) em150_39 zl_200 rfl wd_1842 wd_1844 wd_106 ((congrFun xo_12 460).trans rfl) xm_173, ag_invV H zh_200 hd (by decide)⟩)))) (xB_n (xB_n (xB_l ⟨_, zs_icmple em150_42 (t := 67) (by decide), as_icmp⟩) (xB_l ⟨_, zs_aload_n em150_45, as_aload⟩)) (xB_n (xB_l ⟨_, zs_iload_n em150_46, as_iload⟩) (xB_n (xB_l ⟨_, zs_iload_n em150_47, as_iload⟩) (xB_l ⟨_, zs_iload em150_48, as_iload⟩))))) (xB_n (xB_n (xB_n (xB_l ⟨_, zs_invV (T := TX12) em150_50 zl_200 rfl wd_1842 wd_1844 wd_106 ((congrFun xo_12 460).trans rfl) xm_173, ag_invV H zh_200 hd (by decide)⟩) (xB_l ⟨_, zs_aload_n em150_53, as_aload⟩)) (xB_n (xB_l ⟨_, zs_iload_n em150_54, as_iload⟩) (xB_n (xB_l ⟨_, zs_iconst (v := (-1)) em150_55 (by decide +kernel), as_const (by decide +kernel)⟩) (xB_l ⟨_, zs_iconst (v := (-1)) em150_56 (by decide +kernel), as_const (by decide +kernel)⟩)))) (xB_n (xB_n (xB_l ⟨_, zs_invV (T := TX12) em150_57 zl_200 rfl wd_1842 wd_1844 wd_106 ((congrFun xo_12 460).trans rfl) xm_173, ag_invV H zh_200 hd (by decide)⟩) (xB_l ⟨_, zs_icmple em150_60 (t := 67) (by decide), as_icmp⟩)) (xB_n (xB_l ⟨_, zs_iconst (v := 1) em150_63 (by decide +kernel), as_const (by decide +kernel)⟩) (xB_n (xB_l ⟨_, zs_goto em150_64 (t := 68) (by decide), as_goto⟩) (xB_l ⟨_, zs_iconst (v := 0) em150_67 (by decide +kernel), as_const (by decide +kernel)⟩)))))))
set_option maxRecDepth 100000 in
set_option maxHeartbeats 4000000 in
theorem zM_176 : zOKa 176 zc_176 := z_auto (cuts := []) (rets := [(26, 2), (68, 2)]) (fuel := 1000) rfl rfl (by decide) (xrt_ok (xR_c (Or.inr (Or.inl ⟨rfl, em150_26, rfl⟩)) (xR_c (Or.inr (Or.inl ⟨rfl, em150_68, rfl⟩)) (xR_n)))) (fun _ _ H _ hd => zTo_176 H hd) (by decide +kernel)
theorem em151_0 : decode prog_14_method_43_code 0 = .ok (.iload_n 1, 1) := by decide +kernel
theorem em151_1 : decode prog_14_method_43_code 1 = .ok (.iconst 0, 1) := by decide +kernel
theorem em151_2 : decode prog_14_method_43_code 2 = .ok (.aload_n 0, 1) := by decide +kernel
theorem em151_3 : decode prog_14_method_43_code 3 = .ok (.getfield 43, 3) := by decide +kernel
theorem em151_6 : decode prog_14_method_43_code 6 = .ok (.aload_n 0, 1) := by decide +kernel
theorem em151_7 : decode prog_14_method_43_code 7 = .ok (.getfield 230, 3) := by decide +kernel
theorem em151_10 : decode prog_14_method_43_code 10 = .ok (.iaload, 1) := by decide +kernel
theorem em151_11 : decode prog_14_method_43_code 11 = .ok (.iconst 1, 1) := by decide +kernel
theorem em151_12 : decode prog_14_method_43_code 12 = .ok (.isub, 1) := by decide +kernel
theorem em151_13 : decode prog_14_method_43_code 13 = .ok (.invokestatic 324, 3) := by decide +kernel
theorem em151_16 : decode prog_14_method_43_code 16 = .ok (.ireturn, 1) := by decide +kernel
/-! CapitalCaseModel.isHouse:(I)Z -/
noncomputable def zTr_177 : Nat → Option aF := bn 7 (bn 2 (bn 1 (bl 0 (a_iload 1 1)) (bl 1 (a_const 0 2))) (bn 3 (bl 2 (a_aload 0 3)) (bn 6 (bl 3 (a_getf zG0 zT0 12 3 6)) (bl 6 (a_aload 0 7))))) (bn 11 (bn 10 (bl 7 (a_getf zG0 zT0 12 2 10)) (bl 10 (a_ald zG0 zT0 (true, false) ts0 11))) (bn 12 (bl 11 (a_const 1 12)) (bn 13 (bl 12 (a_bin fsub 13)) (bl 13 (a_inv zG0 zprot (true, false) zc_160 (zbd 160) (1, 0, 0) 3 16)))))
set_option maxRecDepth 100000 in
set_option maxHeartbeats 4000000 in
theorem zTo_177 {pre : zPre} {post : zPost} (H : zTieC pre post) {d : Nat × Nat × Nat} (hd : zLe (1, 0, 0) d) : aTr zG0 zT0 zInv (true, false) PZ zbd pre post d prog_14_method_43_code "CapitalCaseModel" zTr_177 := (xB_n (xB_n (xB_n (xB_l ⟨_, zs_iload_n em151_0, as_iload⟩) (xB_l ⟨_, zs_iconst (v := 0) em151_1 (by decide +kernel), as_const (by decide +kernel)⟩)) (xB_n (xB_l ⟨_, zs_aload_n em151_2, as_aload⟩) (xB_n (xB_l ⟨_, zs_getf (T := TX12) (M := 70) (ci := 12) (j := 3) em151_3 rfl inX12 (by decide) wd_1303 ((congrFun xo_12 43).trans rfl), as_getf zTie⟩) (xB_l ⟨_, zs_aload_n em151_6, as_aload⟩)))) (xB_n (xB_n (xB_l ⟨_, zs_getf (T := TX12) (M := 70) (ci := 12) (j := 2) em151_7 rfl inX12 (by decide) wd_1299 ((congrFun xo_12 230).trans rfl), as_getf zTie⟩) (xB_l ⟨_, zs_iald em151_10, ag_iald⟩)) (xB_n (xB_l ⟨_, zs_iconst (v := 1) em151_11 (by decide +kernel), as_const (by decide +kernel)⟩) (xB_n (xB_l ⟨_, zs_isub em151_12, as_bin fsub_ok⟩) (xB_l ⟨_, zs_invS em151_13 zl_160 wd_1629 wd_1630 ((congrFun xo_12 324).trans rfl) xm_148, ag_inv H zh_160 hd (by decide)⟩)))))
set_option maxRecDepth 100000 in
set_option maxHeartbeats 4000000 in
theorem zM_177 : zOKa 177 zc_177 := z_auto (cuts := []) (rets := [(16, 2)]) (fuel := 1000) rfl rfl (by decide) (xrt_ok (xR_c (Or.inr (Or.inl ⟨rfl, em151_16, rfl⟩)) (xR_n))) (fun _ _ H _ hd => zTo_177 H hd) (by decide +kernel)
theorem em152_0 : decode prog_14_method_101_code 0 = .ok (.iload_n 0, 1) := by decide +kernel
theorem em152_1 : decode prog_14_method_101_code 1 = .ok (.iconst 0, 1) := by decide +kernel
theorem em152_2 : decode prog_14_method_101_code 2 = .ok (.bipush 60, 2) := by decide +kernel
theorem em152_4 : decode prog_14_method_101_code 4 = .ok (.invokestatic 324, 3) := by decide +kernel
theorem em152_7 : decode prog_14_method_101_code 7 = .ok (.ireturn, 1) := by decide +kernel
/-! CapitalCaseModel.isLong:(I)Z -/
noncomputable def zTr_178 : Nat → Option aF := bn 2 (bn 1 (bl 0 (a_iload 0 1)) (bl 1 (a_const 0 2))) (bn 4 (bl 2 (a_const 60 4)) (bl 4 (a_inv zG0 zprot (false, false) zc_161 (zbd 161) (1, 0, 0) 3 7)))
set_option maxRecDepth 100000 in
set_option maxHeartbeats 4000000 in
theorem zTo_178 {pre : zPre} {post : zPost} (H : zTieC pre post) {d : Nat × Nat × Nat} (hd : zLe (1, 0, 0) d) : aTr zG0 zT0 zInv (false, false) PZ zbd pre post d prog_14_method_101_code "CapitalCaseModel" zTr_178 := (xB_n (xB_n (xB_l ⟨_, zs_iload_n em152_0, as_iload⟩) (xB_l ⟨_, zs_iconst (v := 0) em152_1 (by decide +kernel), as_const (by decide +kernel)⟩)) (xB_n (xB_l ⟨_, zs_bipush (v := 60) em152_2 (by decide +kernel), as_const (by decide +kernel)⟩) (xB_l ⟨_, zs_invS em152_4 zl_161 wd_1629 wd_1630 ((congrFun xo_12 324).trans rfl) xm_148, ag_inv H zh_161 hd (by decide)⟩)))
set_option maxRecDepth 100000 in
set_option maxHeartbeats 4000000 in
theorem zM_178 : zOKa 178 zc_178 := z_auto (cuts := []) (rets := [(7, 2)]) (fuel := 1000) rfl rfl (by decide) (xrt_ok (xR_c (Or.inr (Or.inl ⟨rfl, em152_7, rfl⟩)) (xR_n))) (fun _ _ H _ hd => zTo_178 H hd) (by decide +kernel)
theorem em153_0 : decode prog_14_method_66_code 0 = .ok (.aload_n 0, 1) := by decide +kernel
theorem em153_1 : decode prog_14_method_66_code 1 = .ok (.getfield 116, 3) := by decide +kernel
theorem em153_4 : decode prog_14_method_66_code 4 = .ok (.sipush 320, 3) := by decide +kernel
theorem em153_7 : decode prog_14_method_66_code 7 = .ok (.iload_n 1, 1) := by decide +kernel
theorem em153_8 : decode prog_14_method_66_code 8 = .ok (.iadd, 1) := by decide +kernel
theorem em153_9 : decode prog_14_method_66_code 9 = .ok (.iaload, 1) := by decide +kernel
theorem em153_10 : decode prog_14_method_66_code 10 = .ok (.ifCond .ne 7, 3) := by decide +kernel
theorem em153_13 : decode prog_14_method_66_code 13 = .ok (.iconst 1, 1) := by decide +kernel
theorem em153_14 : decode prog_14_method_66_code 14 = .ok (.goto 4, 3) := by decide +kernel
theorem em153_17 : decode prog_14_method_66_code 17 = .ok (.iconst 0, 1) := by decide +kernel
theorem em153_18 : decode prog_14_method_66_code 18 = .ok (.ireturn, 1) := by decide +kernel
/-! CapitalCaseModel.isOpen:(I)Z -/
noncomputable def zTr_179 : Nat → Option aF := bn 9 (bn 4 (bn 1 (bl 0 (a_aload 0 1)) (bl 1 (a_getf zG0 zT0 12 0 4))) (bn 7 (bl 4 (a_const 320 7)) (bn 8 (bl 7 (a_iload 1 8)) (bl 8 (a_bin fadd 9))))) (bn 13 (bn 10 (bl 9 (a_ald zG0 zT0 (false, false) ts0 10)) (bl 10 (a_if 1 17 13))) (bn 14 (bl 13 (a_const 1 14)) (bn 17 (bl 14 (a_goto 18)) (bl 17 (a_const 0 18)))))
set_option maxRecDepth 100000 in
set_option maxHeartbeats 4000000 in
theorem zTo_179 {pre : zPre} {post : zPost} (H : zTieC pre post) {d : Nat × Nat × Nat} (hd : zLe (0, 0, 0) d) : aTr zG0 zT0 zInv (false, false) PZ zbd pre post d prog_14_method_66_code "CapitalCaseModel" zTr_179 := (xB_n (xB_n (xB_n (xB_l ⟨_, zs_aload_n em153_0, as_aload⟩) (xB_l ⟨_, zs_getf (T := TX12) (M := 70) (ci := 12) (j := 0) em153_1 rfl inX12 (by decide) wd_1332 ((congrFun xo_12 116).trans rfl), as_getf zTie⟩)) (xB_n (xB_l ⟨_, zs_sipush (v := 320) em153_4 (by decide +kernel), as_const (by decide +kernel)⟩) (xB_n (xB_l ⟨_, zs_iload_n em153_7, as_iload⟩) (xB_l ⟨_, zs_iadd em153_8, as_bin fadd_ok⟩)))) (xB_n (xB_n (xB_l ⟨_, zs_iald em153_9, ag_iald⟩) (xB_l ⟨_, zs_ifne em153_10 (t := 17) (by decide), as_if⟩)) (xB_n (xB_l ⟨_, zs_iconst (v := 1) em153_13 (by decide +kernel), as_const (by decide +kernel)⟩) (xB_n (xB_l ⟨_, zs_goto em153_14 (t := 18) (by decide), as_goto⟩) (xB_l ⟨_, zs_iconst (v := 0) em153_17 (by decide +kernel), as_const (by decide +kernel)⟩)))))
set_option maxRecDepth 100000 in
set_option maxHeartbeats 4000000 in
theorem zM_179 : zOKa 179 zc_179 := z_auto (cuts := []) (rets := [(18, 2)]) (fuel := 1000) rfl rfl (by decide) (xrt_ok (xR_c (Or.inr (Or.inl ⟨rfl, em153_18, rfl⟩)) (xR_n))) (fun _ _ H _ hd => zTo_179 H hd) (by decide +kernel)
theorem em154_0 : decode prog_14_method_44_code 0 = .ok (.iload_n 0, 1) := by decide +kernel
theorem em154_1 : decode prog_14_method_44_code 1 = .ok (.iconst 0, 1) := by decide +kernel
theorem em154_2 : decode prog_14_method_44_code 2 = .ok (.bipush 7, 2) := by decide +kernel
theorem em154_4 : decode prog_14_method_44_code 4 = .ok (.invokestatic 324, 3) := by decide +kernel
theorem em154_7 : decode prog_14_method_44_code 7 = .ok (.ireturn, 1) := by decide +kernel
/-! CapitalCaseModel.isSort:(I)Z -/
noncomputable def zTr_180 : Nat → Option aF := bn 2 (bn 1 (bl 0 (a_iload 0 1)) (bl 1 (a_const 0 2))) (bn 4 (bl 2 (a_const 7 4)) (bl 4 (a_inv zG0 zprot (false, false) zc_162 (zbd 162) (1, 0, 0) 3 7)))
set_option maxRecDepth 100000 in
set_option maxHeartbeats 4000000 in
theorem zTo_180 {pre : zPre} {post : zPost} (H : zTieC pre post) {d : Nat × Nat × Nat} (hd : zLe (1, 0, 0) d) : aTr zG0 zT0 zInv (false, false) PZ zbd pre post d prog_14_method_44_code "CapitalCaseModel" zTr_180 := (xB_n (xB_n (xB_l ⟨_, zs_iload_n em154_0, as_iload⟩) (xB_l ⟨_, zs_iconst (v := 0) em154_1 (by decide +kernel), as_const (by decide +kernel)⟩)) (xB_n (xB_l ⟨_, zs_bipush (v := 7) em154_2 (by decide +kernel), as_const (by decide +kernel)⟩) (xB_l ⟨_, zs_invS em154_4 zl_162 wd_1629 wd_1630 ((congrFun xo_12 324).trans rfl) xm_148, ag_inv H zh_162 hd (by decide)⟩)))
set_option maxRecDepth 100000 in
set_option maxHeartbeats 4000000 in
theorem zM_180 : zOKa 180 zc_180 := z_auto (cuts := []) (rets := [(7, 2)]) (fuel := 1000) rfl rfl (by decide) (xrt_ok (xR_c (Or.inr (Or.inl ⟨rfl, em154_7, rfl⟩)) (xR_n))) (fun _ _ H _ hd => zTo_180 H hd) (by decide +kernel)
theorem em155_0 : decode prog_14_method_45_code 0 = .ok (.iload_n 1, 1) := by decide +kernel
theorem em155_1 : decode prog_14_method_45_code 1 = .ok (.iconst 0, 1) := by decide +kernel
theorem em155_2 : decode prog_14_method_45_code 2 = .ok (.aload_n 0, 1) := by decide +kernel
theorem em155_3 : decode prog_14_method_45_code 3 = .ok (.getfield 49, 3) := by decide +kernel
theorem em155_6 : decode prog_14_method_45_code 6 = .ok (.aload_n 0, 1) := by decide +kernel
theorem em155_7 : decode prog_14_method_45_code 7 = .ok (.getfield 230, 3) := by decide +kernel
theorem em155_10 : decode prog_14_method_45_code 10 = .ok (.iaload, 1) := by decide +kernel
theorem em155_11 : decode prog_14_method_45_code 11 = .ok (.iconst 1, 1) := by decide +kernel
theorem em155_12 : decode prog_14_method_45_code 12 = .ok (.isub, 1) := by decide +kernel
theorem em155_13 : decode prog_14_method_45_code 13 = .ok (.invokestatic 324, 3) := by decide +kernel
theorem em155_16 : decode prog_14_method_45_code 16 = .ok (.ireturn, 1) := by decide +kernel
/-! CapitalCaseModel.isVerse:(I)Z -/
noncomputable def zTr_181 : Nat → Option aF := bn 7 (bn 2 (bn 1 (bl 0 (a_iload 1 1)) (bl 1 (a_const 0 2))) (bn 3 (bl 2 (a_aload 0 3)) (bn 6 (bl 3 (a_getf zG0 zT0 12 4 6)) (bl 6 (a_aload 0 7))))) (bn 11 (bn 10 (bl 7 (a_getf zG0 zT0 12 2 10)) (bl 10 (a_ald zG0 zT0 (true, false) ts0 11))) (bn 12 (bl 11 (a_const 1 12)) (bn 13 (bl 12 (a_bin fsub 13)) (bl 13 (a_inv zG0 zprot (true, false) zc_163 (zbd 163) (1, 0, 0) 3 16)))))
set_option maxRecDepth 100000 in
set_option maxHeartbeats 4000000 in
theorem zTo_181 {pre : zPre} {post : zPost} (H : zTieC pre post) {d : Nat × Nat × Nat} (hd : zLe (1, 0, 0) d) : aTr zG0 zT0 zInv (true, false) PZ zbd pre post d prog_14_method_45_code "CapitalCaseModel" zTr_181 := (xB_n (xB_n (xB_n (xB_l ⟨_, zs_iload_n em155_0, as_iload⟩) (xB_l ⟨_, zs_iconst (v := 0) em155_1 (by decide +kernel), as_const (by decide +kernel)⟩)) (xB_n (xB_l ⟨_, zs_aload_n em155_2, as_aload⟩) (xB_n (xB_l ⟨_, zs_getf (T := TX12) (M := 70) (ci := 12) (j := 4) em155_3 rfl inX12 (by decide) wd_1305 ((congrFun xo_12 49).trans rfl), as_getf zTie⟩) (xB_l ⟨_, zs_aload_n em155_6, as_aload⟩)))) (xB_n (xB_n (xB_l ⟨_, zs_getf (T := TX12) (M := 70) (ci := 12) (j := 2) em155_7 rfl inX12 (by decide) wd_1299 ((congrFun xo_12 230).trans rfl), as_getf zTie⟩) (xB_l ⟨_, zs_iald em155_10, ag_iald⟩)) (xB_n (xB_l ⟨_, zs_iconst (v := 1) em155_11 (by decide +kernel), as_const (by decide +kernel)⟩) (xB_n (xB_l ⟨_, zs_isub em155_12, as_bin fsub_ok⟩) (xB_l ⟨_, zs_invS em155_13 zl_163 wd_1629 wd_1630 ((congrFun xo_12 324).trans rfl) xm_148, ag_inv H zh_163 hd (by decide)⟩)))))
set_option maxRecDepth 100000 in
set_option maxHeartbeats 4000000 in
theorem zM_181 : zOKa 181 zc_181 := z_auto (cuts := []) (rets := [(16, 2)]) (fuel := 1000) rfl rfl (by decide) (xrt_ok (xR_c (Or.inr (Or.inl ⟨rfl, em155_16, rfl⟩)) (xR_n))) (fun _ _ H _ hd => zTo_181 H hd) (by decide +kernel)
theorem em156_0 : decode prog_14_method_85_code 0 = .ok (.iconst 0, 1) := by decide +kernel
theorem em156_1 : decode prog_14_method_85_code 1 = .ok (.istore_n 1, 1) := by decide +kernel
theorem em156_2 : decode prog_14_method_85_code 2 = .ok (.iload_n 1, 1) := by decide +kernel
theorem em156_3 : decode prog_14_method_85_code 3 = .ok (.sipush 390, 3) := by decide +kernel
theorem em156_6 : decode prog_14_method_85_code 6 = .ok (.if_icmp .ge 21, 3) := by decide +kernel
theorem em156_9 : decode prog_14_method_85_code 9 = .ok (.aload_n 0, 1) := by decide +kernel
theorem em156_10 : decode prog_14_method_85_code 10 = .ok (.getfield 131, 3) := by decide +kernel
theorem em156_13 : decode prog_14_method_85_code 13 = .ok (.iload_n 1, 1) := by decide +kernel
theorem em156_14 : decode prog_14_method_85_code 14 = .ok (.aload_n 0, 1) := by decide +kernel
theorem em156_15 : decode prog_14_method_85_code 15 = .ok (.getfield 116, 3) := by decide +kernel
theorem em156_18 : decode prog_14_method_85_code 18 = .ok (.iload_n 1, 1) := by decide +kernel
theorem em156_19 : decode prog_14_method_85_code 19 = .ok (.iaload, 1) := by decide +kernel
theorem em156_20 : decode prog_14_method_85_code 20 = .ok (.iastore, 1) := by decide +kernel
theorem em156_21 : decode prog_14_method_85_code 21 = .ok (.iinc 1 1, 3) := by decide +kernel
theorem em156_24 : decode prog_14_method_85_code 24 = .ok (.goto (-22), 3) := by decide +kernel
theorem em156_27 : decode prog_14_method_85_code 27 = .ok (.return_, 1) := by decide +kernel
/-! CapitalCaseModel.keepsAhead:()V -/
noncomputable def zTr_182 : Nat → Option aF := bn 13 (bn 3 (bn 1 (bl 0 (a_const 0 1)) (bn 2 (bl 1 (a_istore 1 2)) (bl 2 (a_iload 1 3)))) (bn 9 (bn 6 (bl 3 (a_const 390 6)) (bl 6 (a_icmp 3 27 9))) (bn 10 (bl 9 (a_aload 0 10)) (bl 10 (a_getf zG0 zT0 12 61 13))))) (bn 19 (bn 15 (bn 14 (bl 13 (a_iload 1 14)) (bl 14 (a_aload 0 15))) (bn 18 (bl 15 (a_getf zG0 zT0 12 0 18)) (bl 18 (a_iload 1 19)))) (bn 21 (bn 20 (bl 19 (a_ald zG0 zT0 (false, false) ts0 20)) (bl 20 (a_ast zG0 zT0 ts0 21))) (bn 24 (bl 21 (a_iinc 1 1 24)) (bl 24 (a_goto 2)))))
set_option maxRecDepth 100000 in
set_option maxHeartbeats 4000000 in
theorem zTo_182 {pre : zPre} {post : zPost} (H : zTieC pre post) {d : Nat × Nat × Nat} (hd : zLe (0, 0, 0) d) : aTr zG0 zT0 zInv (false, false) PZ zbd pre post d prog_14_method_85_code "CapitalCaseModel" zTr_182 := (xB_n (xB_n (xB_n (xB_l ⟨_, zs_iconst (v := 0) em156_0 (by decide +kernel), as_const (by decide +kernel)⟩) (xB_n (xB_l ⟨_, zs_istore_n em156_1, as_istore⟩) (xB_l ⟨_, zs_iload_n em156_2, as_iload⟩))) (xB_n (xB_n (xB_l ⟨_, zs_sipush (v := 390) em156_3 (by decide +kernel), as_const (by decide +kernel)⟩) (xB_l ⟨_, zs_icmpge em156_6 (t := 27) (by decide), as_icmp⟩)) (xB_n (xB_l ⟨_, zs_aload_n em156_9, as_aload⟩) (xB_l ⟨_, zs_getf (T := TX12) (M := 70) (ci := 12) (j := 61) em156_10 rfl inX12 (by decide) wd_1342 ((congrFun xo_12 131).trans rfl), as_getf zTie⟩)))) (xB_n (xB_n (xB_n (xB_l ⟨_, zs_iload_n em156_13, as_iload⟩) (xB_l ⟨_, zs_aload_n em156_14, as_aload⟩)) (xB_n (xB_l ⟨_, zs_getf (T := TX12) (M := 70) (ci := 12) (j := 0) em156_15 rfl inX12 (by decide) wd_1332 ((congrFun xo_12 116).trans rfl), as_getf zTie⟩) (xB_l ⟨_, zs_iload_n em156_18, as_iload⟩))) (xB_n (xB_n (xB_l ⟨_, zs_iald em156_19, ag_iald⟩) (xB_l ⟨_, zs_iast zInj0 em156_20, as_iast zTie⟩)) (xB_n (xB_l ⟨_, zs_iinc (k := 1) em156_21 (by decide +kernel), as_iinc (by decide +kernel)⟩) (xB_l ⟨_, zs_goto em156_24 (t := 2) (by decide), as_goto⟩)))))
set_option maxRecDepth 100000 in
set_option maxHeartbeats 4000000 in
theorem zM_182 : zOKa 182 zc_182 := z_auto (cuts := [(2, ([(0, 0), (0, 390)], [], [some (.inr (.inl (0, 75))), some (.inl (1, 0))], [], [], (0, 0)), [(0, 1)], 390, [0, (-1)])]) (rets := [(27, 3)]) (fuel := 1000) rfl rfl (by decide) (xrt_ok (xR_c (Or.inr (Or.inr (Or.inl ⟨rfl, em156_27, rfl⟩))) (xR_n))) (fun _ _ H _ hd => zTo_182 H hd) (by decide +kernel)
theorem em157_0 : decode prog_14_method_47_code 0 = .ok (.iconst 0, 1) := by decide +kernel
theorem em157_1 : decode prog_14_method_47_code 1 = .ok (.istore_n 1, 1) := by decide +kernel
theorem em157_2 : decode prog_14_method_47_code 2 = .ok (.iload_n 1, 1) := by decide +kernel
theorem em157_3 : decode prog_14_method_47_code 3 = .ok (.sipush 390, 3) := by decide +kernel
theorem em157_6 : decode prog_14_method_47_code 6 = .ok (.if_icmp .ge 21, 3) := by decide +kernel
theorem em157_9 : decode prog_14_method_47_code 9 = .ok (.aload_n 0, 1) := by decide +kernel
theorem em157_10 : decode prog_14_method_47_code 10 = .ok (.getfield 113, 3) := by decide +kernel
theorem em157_13 : decode prog_14_method_47_code 13 = .ok (.iload_n 1, 1) := by decide +kernel
theorem em157_14 : decode prog_14_method_47_code 14 = .ok (.aload_n 0, 1) := by decide +kernel
theorem em157_15 : decode prog_14_method_47_code 15 = .ok (.getfield 116, 3) := by decide +kernel
theorem em157_18 : decode prog_14_method_47_code 18 = .ok (.iload_n 1, 1) := by decide +kernel
theorem em157_19 : decode prog_14_method_47_code 19 = .ok (.iaload, 1) := by decide +kernel
theorem em157_20 : decode prog_14_method_47_code 20 = .ok (.iastore, 1) := by decide +kernel
theorem em157_21 : decode prog_14_method_47_code 21 = .ok (.iinc 1 1, 3) := by decide +kernel
theorem em157_24 : decode prog_14_method_47_code 24 = .ok (.goto (-22), 3) := by decide +kernel
theorem em157_27 : decode prog_14_method_47_code 27 = .ok (.return_, 1) := by decide +kernel
/-! CapitalCaseModel.keepsRow:()V -/
noncomputable def zTr_183 : Nat → Option aF := bn 13 (bn 3 (bn 1 (bl 0 (a_const 0 1)) (bn 2 (bl 1 (a_istore 1 2)) (bl 2 (a_iload 1 3)))) (bn 9 (bn 6 (bl 3 (a_const 390 6)) (bl 6 (a_icmp 3 27 9))) (bn 10 (bl 9 (a_aload 0 10)) (bl 10 (a_getf zG0 zT0 12 1 13))))) (bn 19 (bn 15 (bn 14 (bl 13 (a_iload 1 14)) (bl 14 (a_aload 0 15))) (bn 18 (bl 15 (a_getf zG0 zT0 12 0 18)) (bl 18 (a_iload 1 19)))) (bn 21 (bn 20 (bl 19 (a_ald zG0 zT0 (false, false) ts0 20)) (bl 20 (a_ast zG0 zT0 ts0 21))) (bn 24 (bl 21 (a_iinc 1 1 24)) (bl 24 (a_goto 2)))))
set_option maxRecDepth 100000 in
set_option maxHeartbeats 4000000 in
theorem zTo_183 {pre : zPre} {post : zPost} (H : zTieC pre post) {d : Nat × Nat × Nat} (hd : zLe (0, 0, 0) d) : aTr zG0 zT0 zInv (false, false) PZ zbd pre post d prog_14_method_47_code "CapitalCaseModel" zTr_183 := (xB_n (xB_n (xB_n (xB_l ⟨_, zs_iconst (v := 0) em157_0 (by decide +kernel), as_const (by decide +kernel)⟩) (xB_n (xB_l ⟨_, zs_istore_n em157_1, as_istore⟩) (xB_l ⟨_, zs_iload_n em157_2, as_iload⟩))) (xB_n (xB_n (xB_l ⟨_, zs_sipush (v := 390) em157_3 (by decide +kernel), as_const (by decide +kernel)⟩) (xB_l ⟨_, zs_icmpge em157_6 (t := 27) (by decide), as_icmp⟩)) (xB_n (xB_l ⟨_, zs_aload_n em157_9, as_aload⟩) (xB_l ⟨_, zs_getf (T := TX12) (M := 70) (ci := 12) (j := 1) em157_10 rfl inX12 (by decide) wd_1331 ((congrFun xo_12 113).trans rfl), as_getf zTie⟩)))) (xB_n (xB_n (xB_n (xB_l ⟨_, zs_iload_n em157_13, as_iload⟩) (xB_l ⟨_, zs_aload_n em157_14, as_aload⟩)) (xB_n (xB_l ⟨_, zs_getf (T := TX12) (M := 70) (ci := 12) (j := 0) em157_15 rfl inX12 (by decide) wd_1332 ((congrFun xo_12 116).trans rfl), as_getf zTie⟩) (xB_l ⟨_, zs_iload_n em157_18, as_iload⟩))) (xB_n (xB_n (xB_l ⟨_, zs_iald em157_19, ag_iald⟩) (xB_l ⟨_, zs_iast zInj0 em157_20, as_iast zTie⟩)) (xB_n (xB_l ⟨_, zs_iinc (k := 1) em157_21 (by decide +kernel), as_iinc (by decide +kernel)⟩) (xB_l ⟨_, zs_goto em157_24 (t := 2) (by decide), as_goto⟩)))))
set_option maxRecDepth 100000 in
set_option maxHeartbeats 4000000 in
theorem zM_183 : zOKa 183 zc_183 := z_auto (cuts := [(2, ([(0, 0), (0, 390)], [], [some (.inr (.inl (0, 75))), some (.inl (1, 0))], [], [], (0, 0)), [(0, 1)], 390, [0, (-1)])]) (rets := [(27, 3)]) (fuel := 1000) rfl rfl (by decide) (xrt_ok (xR_c (Or.inr (Or.inr (Or.inl ⟨rfl, em157_27, rfl⟩))) (xR_n))) (fun _ _ H _ hd => zTo_183 H hd) (by decide +kernel)
theorem em158_0 : decode prog_14_method_100_code 0 = .ok (.aload_n 0, 1) := by decide +kernel
theorem em158_1 : decode prog_14_method_100_code 1 = .ok (.invokevirtual 411, 3) := by decide +kernel
theorem em158_4 : decode prog_14_method_100_code 4 = .ok (.aload_n 0, 1) := by decide +kernel
theorem em158_5 : decode prog_14_method_100_code 5 = .ok (.invokevirtual 436, 3) := by decide +kernel
theorem em158_8 : decode prog_14_method_100_code 8 = .ok (.istore_n 1, 1) := by decide +kernel
theorem em158_9 : decode prog_14_method_100_code 9 = .ok (.iconst 0, 1) := by decide +kernel
theorem em158_10 : decode prog_14_method_100_code 10 = .ok (.istore_n 2, 1) := by decide +kernel
theorem em158_11 : decode prog_14_method_100_code 11 = .ok (.iload_n 2, 1) := by decide +kernel
theorem em158_12 : decode prog_14_method_100_code 12 = .ok (.aload_n 0, 1) := by decide +kernel
theorem em158_13 : decode prog_14_method_100_code 13 = .ok (.getfield 49, 3) := by decide +kernel
theorem em158_16 : decode prog_14_method_100_code 16 = .ok (.aload_n 0, 1) := by decide +kernel
theorem em158_17 : decode prog_14_method_100_code 17 = .ok (.getfield 230, 3) := by decide +kernel
theorem em158_20 : decode prog_14_method_100_code 20 = .ok (.iaload, 1) := by decide +kernel
theorem em158_21 : decode prog_14_method_100_code 21 = .ok (.if_icmp .ge 42, 3) := by decide +kernel
theorem em158_24 : decode prog_14_method_100_code 24 = .ok (.aload_n 0, 1) := by decide +kernel
theorem em158_25 : decode prog_14_method_100_code 25 = .ok (.getfield 61, 3) := by decide +kernel
theorem em158_28 : decode prog_14_method_100_code 28 = .ok (.bipush 7, 2) := by decide +kernel
theorem em158_30 : decode prog_14_method_100_code 30 = .ok (.aload_n 0, 1) := by decide +kernel
theorem em158_31 : decode prog_14_method_100_code 31 = .ok (.getfield 230, 3) := by decide +kernel
theorem em158_34 : decode prog_14_method_100_code 34 = .ok (.imul, 1) := by decide +kernel
theorem em158_35 : decode prog_14_method_100_code 35 = .ok (.iload_n 2, 1) := by decide +kernel
theorem em158_36 : decode prog_14_method_100_code 36 = .ok (.iadd, 1) := by decide +kernel
theorem em158_37 : decode prog_14_method_100_code 37 = .ok (.iaload, 1) := by decide +kernel
theorem em158_38 : decode prog_14_method_100_code 38 = .ok (.aload_n 0, 1) := by decide +kernel
theorem em158_39 : decode prog_14_method_100_code 39 = .ok (.getfield 116, 3) := by decide +kernel
theorem em158_42 : decode prog_14_method_100_code 42 = .ok (.sipush 386, 3) := by decide +kernel
theorem em158_45 : decode prog_14_method_100_code 45 = .ok (.iaload, 1) := by decide +kernel
theorem em158_46 : decode prog_14_method_100_code 46 = .ok (.if_icmp .lt 11, 3) := by decide +kernel
theorem em158_49 : decode prog_14_method_100_code 49 = .ok (.iload_n 1, 1) := by decide +kernel
theorem em158_50 : decode prog_14_method_100_code 50 = .ok (.iconst 1, 1) := by decide +kernel
theorem em158_51 : decode prog_14_method_100_code 51 = .ok (.iload_n 2, 1) := by decide +kernel
theorem em158_52 : decode prog_14_method_100_code 52 = .ok (.ishl, 1) := by decide +kernel
theorem em158_53 : decode prog_14_method_100_code 53 = .ok (.iconst (-1), 1) := by decide +kernel
theorem em158_54 : decode prog_14_method_100_code 54 = .ok (.ixor, 1) := by decide +kernel
theorem em158_55 : decode prog_14_method_100_code 55 = .ok (.iand, 1) := by decide +kernel
theorem em158_56 : decode prog_14_method_100_code 56 = .ok (.istore_n 1, 1) := by decide +kernel
theorem em158_57 : decode prog_14_method_100_code 57 = .ok (.iinc 2 1, 3) := by decide +kernel
theorem em158_60 : decode prog_14_method_100_code 60 = .ok (.goto (-49), 3) := by decide +kernel
theorem em158_63 : decode prog_14_method_100_code 63 = .ok (.iload_n 1, 1) := by decide +kernel
theorem em158_64 : decode prog_14_method_100_code 64 = .ok (.ireturn, 1) := by decide +kernel
/-! CapitalCaseModel.late:()I -/
noncomputable def zTr_184 : Nat → Option aF := bn 34 (bn 13 (bn 8 (bn 4 (bn 1 (bl 0 (a_aload 0 1)) (bl 1 (a_invV zG0 zprot (true, false) zc_136 (zbd 136) (2, 0, 0) 12 1 4))) (bn 5 (bl 4 (a_aload 0 5)) (bl 5 (a_invV zG0 zprot (true, false) zc_199 (zbd 199) (2, 0, 0) 12 1 8)))) (bn 10 (bn 9 (bl 8 (a_istore 1 9)) (bl 9 (a_const 0 10))) (bn 11 (bl 10 (a_istore 2 11)) (bn 12 (bl 11 (a_iload 2 12)) (bl 12 (a_aload 0 13)))))) (bn 24 (bn 17 (bn 16 (bl 13 (a_getf zG0 zT0 12 4 16)) (bl 16 (a_aload 0 17))) (bn 20 (bl 17 (a_getf zG0 zT0 12 2 20)) (bn 21 (bl 20 (a_ald zG0 zT0 (true, false) ts0 21)) (bl 21 (a_icmp 3 63 24))))) (bn 28 (bn 25 (bl 24 (a_aload 0 25)) (bl 25 (a_getf zG0 zT0 12 39 28))) (bn 30 (bl 28 (a_const 7 30)) (bn 31 (bl 30 (a_aload 0 31)) (bl 31 (a_getf zG0 zT0 12 2 34))))))) (bn 50 (bn 39 (bn 36 (bn 35 (bl 34 (a_bin fmul 35)) (bl 35 (a_iload 2 36))) (bn 37 (bl 36 (a_bin fadd 37)) (bn 38 (bl 37 (a_ald zG0 zT0 (true, false) ts0 38)) (bl 38 (a_aload 0 39))))) (bn 45 (bn 42 (bl 39 (a_getf zG0 zT0 12 0 42)) (bl 42 (a_const 386 45))) (bn 46 (bl 45 (a_ald zG0 zT0 (true, false) ts0 46)) (bn 49 (bl 46 (a_icmp 2 57 49)) (bl 49 (a_iload 1 50)))))) (bn 55 (bn 52 (bn 51 (bl 50 (a_const 1 51)) (bl 51 (a_iload 2 52))) (bn 53 (bl 52 (a_bin fshl 53)) (bn 54 (bl 53 (a_const (-1) 54)) (bl 54 (a_bin fany 55))))) (bn 57 (bn 56 (bl 55 (a_bin fand 56)) (bl 56 (a_istore 1 57))) (bn 60 (bl 57 (a_iinc 2 1 60)) (bn 63 (bl 60 (a_goto 11)) (bl 63 (a_iload 1 64)))))))
set_option maxRecDepth 100000 in
set_option maxHeartbeats 4000000 in
theorem zTo_184 {pre : zPre} {post : zPost} (H : zTieC pre post) {d : Nat × Nat × Nat} (hd : zLe (2, 0, 0) d) : aTr zG0 zT0 zInv (true, false) PZ zbd pre post d prog_14_method_100_code "CapitalCaseModel" zTr_184 := (xB_n (xB_n (xB_n (xB_n (xB_n (xB_l ⟨_, zs_aload_n em158_0, as_aload⟩) (xB_l ⟨_, zs_invV (T := TX12) em158_1 zl_136 rfl wd_1635 wd_1637 wd_73 ((congrFun xo_12 411).trans rfl) xm_129, ag_invV H zh_136 hd (by decide)⟩)) (xB_n (xB_l ⟨_, zs_aload_n em158_4, as_aload⟩) (xB_l ⟨_, zs_invV (T := TX12) em158_5 zl_199 rfl wd_1798 wd_1800 wd_100 ((congrFun xo_12 436).trans rfl) xm_172, ag_invV H zh_199 hd (by decide)⟩))) (xB_n (xB_n (xB_l ⟨_, zs_istore_n em158_8, as_istore⟩) (xB_l ⟨_, zs_iconst (v := 0) em158_9 (by decide +kernel), as_const (by decide +kernel)⟩)) (xB_n (xB_l ⟨_, zs_istore_n em158_10, as_istore⟩) (xB_n (xB_l ⟨_, zs_iload_n em158_11, as_iload⟩) (xB_l ⟨_, zs_aload_n em158_12, as_aload⟩))))) (xB_n (xB_n (xB_n (xB_l ⟨_, zs_getf (T := TX12) (M := 70) (ci := 12) (j := 4) em158_13 rfl inX12 (by decide) wd_1305 ((congrFun xo_12 49).trans rfl), as_getf zTie⟩) (xB_l ⟨_, zs_aload_n em158_16, as_aload⟩)) (xB_n (xB_l ⟨_, zs_getf (T := TX12) (M := 70) (ci := 12) (j := 2) em158_17 rfl inX12 (by decide) wd_1299 ((congrFun xo_12 230).trans rfl), as_getf zTie⟩) (xB_n (xB_l ⟨_, zs_iald em158_20, ag_iald⟩) (xB_l ⟨_, zs_icmpge em158_21 (t := 63) (by decide), as_icmp⟩)))) (xB_n (xB_n (xB_l ⟨_, zs_aload_n em158_24, as_aload⟩) (xB_l ⟨_, zs_getf (T := TX12) (M := 70) (ci := 12) (j := 39) em158_25 rfl inX12 (by decide) wd_1309 ((congrFun xo_12 61).trans rfl), as_getf zTie⟩)) (xB_n (xB_l ⟨_, zs_bipush (v := 7) em158_28 (by decide +kernel), as_const (by decide +kernel)⟩) (xB_n (xB_l ⟨_, zs_aload_n em158_30, as_aload⟩) (xB_l ⟨_, zs_getf (T := TX12) (M := 70) (ci := 12) (j := 2) em158_31 rfl inX12 (by decide) wd_1299 ((congrFun xo_12 230).trans rfl), as_getf zTie⟩)))))) (xB_n (xB_n (xB_n (xB_n (xB_l ⟨_, zs_imul em158_34, as_bin fmul_ok⟩) (xB_l ⟨_, zs_iload_n em158_35, as_iload⟩)) (xB_n (xB_l ⟨_, zs_iadd em158_36, as_bin fadd_ok⟩) (xB_n (xB_l ⟨_, zs_iald em158_37, ag_iald⟩) (xB_l ⟨_, zs_aload_n em158_38, as_aload⟩)))) (xB_n (xB_n (xB_l ⟨_, zs_getf (T := TX12) (M := 70) (ci := 12) (j := 0) em158_39 rfl inX12 (by decide) wd_1332 ((congrFun xo_12 116).trans rfl), as_getf zTie⟩) (xB_l ⟨_, zs_sipush (v := 386) em158_42 (by decide +kernel), as_const (by decide +kernel)⟩)) (xB_n (xB_l ⟨_, zs_iald em158_45, ag_iald⟩) (xB_n (xB_l ⟨_, zs_icmplt em158_46 (t := 57) (by decide), as_icmp⟩) (xB_l ⟨_, zs_iload_n em158_49, as_iload⟩))))) (xB_n (xB_n (xB_n (xB_l ⟨_, zs_iconst (v := 1) em158_50 (by decide +kernel), as_const (by decide +kernel)⟩) (xB_l ⟨_, zs_iload_n em158_51, as_iload⟩)) (xB_n (xB_l ⟨_, zs_ishl em158_52, as_bin fshl_ok⟩) (xB_n (xB_l ⟨_, zs_iconst (v := (-1)) em158_53 (by decide +kernel), as_const (by decide +kernel)⟩) (xB_l ⟨_, zs_ixor em158_54, as_bin fany_ok⟩)))) (xB_n (xB_n (xB_l ⟨_, zs_iand em158_55, as_bin fand_ok⟩) (xB_l ⟨_, zs_istore_n em158_56, as_istore⟩)) (xB_n (xB_l ⟨_, zs_iinc (k := 1) em158_57 (by decide +kernel), as_iinc (by decide +kernel)⟩) (xB_n (xB_l ⟨_, zs_goto em158_60 (t := 11) (by decide), as_goto⟩) (xB_l ⟨_, zs_iload_n em158_63, as_iload⟩)))))))
set_option maxRecDepth 100000 in
set_option maxHeartbeats 4000000 in
theorem zM_184 : zOKa 184 zc_184 := z_auto (cuts := [(11, ([(0, 0), (0, 1), ((-2147483648), 2147483647), (0, 7)], [], [some (.inr (.inl (0, 75))), some (.inl (2, 0)), some (.inl (3, 0))], [], [(22, 1, 0)], (0, 0)), [(0, 1), (0, 2)], 7, [0, 0, 0, (-1)])]) (rets := [(64, 1)]) (fuel := 1000) rfl rfl (by decide) (xrt_ok (xR_c (Or.inl ⟨rfl, em158_64, rfl⟩) (xR_n))) (fun _ _ H _ hd => zTo_184 H hd) (by decide +kernel)
theorem em160_0 : decode prog_14_method_80_code 0 = .ok (.aload_n 0, 1) := by decide +kernel
theorem em160_1 : decode prog_14_method_80_code 1 = .ok (.iload_n 1, 1) := by decide +kernel
theorem em160_2 : decode prog_14_method_80_code 2 = .ok (.iload_n 2, 1) := by decide +kernel
theorem em160_3 : decode prog_14_method_80_code 3 = .ok (.iload_n 3, 1) := by decide +kernel
theorem em160_4 : decode prog_14_method_80_code 4 = .ok (.invokevirtual 427, 3) := by decide +kernel
theorem em160_7 : decode prog_14_method_80_code 7 = .ok (.ifCond .ne 5, 3) := by decide +kernel
theorem em160_10 : decode prog_14_method_80_code 10 = .ok (.iconst 0, 1) := by decide +kernel
theorem em160_11 : decode prog_14_method_80_code 11 = .ok (.ireturn, 1) := by decide +kernel
theorem em160_12 : decode prog_14_method_80_code 12 = .ok (.aload_n 0, 1) := by decide +kernel
theorem em160_13 : decode prog_14_method_80_code 13 = .ok (.invokevirtual 411, 3) := by decide +kernel
theorem em160_16 : decode prog_14_method_80_code 16 = .ok (.aload_n 0, 1) := by decide +kernel
theorem em160_17 : decode prog_14_method_80_code 17 = .ok (.iload_n 1, 1) := by decide +kernel
theorem em160_18 : decode prog_14_method_80_code 18 = .ok (.iload_n 3, 1) := by decide +kernel
theorem em160_19 : decode prog_14_method_80_code 19 = .ok (.invokevirtual 368, 3) := by decide +kernel
theorem em160_22 : decode prog_14_method_80_code 22 = .ok (.ifCond .ne 5, 3) := by decide +kernel
theorem em160_25 : decode prog_14_method_80_code 25 = .ok (.iconst 0, 1) := by decide +kernel
theorem em160_26 : decode prog_14_method_80_code 26 = .ok (.ireturn, 1) := by decide +kernel
theorem em160_27 : decode prog_14_method_80_code 27 = .ok (.aload_n 0, 1) := by decide +kernel
theorem em160_28 : decode prog_14_method_80_code 28 = .ok (.getfield 116, 3) := by decide +kernel
theorem em160_31 : decode prog_14_method_80_code 31 = .ok (.bipush 8, 2) := by decide +kernel
theorem em160_33 : decode prog_14_method_80_code 33 = .ok (.iload_n 1, 1) := by decide +kernel
theorem em160_34 : decode prog_14_method_80_code 34 = .ok (.imul, 1) := by decide +kernel
theorem em160_35 : decode prog_14_method_80_code 35 = .ok (.iload_n 3, 1) := by decide +kernel
theorem em160_36 : decode prog_14_method_80_code 36 = .ok (.iadd, 1) := by decide +kernel
theorem em160_37 : decode prog_14_method_80_code 37 = .ok (.dup2, 1) := by decide +kernel
theorem em160_38 : decode prog_14_method_80_code 38 = .ok (.iaload, 1) := by decide +kernel
theorem em160_39 : decode prog_14_method_80_code 39 = .ok (.iconst 1, 1) := by decide +kernel
theorem em160_40 : decode prog_14_method_80_code 40 = .ok (.isub, 1) := by decide +kernel
theorem em160_41 : decode prog_14_method_80_code 41 = .ok (.iastore, 1) := by decide +kernel
theorem em160_42 : decode prog_14_method_80_code 42 = .ok (.aload_n 0, 1) := by decide +kernel
theorem em160_43 : decode prog_14_method_80_code 43 = .ok (.getfield 116, 3) := by decide +kernel
theorem em160_46 : decode prog_14_method_80_code 46 = .ok (.bipush 8, 2) := by decide +kernel
theorem em160_48 : decode prog_14_method_80_code 48 = .ok (.iload_n 2, 1) := by decide +kernel
theorem em160_49 : decode prog_14_method_80_code 49 = .ok (.imul, 1) := by decide +kernel
theorem em160_50 : decode prog_14_method_80_code 50 = .ok (.iload_n 3, 1) := by decide +kernel
theorem em160_51 : decode prog_14_method_80_code 51 = .ok (.iadd, 1) := by decide +kernel
theorem em160_52 : decode prog_14_method_80_code 52 = .ok (.dup2, 1) := by decide +kernel
theorem em160_53 : decode prog_14_method_80_code 53 = .ok (.iaload, 1) := by decide +kernel
theorem em160_54 : decode prog_14_method_80_code 54 = .ok (.iconst 1, 1) := by decide +kernel
theorem em160_55 : decode prog_14_method_80_code 55 = .ok (.iadd, 1) := by decide +kernel
theorem em160_56 : decode prog_14_method_80_code 56 = .ok (.iastore, 1) := by decide +kernel
theorem em160_57 : decode prog_14_method_80_code 57 = .ok (.aload_n 0, 1) := by decide +kernel
theorem em160_58 : decode prog_14_method_80_code 58 = .ok (.getfield 116, 3) := by decide +kernel
theorem em160_61 : decode prog_14_method_80_code 61 = .ok (.bipush 120, 2) := by decide +kernel
theorem em160_63 : decode prog_14_method_80_code 63 = .ok (.bipush 40, 2) := by decide +kernel
theorem em160_65 : decode prog_14_method_80_code 65 = .ok (.iload_n 1, 1) := by decide +kernel
theorem em160_66 : decode prog_14_method_80_code 66 = .ok (.imul, 1) := by decide +kernel
theorem em160_67 : decode prog_14_method_80_code 67 = .ok (.iadd, 1) := by decide +kernel
theorem em160_68 : decode prog_14_method_80_code 68 = .ok (.bipush 8, 2) := by decide +kernel
theorem em160_70 : decode prog_14_method_80_code 70 = .ok (.iload_n 2, 1) := by decide +kernel
theorem em160_71 : decode prog_14_method_80_code 71 = .ok (.imul, 1) := by decide +kernel
theorem em160_72 : decode prog_14_method_80_code 72 = .ok (.iadd, 1) := by decide +kernel
theorem em160_73 : decode prog_14_method_80_code 73 = .ok (.iload_n 3, 1) := by decide +kernel
theorem em160_74 : decode prog_14_method_80_code 74 = .ok (.iadd, 1) := by decide +kernel
theorem em160_75 : decode prog_14_method_80_code 75 = .ok (.dup2, 1) := by decide +kernel
theorem em160_76 : decode prog_14_method_80_code 76 = .ok (.iaload, 1) := by decide +kernel
theorem em160_77 : decode prog_14_method_80_code 77 = .ok (.iconst 1, 1) := by decide +kernel
theorem em160_78 : decode prog_14_method_80_code 78 = .ok (.iadd, 1) := by decide +kernel
theorem em160_79 : decode prog_14_method_80_code 79 = .ok (.iastore, 1) := by decide +kernel
theorem em160_80 : decode prog_14_method_80_code 80 = .ok (.aload_n 0, 1) := by decide +kernel
theorem em160_81 : decode prog_14_method_80_code 81 = .ok (.invokevirtual 424, 3) := by decide +kernel
theorem em160_84 : decode prog_14_method_80_code 84 = .ok (.iconst 1, 1) := by decide +kernel
theorem em160_85 : decode prog_14_method_80_code 85 = .ok (.ireturn, 1) := by decide +kernel
/-! CapitalCaseModel.lend:(III)Z -/
noncomputable def zTr_186 : Nat → Option aF := bn 48 (bn 27 (bn 12 (bn 3 (bn 1 (bl 0 (a_aload 0 1)) (bn 2 (bl 1 (a_iload 1 2)) (bl 2 (a_iload 2 3)))) (bn 7 (bn 4 (bl 3 (a_iload 3 4)) (bl 4 (a_invV zG0 zprot (true, false) zc_124 (zbd 124) (3, 0, 0) 12 4 7))) (bn 10 (bl 7 (a_if 1 12 10)) (bl 10 (a_const 0 11))))) (bn 18 (bn 16 (bn 13 (bl 12 (a_aload 0 13)) (bl 13 (a_invV zG0 zprot (true, false) zc_136 (zbd 136) (3, 0, 0) 12 1 16))) (bn 17 (bl 16 (a_aload 0 17)) (bl 17 (a_iload 1 18)))) (bn 22 (bn 19 (bl 18 (a_iload 3 19)) (bl 19 (a_invV zG0 zprot (true, false) zc_145 (zbd 145) (3, 0, 0) 12 3 22))) (bn 25 (bl 22 (a_if 1 27 25)) (bl 25 (a_const 0 26)))))) (bn 37 (bn 33 (bn 28 (bl 27 (a_aload 0 28)) (bn 31 (bl 28 (a_getf zG0 zT0 12 0 31)) (bl 31 (a_const 8 33)))) (bn 35 (bn 34 (bl 33 (a_iload 1 34)) (bl 34 (a_bin fmul 35))) (bn 36 (bl 35 (a_iload 3 36)) (bl 36 (a_bin fadd 37))))) (bn 41 (bn 39 (bn 38 (bl 37 (a_dup2 38)) (bl 38 (a_ald zG0 zT0 (true, false) ts0 39))) (bn 40 (bl 39 (a_const 1 40)) (bl 40 (a_bin fsub 41)))) (bn 43 (bn 42 (bl 41 (a_ast zG0 zT0 ts0 42)) (bl 42 (a_aload 0 43))) (bn 46 (bl 43 (a_getf zG0 zT0 12 0 46)) (bl 46 (a_const 8 48))))))) (bn 67 (bn 55 (bn 51 (bn 49 (bl 48 (a_iload 2 49)) (bn 50 (bl 49 (a_bin fmul 50)) (bl 50 (a_iload 3 51)))) (bn 53 (bn 52 (bl 51 (a_bin fadd 52)) (bl 52 (a_dup2 53))) (bn 54 (bl 53 (a_ald zG0 zT0 (true, false) ts0 54)) (bl 54 (a_const 1 55))))) (bn 61 (bn 57 (bn 56 (bl 55 (a_bin fadd 56)) (bl 56 (a_ast zG0 zT0 ts0 57))) (bn 58 (bl 57 (a_aload 0 58)) (bl 58 (a_getf zG0 zT0 12 0 61)))) (bn 65 (bn 63 (bl 61 (a_const 120 63)) (bl 63 (a_const 40 65))) (bn 66 (bl 65 (a_iload 1 66)) (bl 66 (a_bin fmul 67)))))) (bn 75 (bn 71 (bn 68 (bl 67 (a_bin fadd 68)) (bn 70 (bl 68 (a_const 8 70)) (bl 70 (a_iload 2 71)))) (bn 73 (bn 72 (bl 71 (a_bin fmul 72)) (bl 72 (a_bin fadd 73))) (bn 74 (bl 73 (a_iload 3 74)) (bl 74 (a_bin fadd 75))))) (bn 79 (bn 77 (bn 76 (bl 75 (a_dup2 76)) (bl 76 (a_ald zG0 zT0 (true, false) ts0 77))) (bn 78 (bl 77 (a_const 1 78)) (bl 78 (a_bin fadd 79)))) (bn 81 (bn 80 (bl 79 (a_ast zG0 zT0 ts0 80)) (bl 80 (a_aload 0 81))) (bn 84 (bl 81 (a_invV zG0 zprot (true, false) zc_208 (zbd 208) (3, 0, 0) 12 1 84)) (bl 84 (a_const 1 85)))))))
set_option maxRecDepth 100000 in
set_option maxHeartbeats 4000000 in
theorem zTo_186 {pre : zPre} {post : zPost} (H : zTieC pre post) {d : Nat × Nat × Nat} (hd : zLe (3, 0, 0) d) : aTr zG0 zT0 zInv (true, false) PZ zbd pre post d prog_14_method_80_code "CapitalCaseModel" zTr_186 := (xB_n (xB_n (xB_n (xB_n (xB_n (xB_l ⟨_, zs_aload_n em160_0, as_aload⟩) (xB_n (xB_l ⟨_, zs_iload_n em160_1, as_iload⟩) (xB_l ⟨_, zs_iload_n em160_2, as_iload⟩))) (xB_n (xB_n (xB_l ⟨_, zs_iload_n em160_3, as_iload⟩) (xB_l ⟨_, zs_invV (T := TX12) em160_4 zl_124 rfl wd_1739 wd_1741 wd_92 ((congrFun xo_12 427).trans rfl) xm_117, ag_invV H zh_124 hd (by decide)⟩)) (xB_n (xB_l ⟨_, zs_ifne em160_7 (t := 12) (by decide), as_if⟩) (xB_l ⟨_, zs_iconst (v := 0) em160_10 (by decide +kernel), as_const (by decide +kernel)⟩)))) (xB_n (xB_n (xB_n (xB_l ⟨_, zs_aload_n em160_12, as_aload⟩) (xB_l ⟨_, zs_invV (T := TX12) em160_13 zl_136 rfl wd_1635 wd_1637 wd_73 ((congrFun xo_12 411).trans rfl) xm_129, ag_invV H zh_136 hd (by decide)⟩)) (xB_n (xB_l ⟨_, zs_aload_n em160_16, as_aload⟩) (xB_l ⟨_, zs_iload_n em160_17, as_iload⟩))) (xB_n (xB_n (xB_l ⟨_, zs_iload_n em160_18, as_iload⟩) (xB_l ⟨_, zs_invV (T := TX12) em160_19 zl_145 rfl wd_1639 wd_1641 wd_74 ((congrFun xo_12 368).trans rfl) xm_138, ag_invV H zh_145 hd (by decide)⟩)) (xB_n (xB_l ⟨_, zs_ifne em160_22 (t := 27) (by decide), as_if⟩) (xB_l ⟨_, zs_iconst (v := 0) em160_25 (by decide +kernel), as_const (by decide +kernel)⟩))))) (xB_n (xB_n (xB_n (xB_l ⟨_, zs_aload_n em160_27, as_aload⟩) (xB_n (xB_l ⟨_, zs_getf (T := TX12) (M := 70) (ci := 12) (j := 0) em160_28 rfl inX12 (by decide) wd_1332 ((congrFun xo_12 116).trans rfl), as_getf zTie⟩) (xB_l ⟨_, zs_bipush (v := 8) em160_31 (by decide +kernel), as_const (by decide +kernel)⟩))) (xB_n (xB_n (xB_l ⟨_, zs_iload_n em160_33, as_iload⟩) (xB_l ⟨_, zs_imul em160_34, as_bin fmul_ok⟩)) (xB_n (xB_l ⟨_, zs_iload_n em160_35, as_iload⟩) (xB_l ⟨_, zs_iadd em160_36, as_bin fadd_ok⟩)))) (xB_n (xB_n (xB_n (xB_l ⟨_, zs_dup2 em160_37, as_dup2⟩) (xB_l ⟨_, zs_iald em160_38, ag_iald⟩)) (xB_n (xB_l ⟨_, zs_iconst (v := 1) em160_39 (by decide +kernel), as_const (by decide +kernel)⟩) (xB_l ⟨_, zs_isub em160_40, as_bin fsub_ok⟩))) (xB_n (xB_n (xB_l ⟨_, zs_iast zInj0 em160_41, as_iast zTie⟩) (xB_l ⟨_, zs_aload_n em160_42, as_aload⟩)) (xB_n (xB_l ⟨_, zs_getf (T := TX12) (M := 70) (ci := 12) (j := 0) em160_43 rfl inX12 (by decide) wd_1332 ((congrFun xo_12 116).trans rfl), as_getf zTie⟩) (xB_l ⟨_, zs_bipush (v := 8) em160_46 (by decide +kernel), as_const (by decide +kernel)⟩)))))) (xB_n (xB_n (xB_n (xB_n (xB_l ⟨_, zs_iload_n em160_48, as_iload⟩) (xB_n (xB_l ⟨_, zs_imul em160_49, as_bin fmul_ok⟩) (xB_l ⟨_, zs_iload_n em160_50, as_iload⟩))) (xB_n (xB_n (xB_l ⟨_, zs_iadd em160_51, as_bin fadd_ok⟩) (xB_l ⟨_, zs_dup2 em160_52, as_dup2⟩)) (xB_n (xB_l ⟨_, zs_iald em160_53, ag_iald⟩) (xB_l ⟨_, zs_iconst (v := 1) em160_54 (by decide +kernel), as_const (by decide +kernel)⟩)))) (xB_n (xB_n (xB_n (xB_l ⟨_, zs_iadd em160_55, as_bin fadd_ok⟩) (xB_l ⟨_, zs_iast zInj0 em160_56, as_iast zTie⟩)) (xB_n (xB_l ⟨_, zs_aload_n em160_57, as_aload⟩) (xB_l ⟨_, zs_getf (T := TX12) (M := 70) (ci := 12) (j := 0) em160_58 rfl inX12 (by decide) wd_1332 ((congrFun xo_12 116).trans rfl), as_getf zTie⟩))) (xB_n (xB_n (xB_l ⟨_, zs_bipush (v := 120) em160_61 (by decide +kernel), as_const (by decide +kernel)⟩) (xB_l ⟨_, zs_bipush (v := 40) em160_63 (by decide +kernel), as_const (by decide +kernel)⟩)) (xB_n (xB_l ⟨_, zs_iload_n em160_65, as_iload⟩) (xB_l ⟨_, zs_imul em160_66, as_bin fmul_ok⟩))))) (xB_n (xB_n (xB_n (xB_l ⟨_, zs_iadd em160_67, as_bin fadd_ok⟩) (xB_n (xB_l ⟨_, zs_bipush (v := 8) em160_68 (by decide +kernel), as_const (by decide +kernel)⟩) (xB_l ⟨_, zs_iload_n em160_70, as_iload⟩))) (xB_n (xB_n (xB_l ⟨_, zs_imul em160_71, as_bin fmul_ok⟩) (xB_l ⟨_, zs_iadd em160_72, as_bin fadd_ok⟩)) (xB_n (xB_l ⟨_, zs_iload_n em160_73, as_iload⟩) (xB_l ⟨_, zs_iadd em160_74, as_bin fadd_ok⟩)))) (xB_n (xB_n (xB_n (xB_l ⟨_, zs_dup2 em160_75, as_dup2⟩) (xB_l ⟨_, zs_iald em160_76, ag_iald⟩)) (xB_n (xB_l ⟨_, zs_iconst (v := 1) em160_77 (by decide +kernel), as_const (by decide +kernel)⟩) (xB_l ⟨_, zs_iadd em160_78, as_bin fadd_ok⟩))) (xB_n (xB_n (xB_l ⟨_, zs_iast zInj0 em160_79, as_iast zTie⟩) (xB_l ⟨_, zs_aload_n em160_80, as_aload⟩)) (xB_n (xB_l ⟨_, zs_invV (T := TX12) em160_81 zl_208 rfl wd_1727 wd_1729 wd_91 ((congrFun xo_12 424).trans rfl) xm_181, ag_invV H zh_208 hd (by decide)⟩) (xB_l ⟨_, zs_iconst (v := 1) em160_84 (by decide +kernel), as_const (by decide +kernel)⟩)))))))
set_option maxRecDepth 100000 in
set_option maxHeartbeats 4000000 in
theorem zM_186 : zOKa 186 zc_186 := z_auto (cuts := []) (rets := [(11, 2), (26, 2), (85, 2)]) (fuel := 1000) rfl rfl (by decide) (xrt_ok (xR_c (Or.inr (Or.inl ⟨rfl, em160_11, rfl⟩)) (xR_c (Or.inr (Or.inl ⟨rfl, em160_26, rfl⟩)) (xR_c (Or.inr (Or.inl ⟨rfl, em160_85, rfl⟩)) (xR_n))))) (fun _ _ H _ hd => zTo_186 H hd) (by decide +kernel)
theorem em161_0 : decode prog_14_method_52_code 0 = .ok (.iconst 0, 1) := by decide +kernel
theorem em161_1 : decode prog_14_method_52_code 1 = .ok (.istore_n 3, 1) := by decide +kernel
theorem em161_2 : decode prog_14_method_52_code 2 = .ok (.iconst 0, 1) := by decide +kernel
theorem em161_3 : decode prog_14_method_52_code 3 = .ok (.istore 4, 2) := by decide +kernel
theorem em161_5 : decode prog_14_method_52_code 5 = .ok (.iload 4, 2) := by decide +kernel
theorem em161_7 : decode prog_14_method_52_code 7 = .ok (.iconst 5, 1) := by decide +kernel
theorem em161_8 : decode prog_14_method_52_code 8 = .ok (.if_icmp .ge 32, 3) := by decide +kernel
theorem em161_11 : decode prog_14_method_52_code 11 = .ok (.iload_n 3, 1) := by decide +kernel
theorem em161_12 : decode prog_14_method_52_code 12 = .ok (.aload_n 0, 1) := by decide +kernel
theorem em161_13 : decode prog_14_method_52_code 13 = .ok (.getfield 116, 3) := by decide +kernel
theorem em161_16 : decode prog_14_method_52_code 16 = .ok (.bipush 120, 2) := by decide +kernel
theorem em161_18 : decode prog_14_method_52_code 18 = .ok (.bipush 40, 2) := by decide +kernel
theorem em161_20 : decode prog_14_method_52_code 20 = .ok (.iload_n 1, 1) := by decide +kernel
theorem em161_21 : decode prog_14_method_52_code 21 = .ok (.imul, 1) := by decide +kernel
theorem em161_22 : decode prog_14_method_52_code 22 = .ok (.iadd, 1) := by decide +kernel
theorem em161_23 : decode prog_14_method_52_code 23 = .ok (.bipush 8, 2) := by decide +kernel
theorem em161_25 : decode prog_14_method_52_code 25 = .ok (.iload 4, 2) := by decide +kernel
theorem em161_27 : decode prog_14_method_52_code 27 = .ok (.imul, 1) := by decide +kernel
theorem em161_28 : decode prog_14_method_52_code 28 = .ok (.iadd, 1) := by decide +kernel
theorem em161_29 : decode prog_14_method_52_code 29 = .ok (.iload_n 2, 1) := by decide +kernel
theorem em161_30 : decode prog_14_method_52_code 30 = .ok (.iadd, 1) := by decide +kernel
theorem em161_31 : decode prog_14_method_52_code 31 = .ok (.iaload, 1) := by decide +kernel
theorem em161_32 : decode prog_14_method_52_code 32 = .ok (.iadd, 1) := by decide +kernel
theorem em161_33 : decode prog_14_method_52_code 33 = .ok (.istore_n 3, 1) := by decide +kernel
theorem em161_34 : decode prog_14_method_52_code 34 = .ok (.iinc 4 1, 3) := by decide +kernel
theorem em161_37 : decode prog_14_method_52_code 37 = .ok (.goto (-32), 3) := by decide +kernel
theorem em161_40 : decode prog_14_method_52_code 40 = .ok (.iload_n 3, 1) := by decide +kernel
theorem em161_41 : decode prog_14_method_52_code 41 = .ok (.ireturn, 1) := by decide +kernel
/-! CapitalCaseModel.lentOut:(II)I -/
noncomputable def zTr_187 : Nat → Option aF := bn 21 (bn 8 (bn 3 (bn 1 (bl 0 (a_const 0 1)) (bn 2 (bl 1 (a_istore 3 2)) (bl 2 (a_const 0 3)))) (bn 5 (bl 3 (a_istore 4 5)) (bn 7 (bl 5 (a_iload 4 7)) (bl 7 (a_const 5 8))))) (bn 13 (bn 11 (bl 8 (a_icmp 3 40 11)) (bn 12 (bl 11 (a_iload 3 12)) (bl 12 (a_aload 0 13)))) (bn 18 (bn 16 (bl 13 (a_getf zG0 zT0 12 0 16)) (bl 16 (a_const 120 18))) (bn 20 (bl 18 (a_const 40 20)) (bl 20 (a_iload 1 21)))))) (bn 30 (bn 25 (bn 22 (bl 21 (a_bin fmul 22)) (bn 23 (bl 22 (a_bin fadd 23)) (bl 23 (a_const 8 25)))) (bn 28 (bn 27 (bl 25 (a_iload 4 27)) (bl 27 (a_bin fmul 28))) (bn 29 (bl 28 (a_bin fadd 29)) (bl 29 (a_iload 2 30))))) (bn 33 (bn 31 (bl 30 (a_bin fadd 31)) (bn 32 (bl 31 (a_ald zG0 zT0 (false, false) ts0 32)) (bl 32 (a_bin fadd 33)))) (bn 37 (bn 34 (bl 33 (a_istore 3 34)) (bl 34 (a_iinc 4 1 37))) (bn 40 (bl 37 (a_goto 5)) (bl 40 (a_iload 3 41))))))
set_option maxRecDepth 100000 in
set_option maxHeartbeats 4000000 in
theorem zTo_187 {pre : zPre} {post : zPost} (H : zTieC pre post) {d : Nat × Nat × Nat} (hd : zLe (0, 0, 0) d) : aTr zG0 zT0 zInv (false, false) PZ zbd pre post d prog_14_method_52_code "CapitalCaseModel" zTr_187 := (xB_n (xB_n (xB_n (xB_n (xB_l ⟨_, zs_iconst (v := 0) em161_0 (by decide +kernel), as_const (by decide +kernel)⟩) (xB_n (xB_l ⟨_, zs_istore_n em161_1, as_istore⟩) (xB_l ⟨_, zs_iconst (v := 0) em161_2 (by decide +kernel), as_const (by decide +kernel)⟩))) (xB_n (xB_l ⟨_, zs_istore em161_3, as_istore⟩) (xB_n (xB_l ⟨_, zs_iload em161_5, as_iload⟩) (xB_l ⟨_, zs_iconst (v := 5) em161_7 (by decide +kernel), as_const (by decide +kernel)⟩)))) (xB_n (xB_n (xB_l ⟨_, zs_icmpge em161_8 (t := 40) (by decide), as_icmp⟩) (xB_n (xB_l ⟨_, zs_iload_n em161_11, as_iload⟩) (xB_l ⟨_, zs_aload_n em161_12, as_aload⟩))) (xB_n (xB_n (xB_l ⟨_, zs_getf (T := TX12) (M := 70) (ci := 12) (j := 0) em161_13 rfl inX12 (by decide) wd_1332 ((congrFun xo_12 116).trans rfl), as_getf zTie⟩) (xB_l ⟨_, zs_bipush (v := 120) em161_16 (by decide +kernel), as_const (by decide +kernel)⟩)) (xB_n (xB_l ⟨_, zs_bipush (v := 40) em161_18 (by decide +kernel), as_const (by decide +kernel)⟩) (xB_l ⟨_, zs_iload_n em161_20, as_iload⟩))))) (xB_n (xB_n (xB_n (xB_l ⟨_, zs_imul em161_21, as_bin fmul_ok⟩) (xB_n (xB_l ⟨_, zs_iadd em161_22, as_bin fadd_ok⟩) (xB_l ⟨_, zs_bipush (v := 8) em161_23 (by decide +kernel), as_const (by decide +kernel)⟩))) (xB_n (xB_n (xB_l ⟨_, zs_iload em161_25, as_iload⟩) (xB_l ⟨_, zs_imul em161_27, as_bin fmul_ok⟩)) (xB_n (xB_l ⟨_, zs_iadd em161_28, as_bin fadd_ok⟩) (xB_l ⟨_, zs_iload_n em161_29, as_iload⟩)))) (xB_n (xB_n (xB_l ⟨_, zs_iadd em161_30, as_bin fadd_ok⟩) (xB_n (xB_l ⟨_, zs_iald em161_31, ag_iald⟩) (xB_l ⟨_, zs_iadd em161_32, as_bin fadd_ok⟩))) (xB_n (xB_n (xB_l ⟨_, zs_istore_n em161_33, as_istore⟩) (xB_l ⟨_, zs_iinc (k := 1) em161_34 (by decide +kernel), as_iinc (by decide +kernel)⟩)) (xB_n (xB_l ⟨_, zs_goto em161_37 (t := 5) (by decide), as_goto⟩) (xB_l ⟨_, zs_iload_n em161_40, as_iload⟩))))))
set_option maxRecDepth 100000 in
set_option maxHeartbeats 4000000 in
theorem zM_187 : zOKa 187 zc_187 := z_auto (cuts := [(5, ([(0, 0), (0, 4), (0, 7), ((-2147483648), 2147483647), (0, 5)], [], [some (.inr (.inl (0, 75))), some (.inl (1, 0)), some (.inl (2, 0)), some (.inl (3, 0)), some (.inl (4, 0))], [], [], (0, 0)), [(0, 3), (0, 4)], 5, [0, 0, 0, 0, (-1)])]) (rets := [(41, 1)]) (fuel := 1000) rfl rfl (by decide) (xrt_ok (xR_c (Or.inl ⟨rfl, em161_41, rfl⟩) (xR_n))) (fun _ _ H _ hd => zTo_187 H hd) (by decide +kernel)
theorem em162_0 : decode prog_14_method_53_code 0 = .ok (.iconst 0, 1) := by decide +kernel
theorem em162_1 : decode prog_14_method_53_code 1 = .ok (.istore_n 3, 1) := by decide +kernel
theorem em162_2 : decode prog_14_method_53_code 2 = .ok (.iconst 0, 1) := by decide +kernel
theorem em162_3 : decode prog_14_method_53_code 3 = .ok (.istore 4, 2) := by decide +kernel
theorem em162_5 : decode prog_14_method_53_code 5 = .ok (.iload 4, 2) := by decide +kernel
theorem em162_7 : decode prog_14_method_53_code 7 = .ok (.iconst 5, 1) := by decide +kernel
theorem em162_8 : decode prog_14_method_53_code 8 = .ok (.if_icmp .ge 32, 3) := by decide +kernel
theorem em162_11 : decode prog_14_method_53_code 11 = .ok (.iload_n 3, 1) := by decide +kernel
theorem em162_12 : decode prog_14_method_53_code 12 = .ok (.aload_n 0, 1) := by decide +kernel
theorem em162_13 : decode prog_14_method_53_code 13 = .ok (.getfield 116, 3) := by decide +kernel
theorem em162_16 : decode prog_14_method_53_code 16 = .ok (.bipush 120, 2) := by decide +kernel
theorem em162_18 : decode prog_14_method_53_code 18 = .ok (.bipush 40, 2) := by decide +kernel
theorem em162_20 : decode prog_14_method_53_code 20 = .ok (.iload 4, 2) := by decide +kernel
theorem em162_22 : decode prog_14_method_53_code 22 = .ok (.imul, 1) := by decide +kernel
theorem em162_23 : decode prog_14_method_53_code 23 = .ok (.iadd, 1) := by decide +kernel
theorem em162_24 : decode prog_14_method_53_code 24 = .ok (.bipush 8, 2) := by decide +kernel
theorem em162_26 : decode prog_14_method_53_code 26 = .ok (.iload_n 1, 1) := by decide +kernel
theorem em162_27 : decode prog_14_method_53_code 27 = .ok (.imul, 1) := by decide +kernel
theorem em162_28 : decode prog_14_method_53_code 28 = .ok (.iadd, 1) := by decide +kernel
theorem em162_29 : decode prog_14_method_53_code 29 = .ok (.iload_n 2, 1) := by decide +kernel
theorem em162_30 : decode prog_14_method_53_code 30 = .ok (.iadd, 1) := by decide +kernel
theorem em162_31 : decode prog_14_method_53_code 31 = .ok (.iaload, 1) := by decide +kernel
theorem em162_32 : decode prog_14_method_53_code 32 = .ok (.iadd, 1) := by decide +kernel
theorem em162_33 : decode prog_14_method_53_code 33 = .ok (.istore_n 3, 1) := by decide +kernel
theorem em162_34 : decode prog_14_method_53_code 34 = .ok (.iinc 4 1, 3) := by decide +kernel
theorem em162_37 : decode prog_14_method_53_code 37 = .ok (.goto (-32), 3) := by decide +kernel
theorem em162_40 : decode prog_14_method_53_code 40 = .ok (.iload_n 3, 1) := by decide +kernel
theorem em162_41 : decode prog_14_method_53_code 41 = .ok (.ireturn, 1) := by decide +kernel
/-! CapitalCaseModel.lentTo:(II)I -/
noncomputable def zTr_188 : Nat → Option aF := bn 22 (bn 8 (bn 3 (bn 1 (bl 0 (a_const 0 1)) (bn 2 (bl 1 (a_istore 3 2)) (bl 2 (a_const 0 3)))) (bn 5 (bl 3 (a_istore 4 5)) (bn 7 (bl 5 (a_iload 4 7)) (bl 7 (a_const 5 8))))) (bn 13 (bn 11 (bl 8 (a_icmp 3 40 11)) (bn 12 (bl 11 (a_iload 3 12)) (bl 12 (a_aload 0 13)))) (bn 18 (bn 16 (bl 13 (a_getf zG0 zT0 12 0 16)) (bl 16 (a_const 120 18))) (bn 20 (bl 18 (a_const 40 20)) (bl 20 (a_iload 4 22)))))) (bn 30 (bn 26 (bn 23 (bl 22 (a_bin fmul 23)) (bn 24 (bl 23 (a_bin fadd 24)) (bl 24 (a_const 8 26)))) (bn 28 (bn 27 (bl 26 (a_iload 1 27)) (bl 27 (a_bin fmul 28))) (bn 29 (bl 28 (a_bin fadd 29)) (bl 29 (a_iload 2 30))))) (bn 33 (bn 31 (bl 30 (a_bin fadd 31)) (bn 32 (bl 31 (a_ald zG0 zT0 (false, false) ts0 32)) (bl 32 (a_bin fadd 33)))) (bn 37 (bn 34 (bl 33 (a_istore 3 34)) (bl 34 (a_iinc 4 1 37))) (bn 40 (bl 37 (a_goto 5)) (bl 40 (a_iload 3 41))))))
set_option maxRecDepth 100000 in
set_option maxHeartbeats 4000000 in
theorem zTo_188 {pre : zPre} {post : zPost} (H : zTieC pre post) {d : Nat × Nat × Nat} (hd : zLe (0, 0, 0) d) : aTr zG0 zT0 zInv (false, false) PZ zbd pre post d prog_14_method_53_code "CapitalCaseModel" zTr_188 := (xB_n (xB_n (xB_n (xB_n (xB_l ⟨_, zs_iconst (v := 0) em162_0 (by decide +kernel), as_const (by decide +kernel)⟩) (xB_n (xB_l ⟨_, zs_istore_n em162_1, as_istore⟩) (xB_l ⟨_, zs_iconst (v := 0) em162_2 (by decide +kernel), as_const (by decide +kernel)⟩))) (xB_n (xB_l ⟨_, zs_istore em162_3, as_istore⟩) (xB_n (xB_l ⟨_, zs_iload em162_5, as_iload⟩) (xB_l ⟨_, zs_iconst (v := 5) em162_7 (by decide +kernel), as_const (by decide +kernel)⟩)))) (xB_n (xB_n (xB_l ⟨_, zs_icmpge em162_8 (t := 40) (by decide), as_icmp⟩) (xB_n (xB_l ⟨_, zs_iload_n em162_11, as_iload⟩) (xB_l ⟨_, zs_aload_n em162_12, as_aload⟩))) (xB_n (xB_n (xB_l ⟨_, zs_getf (T := TX12) (M := 70) (ci := 12) (j := 0) em162_13 rfl inX12 (by decide) wd_1332 ((congrFun xo_12 116).trans rfl), as_getf zTie⟩) (xB_l ⟨_, zs_bipush (v := 120) em162_16 (by decide +kernel), as_const (by decide +kernel)⟩)) (xB_n (xB_l ⟨_, zs_bipush (v := 40) em162_18 (by decide +kernel), as_const (by decide +kernel)⟩) (xB_l ⟨_, zs_iload em162_20, as_iload⟩))))) (xB_n (xB_n (xB_n (xB_l ⟨_, zs_imul em162_22, as_bin fmul_ok⟩) (xB_n (xB_l ⟨_, zs_iadd em162_23, as_bin fadd_ok⟩) (xB_l ⟨_, zs_bipush (v := 8) em162_24 (by decide +kernel), as_const (by decide +kernel)⟩))) (xB_n (xB_n (xB_l ⟨_, zs_iload_n em162_26, as_iload⟩) (xB_l ⟨_, zs_imul em162_27, as_bin fmul_ok⟩)) (xB_n (xB_l ⟨_, zs_iadd em162_28, as_bin fadd_ok⟩) (xB_l ⟨_, zs_iload_n em162_29, as_iload⟩)))) (xB_n (xB_n (xB_l ⟨_, zs_iadd em162_30, as_bin fadd_ok⟩) (xB_n (xB_l ⟨_, zs_iald em162_31, ag_iald⟩) (xB_l ⟨_, zs_iadd em162_32, as_bin fadd_ok⟩))) (xB_n (xB_n (xB_l ⟨_, zs_istore_n em162_33, as_istore⟩) (xB_l ⟨_, zs_iinc (k := 1) em162_34 (by decide +kernel), as_iinc (by decide +kernel)⟩)) (xB_n (xB_l ⟨_, zs_goto em162_37 (t := 5) (by decide), as_goto⟩) (xB_l ⟨_, zs_iload_n em162_40, as_iload⟩))))))
set_option maxRecDepth 100000 in
set_option maxHeartbeats 4000000 in
theorem zM_188 : zOKa 188 zc_188 := z_auto (cuts := [(5, ([(0, 0), (0, 4), (0, 7), ((-2147483648), 2147483647), (0, 5)], [], [some (.inr (.inl (0, 75))), some (.inl (1, 0)), some (.inl (2, 0)), some (.inl (3, 0)), some (.inl (4, 0))], [], [], (0, 0)), [(0, 3), (0, 4)], 5, [0, 0, 0, 0, (-1)])]) (rets := [(41, 1)]) (fuel := 1000) rfl rfl (by decide) (xrt_ok (xR_c (Or.inl ⟨rfl, em162_41, rfl⟩) (xR_n))) (fun _ _ H _ hd => zTo_188 H hd) (by decide +kernel)
theorem em163_0 : decode prog_14_method_94_code 0 = .ok (.aload_n 0, 1) := by decide +kernel
theorem em163_1 : decode prog_14_method_94_code 1 = .ok (.iload_n 1, 1) := by decide +kernel
theorem em163_2 : decode prog_14_method_94_code 2 = .ok (.invokevirtual 405, 3) := by decide +kernel
theorem em163_5 : decode prog_14_method_94_code 5 = .ok (.ifCond .eq 11, 3) := by decide +kernel
theorem em163_8 : decode prog_14_method_94_code 8 = .ok (.aload_n 0, 1) := by decide +kernel
theorem em163_9 : decode prog_14_method_94_code 9 = .ok (.iload_n 2, 1) := by decide +kernel
theorem em163_10 : decode prog_14_method_94_code 10 = .ok (.invokevirtual 417, 3) := by decide +kernel
theorem em163_13 : decode prog_14_method_94_code 13 = .ok (.ifCond .ne 5, 3) := by decide +kernel
theorem em163_16 : decode prog_14_method_94_code 16 = .ok (.iconst (-1), 1) := by decide +kernel
theorem em163_17 : decode prog_14_method_94_code 17 = .ok (.ireturn, 1) := by decide +kernel
theorem em163_18 : decode prog_14_method_94_code 18 = .ok (.aload_n 0, 1) := by decide +kernel
theorem em163_19 : decode prog_14_method_94_code 19 = .ok (.invokevirtual 411, 3) := by decide +kernel
theorem em163_22 : decode prog_14_method_94_code 22 = .ok (.iconst 0, 1) := by decide +kernel
theorem em163_23 : decode prog_14_method_94_code 23 = .ok (.istore_n 3, 1) := by decide +kernel
theorem em163_24 : decode prog_14_method_94_code 24 = .ok (.iconst 0, 1) := by decide +kernel
theorem em163_25 : decode prog_14_method_94_code 25 = .ok (.istore 4, 2) := by decide +kernel
theorem em163_27 : decode prog_14_method_94_code 27 = .ok (.iload 4, 2) := by decide +kernel
theorem em163_29 : decode prog_14_method_94_code 29 = .ok (.bipush 8, 2) := by decide +kernel
theorem em163_31 : decode prog_14_method_94_code 31 = .ok (.if_icmp .ge 94, 3) := by decide +kernel
theorem em163_34 : decode prog_14_method_94_code 34 = .ok (.aload_n 0, 1) := by decide +kernel
theorem em163_35 : decode prog_14_method_94_code 35 = .ok (.iload_n 2, 1) := by decide +kernel
theorem em163_36 : decode prog_14_method_94_code 36 = .ok (.iload 4, 2) := by decide +kernel
theorem em163_38 : decode prog_14_method_94_code 38 = .ok (.invokevirtual 457, 3) := by decide +kernel
theorem em163_41 : decode prog_14_method_94_code 41 = .ok (.aload_n 0, 1) := by decide +kernel
theorem em163_42 : decode prog_14_method_94_code 42 = .ok (.iload_n 1, 1) := by decide +kernel
theorem em163_43 : decode prog_14_method_94_code 43 = .ok (.iload 4, 2) := by decide +kernel
theorem em163_45 : decode prog_14_method_94_code 45 = .ok (.invokevirtual 368, 3) := by decide +kernel
theorem em163_48 : decode prog_14_method_94_code 48 = .ok (.isub, 1) := by decide +kernel
theorem em163_49 : decode prog_14_method_94_code 49 = .ok (.istore 5, 2) := by decide +kernel
theorem em163_51 : decode prog_14_method_94_code 51 = .ok (.iload 5, 2) := by decide +kernel
theorem em163_53 : decode prog_14_method_94_code 53 = .ok (.ifCond .gt 6, 3) := by decide +kernel
theorem em163_56 : decode prog_14_method_94_code 56 = .ok (.goto 63, 3) := by decide +kernel
theorem em163_59 : decode prog_14_method_94_code 59 = .ok (.iconst 0, 1) := by decide +kernel
theorem em163_60 : decode prog_14_method_94_code 60 = .ok (.istore 6, 2) := by decide +kernel
theorem em163_62 : decode prog_14_method_94_code 62 = .ok (.iconst 0, 1) := by decide +kernel
theorem em163_63 : decode prog_14_method_94_code 63 = .ok (.istore 7, 2) := by decide +kernel
theorem em163_65 : decode prog_14_method_94_code 65 = .ok (.iload 7, 2) := by decide +kernel
theorem em163_67 : decode prog_14_method_94_code 67 = .ok (.aload_n 0, 1) := by decide +kernel
theorem em163_68 : decode prog_14_method_94_code 68 = .ok (.getfield 43, 3) := by decide +kernel
theorem em163_71 : decode prog_14_method_94_code 71 = .ok (.aload_n 0, 1) := by decide +kernel
theorem em163_72 : decode prog_14_method_94_code 72 = .ok (.getfield 230, 3) := by decide +kernel
theorem em163_75 : decode prog_14_method_94_code 75 = .ok (.iaload, 1) := by decide +kernel
theorem em163_76 : decode prog_14_method_94_code 76 = .ok (.if_icmp .ge 28, 3) := by decide +kernel
theorem em163_79 : decode prog_14_method_94_code 79 = .ok (.iload 7, 2) := by decide +kernel
theorem em163_81 : decode prog_14_method_94_code 81 = .ok (.iload_n 1, 1) := by decide +kernel
theorem em163_82 : decode prog_14_method_94_code 82 = .ok (.if_icmp .eq 16, 3) := by decide +kernel
theorem em163_85 : decode prog_14_method_94_code 85 = .ok (.iload 6, 2) := by decide +kernel
theorem em163_87 : decode prog_14_method_94_code 87 = .ok (.aload_n 0, 1) := by decide +kernel
theorem em163_88 : decode prog_14_method_94_code 88 = .ok (.iload 7, 2) := by decide +kernel
theorem em163_90 : decode prog_14_method_94_code 90 = .ok (.iload 4, 2) := by decide +kernel
theorem em163_92 : decode prog_14_method_94_code 92 = .ok (.invokevirtual 368, 3) := by decide +kernel
theorem em163_95 : decode prog_14_method_94_code 95 = .ok (.iadd, 1) := by decide +kernel
theorem em163_96 : decode prog_14_method_94_code 96 = .ok (.istore 6, 2) := by decide +kernel
theorem em163_98 : decode prog_14_method_94_code 98 = .ok (.iinc 7 1, 3) := by decide +kernel
theorem em163_101 : decode prog_14_method_94_code 101 = .ok (.goto (-36), 3) := by decide +kernel
theorem em163_104 : decode prog_14_method_94_code 104 = .ok (.iload 6, 2) := by decide +kernel
theorem em163_106 : decode prog_14_method_94_code 106 = .ok (.iload 5, 2) := by decide +kernel
theorem em163_108 : decode prog_14_method_94_code 108 = .ok (.if_icmp .ge 6, 3) := by decide +kernel
theorem em163_111 : decode prog_14_method_94_code 111 = .ok (.bipush (-2), 2) := by decide +kernel
theorem em163_113 : decode prog_14_method_94_code 113 = .ok (.ireturn, 1) := by decide +kernel
theorem em163_114 : decode prog_14_method_94_code 114 = .ok (.iload_n 3, 1) := by decide +kernel
theorem em163_115 : decode prog_14_method_94_code 115 = .ok (.iload 5, 2) := by decide +kernel
theorem em163_117 : decode prog_14_method_94_code 117 = .ok (.iadd, 1) := by decide +kernel
theorem em163_118 : decode prog_14_method_94_code 118 = .ok (.istore_n 3, 1) := by decide +kernel
theorem em163_119 : decode prog_14_method_94_code 119 = .ok (.iinc 4 1, 3) := by decide +kernel
theorem em163_122 : decode prog_14_method_94_code 122 = .ok (.goto (-95), 3) := by decide +kernel
theorem em163_125 : decode prog_14_method_94_code 125 = .ok (.iload_n 3, 1) := by decide +kernel
theorem em163_126 : decode prog_14_method_94_code 126 = .ok (.ireturn, 1) := by decide +kernel
/-! CapitalCaseModel.loans:(II)I -/
noncomputable def zTr_189 : Nat → Option aF := bn 60 (bn 29 (bn 16 (bn 8 (bn 2 (bn 1 (bl 0 (a_aload 0 1)) (bl 1 (a_iload 1 2))) (bn 5 (bl 2 (a_invV zG0 zprot (true, false) zc_177 (zbd 177) (2, 0, 0) 12 2 5)) (bl 5 (a_if 0 16 8)))) (bn 10 (bn 9 (bl 8 (a_aload 0 9)) (bl 9 (a_iload 2 10))) (bn 13 (bl 10 (a_invV zG0 zprot (true, false) zc_181 (zbd 181) (2, 0, 0) 12 2 13)) (bl 13 (a_if 1 18 16))))) (bn 23 (bn 19 (bn 18 (bl 16 (a_const (-1) 17)) (bl 18 (a_aload 0 19))) (bn 22 (bl 19 (a_invV zG0 zprot (true, false) zc_136 (zbd 136) (2, 0, 0) 12 1 22)) (bl 22 (a_const 0 23)))) (bn 25 (bn 24 (bl 23 (a_istore 3 24)) (bl 24 (a_const 0 25))) (bn 27 (bl 25 (a_istore 4 27)) (bl 27 (a_iload 4 29)))))) (bn 43 (bn 36 (bn 34 (bn 31 (bl 29 (a_const 8 31)) (bl 31 (a_icmp 3 125 34))) (bn 35 (bl 34 (a_aload 0 35)) (bl 35 (a_iload 2 36)))) (bn 41 (bn 38 (bl 36 (a_iload 4 38)) (bl 38 (a_invV zG0 zprot (true, false) zc_198 (zbd 198) (2, 0, 0) 12 3 41))) (bn 42 (bl 41 (a_aload 0 42)) (bl 42 (a_iload 1 43))))) (bn 51 (bn 48 (bn 45 (bl 43 (a_iload 4 45)) (bl 45 (a_invV zG0 zprot (true, false) zc_145 (zbd 145) (2, 0, 0) 12 3 48))) (bn 49 (bl 48 (a_bin fsub 49)) (bl 49 (a_istore 5 51)))) (bn 56 (bn 53 (bl 51 (a_iload 5 53)) (bl 53 (a_if 4 59 56))) (bn 59 (bl 56 (a_goto 119)) (bl 59 (a_const 0 60))))))) (bn 90 (bn 75 (bn 67 (bn 63 (bn 62 (bl 60 (a_istore 6 62)) (bl 62 (a_const 0 63))) (bn 65 (bl 63 (a_istore 7 65)) (bl 65 (a_iload 7 67)))) (bn 71 (bn 68 (bl 67 (a_aload 0 68)) (bl 68 (a_getf zG0 zT0 12 3 71))) (bn 72 (bl 71 (a_aload 0 72)) (bl 72 (a_getf zG0 zT0 12 2 75))))) (bn 82 (bn 79 (bn 76 (bl 75 (a_ald zG0 zT0 (true, false) ts0 76)) (bl 76 (a_icmp 3 104 79))) (bn 81 (bl 79 (a_iload 7 81)) (bl 81 (a_iload 1 82)))) (bn 87 (bn 85 (bl 82 (a_icmp 0 98 85)) (bl 85 (a_iload 6 87))) (bn 88 (bl 87 (a_aload 0 88)) (bl 88 (a_iload 7 90)))))) (bn 108 (bn 98 (bn 95 (bn 92 (bl 90 (a_iload 4 92)) (bl 92 (a_invV zG0 zprot (true, false) zc_145 (zbd 145) (2, 0, 0) 12 3 95))) (bn 96 (bl 95 (a_bin fadd 96)) (bl 96 (a_istore 6 98)))) (bn 104 (bn 101 (bl 98 (a_iinc 7 1 101)) (bl 101 (a_goto 65))) (bn 106 (bl 104 (a_iload 6 106)) (bl 106 (a_iload 5 108))))) (bn 117 (bn 114 (bn 111 (bl 108 (a_icmp 3 114 111)) (bl 111 (a_const (-2) 113))) (bn 115 (bl 114 (a_iload 3 115)) (bl 115 (a_iload 5 117)))) (bn 119 (bn 118 (bl 117 (a_bin fadd 118)) (bl 118 (a_istore 3 119))) (bn 122 (bl 119 (a_iinc 4 1 122)) (bn 125 (bl 122 (a_goto 27)) (bl 125 (a_iload 3 126))))))))
set_option maxRecDepth 100000 in
set_option maxHeartbeats 4000000 in
theorem zTo_189 {pre : zPre} {post : zPost} (H : zTieC pre post) {d : Nat × Nat × Nat} (hd : zLe (2, 0, 0) d) : aTr zG0 zT0 zInv (true, false) PZ zbd pre post d prog_14_method_94_code "CapitalCaseModel" zTr_189 := (xB_n (xB_n (xB_n (xB_n (xB_n (xB_n (xB_l ⟨_, zs_aload_n em163_0, as_aload⟩) (xB_l ⟨_, zs_iload_n em163_1, as_iload⟩)) (xB_n (xB_l ⟨_, zs_invV (T := TX12) em163_2 zl_177 rfl wd_1625 wd_1627 wd_72 ((congrFun xo_12 405).trans rfl) xm_151, ag_invV H zh_177 hd (by decide)⟩) (xB_l ⟨_, zs_ifeq em163_5 (t := 16) (by decide), as_if⟩))) (xB_n (xB_n (xB_l ⟨_, zs_aload_n em163_8, as_aload⟩) (xB_l ⟨_, zs_iload_n em163_9, as_iload⟩)) (xB_n (xB_l ⟨_, zs_invV (T := TX12) em163_10 zl_181 rfl wd_1678 wd_1680 wd_82 ((congrFun xo_12 417).trans rfl) xm_155, ag_invV H zh_181 hd (by decide)⟩) (xB_l ⟨_, zs_ifne em163_13 (t := 18) (by decide), as_if⟩)))) (xB_n (xB_n (xB_n (xB_l ⟨_, zs_iconst (v := (-1)) em163_16 (by decide +kernel), as_const (by decide +kernel)⟩) (xB_l ⟨_, zs_aload_n em163_18, as_aload⟩)) (xB_n (xB_l ⟨_, zs_invV (T := TX12) em163_19 zl_136 rfl wd_1635 wd_1637 wd_73 ((congrFun xo_12 411).trans rfl) xm_129, ag_invV H zh_136 hd (by decide)⟩) (xB_l ⟨_, zs_iconst (v := 0) em163_22 (by decide +kernel), as_const (by decide +kernel)⟩))) (xB_n (xB_n (xB_l ⟨_, zs_istore_n em163_23, as_istore⟩) (xB_l ⟨_, zs_iconst (v := 0) em163_24 (by decide +kernel), as_const (by decide +kernel)⟩)) (xB_n (xB_l ⟨_, zs_istore em163_25, as_istore⟩) (xB_l ⟨_, zs_iload em163_27, as_iload⟩))))) (xB_n (xB_n (xB_n (xB_n (xB_l ⟨_, zs_bipush (v := 8) em163_29 (by decide +kernel), as_const (by decide +kernel)⟩) (xB_l ⟨_, zs_icmpge em163_31 (t := 125) (by decide), as_icmp⟩)) (xB_n (xB_l ⟨_, zs_aload_n em163_34, as_aload⟩) (xB_l ⟨_, zs_iload_n em163_35, as_iload⟩))) (xB_n (xB_n (xB_l ⟨_, zs_iload em163_36, as_iload⟩) (xB_l ⟨_, zs_invV (T := TX12) em163_38 zl_198 rfl wd_1830 wd_1832 wd_104 ((congrFun xo_12 457).trans rfl) xm_171, ag_invV H zh_198 hd (by decide)⟩)) (xB_n (xB_l ⟨_, zs_aload_n em163_41, as_aload⟩) (xB_l ⟨_, zs_iload_n em163_42, as_iload⟩)))) (xB_n (xB_n (xB_n (xB_l ⟨_, zs_iload em163_43, as_iload⟩) (xB_l ⟨_, zs_invV (T := TX12) em163_45 zl_145 rfl wd_1639 wd_1641 wd_74 ((congrFun xo_12 368).trans rfl) xm_138, ag_invV H zh_145 hd (by decide)⟩)) (xB_n (xB_l ⟨_, zs_isub em163_48, as_bin fsub_ok⟩) (xB_l ⟨_, zs_istore em163_49, as_istore⟩))) (xB_n (xB_n (xB_l ⟨_, zs_iload em163_51, as_iload⟩) (xB_l ⟨_, zs_ifgt em163_53 (t := 59) (by decide), as_if⟩)) (xB_n (xB_l ⟨_, zs_goto em163_56 (t := 119) (by decide), as_goto⟩) (xB_l ⟨_, zs_iconst (v := 0) em163_59 (by decide +kernel), as_const (by decide +kernel)⟩)))))) (xB_n (xB_n (xB_n (xB_n (xB_n (xB_l ⟨_, zs_istore em163_60, as_istore⟩) (xB_l ⟨_, zs_iconst (v := 0) em163_62 (by decide +kernel), as_const (by decide +kernel)⟩)) (xB_n (xB_l ⟨_, zs_istore em163_63, as_istore⟩) (xB_l ⟨_, zs_iload em163_65, as_iload⟩))) (xB_n (xB_n (xB_l ⟨_, zs_aload_n em163_67, as_aload⟩) (xB_l ⟨_, zs_getf (T := TX12) (M := 70) (ci := 12) (j := 3) em163_68 rfl inX12 (by decide) wd_1303 ((congrFun xo_12 43).trans rfl), as_getf zTie⟩)) (xB_n (xB_l ⟨_, zs_aload_n em163_71, as_aload⟩) (xB_l ⟨_, zs_getf (T := TX12) (M := 70) (ci := 12) (j := 2) em163_72 rfl inX12 (by decide) wd_1299 ((congrFun xo_12 230).trans rfl), as_getf zTie⟩)))) (xB_n (xB_n (xB_n (xB_l ⟨_, zs_iald em163_75, ag_iald⟩) (xB_l ⟨_, zs_icmpge em163_76 (t := 104) (by decide), as_icmp⟩)) (xB_n (xB_l ⟨_, zs_iload em163_79, as_iload⟩) (xB_l ⟨_, zs_iload_n em163_81, as_iload⟩))) (xB_n (xB_n (xB_l ⟨_, zs_icmpeq em163_82 (t := 98) (by decide), as_icmp⟩) (xB_l ⟨_, zs_iload em163_85, as_iload⟩)) (xB_n (xB_l ⟨_, zs_aload_n em163_87, as_aload⟩) (xB_l ⟨_, zs_iload em163_88, as_iload⟩))))) (xB_n (xB_n (xB_n (xB_n (xB_l ⟨_, zs_iload em163_90, as_iload⟩) (xB_l ⟨_, zs_invV (T := TX12) em163_92 zl_145 rfl wd_1639 wd_1641 wd_74 ((congrFun xo_12 368).trans rfl) xm_138, ag_invV H zh_145 hd (by decide)⟩)) (xB_n (xB_l ⟨_, zs_iadd em163_95, as_bin fadd_ok⟩) (xB_l ⟨_, zs_istore em163_96, as_istore⟩))) (xB_n (xB_n (xB_l ⟨_, zs_iinc (k := 1) em163_98 (by decide +kernel), as_iinc (by decide +kernel)⟩) (xB_l ⟨_, zs_goto em163_101 (t := 65) (by decide), as_goto⟩)) (xB_n (xB_l ⟨_, zs_iload em163_104, as_iload⟩) (xB_l ⟨_, zs_iload em163_106, as_iload⟩)))) (xB_n (xB_n (xB_n (xB_l ⟨_, zs_icmpge em163_108 (t := 114) (by decide), as_icmp⟩) (xB_l ⟨_, zs_bipush (v := (-2)) em163_111 (by decide +kernel), as_const (by decide +kernel)⟩)) (xB_n (xB_l ⟨_, zs_iload_n em163_114, as_iload⟩) (xB_l ⟨_, zs_iload em163_115, as_iload⟩))) (xB_n (xB_n (xB_l ⟨_, zs_iadd em163_117, as_bin fadd_ok⟩) (xB_l ⟨_, zs_istore_n em163_118, as_istore⟩)) (xB_n (xB_l ⟨_, zs_iinc (k := 1) em163_119 (by decide +kernel), as_iinc (by decide +kernel)⟩) (xB_n (xB_l ⟨_, zs_goto em163_122 (t := 27) (by decide), as_goto⟩) (xB_l ⟨_, zs_iload_n em163_125, as_iload⟩))))))))
set_option maxRecDepth 100000 in
set_option maxHeartbeats 4000000 in
theorem zM_189 : zOKa 189 zc_189 := z_auto (cuts := [(27, ([(0, 0), (0, 4), (0, 6), (0, 1), ((-2147483648), 2147483647), (0, 8)], [], [some (.inr (.inl (0, 75))), some (.inl (1, 0)), some (.inl (2, 0)), some (.inl (4, 0)), some (.inl (5, 0)), none, none, none], [], [(22, 3, 0)], (0, 0)), [(0, 3), (0, 4)], 62, [0, 0, 0, 0, 0, (-7)]), (65, ([(0, 0), (0, 4), (0, 6), (0, 1), ((-2147483648), 2147483647), (0, 7), (1, 2147483647), ((-2147483648), 2147483647), (0, 5)], [], [some (.inr (.inl (0, 75))), some (.inl (1, 0)), some (.inl (2, 0)), some (.inl (4, 0)), some (.inl (5, 0)), some (.inl (6, 0)), some (.inl (7, 0)), some (.inl (8, 0))], [], [(22, 3, 0)], (0, 0)), [(0, 3), (0, 4), (0, 5), (0, 6), (0, 7)], 61, [0, 0, 0, 0, 0, (-7), 0, 0, (-1)])]) (rets := [(17, 1), (113, 1), (126, 1)]) (fuel := 1000) rfl rfl (by decide) (xrt_ok (xR_c (Or.inl ⟨rfl, em163_17, rfl⟩) (xR_c (Or.inl ⟨rfl, em163_113, rfl⟩) (xR_c (Or.inl ⟨rfl, em163_126, rfl⟩) (xR_n))))) (fun _ _ H _ hd => zTo_189 H hd) (by decide +kernel)
