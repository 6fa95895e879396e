theorem em18_0 : decode prog_4_method_15_code 0 = .ok (.aload_n 0, 1) := by decide +kernel
theorem em18_1 : decode prog_4_method_15_code 1 = .ok (.getfield 12, 3) := by decide +kernel
theorem em18_4 : decode prog_4_method_15_code 4 = .ok (.getfield 147, 3) := by decide +kernel
theorem em18_7 : decode prog_4_method_15_code 7 = .ok (.istore_n 2, 1) := by decide +kernel
theorem em18_8 : decode prog_4_method_15_code 8 = .ok (.aload_n 0, 1) := by decide +kernel
theorem em18_9 : decode prog_4_method_15_code 9 = .ok (.aload_n 0, 1) := by decide +kernel
theorem em18_10 : decode prog_4_method_15_code 10 = .ok (.invokevirtual 53, 3) := by decide +kernel
theorem em18_13 : decode prog_4_method_15_code 13 = .ok (.invokevirtual 89, 3) := by decide +kernel
theorem em18_16 : decode prog_4_method_15_code 16 = .ok (.ifCond .eq 12, 3) := by decide +kernel
theorem em18_19 : decode prog_4_method_15_code 19 = .ok (.aload_n 0, 1) := by decide +kernel
theorem em18_20 : decode prog_4_method_15_code 20 = .ok (.bipush 61, 2) := by decide +kernel
theorem em18_22 : decode prog_4_method_15_code 22 = .ok (.invokevirtual 89, 3) := by decide +kernel
theorem em18_25 : decode prog_4_method_15_code 25 = .ok (.ifCond .ne 4, 3) := by decide +kernel
theorem em18_28 : decode prog_4_method_15_code 28 = .ok (.return_, 1) := by decide +kernel
theorem em18_29 : decode prog_4_method_15_code 29 = .ok (.iconst 0, 1) := by decide +kernel
theorem em18_30 : decode prog_4_method_15_code 30 = .ok (.istore_n 3, 1) := by decide +kernel
theorem em18_31 : decode prog_4_method_15_code 31 = .ok (.aload_n 0, 1) := by decide +kernel
theorem em18_32 : decode prog_4_method_15_code 32 = .ok (.invokevirtual 53, 3) := by decide +kernel
theorem em18_35 : decode prog_4_method_15_code 35 = .ok (.sipush 137, 3) := by decide +kernel
theorem em18_38 : decode prog_4_method_15_code 38 = .ok (.if_icmp .ne 124, 3) := by decide +kernel
theorem em18_41 : decode prog_4_method_15_code 41 = .ok (.iload_n 3, 1) := by decide +kernel
theorem em18_42 : decode prog_4_method_15_code 42 = .ok (.iconst 4, 1) := by decide +kernel
theorem em18_43 : decode prog_4_method_15_code 43 = .ok (.if_icmp .lt 10, 3) := by decide +kernel
theorem em18_46 : decode prog_4_method_15_code 46 = .ok (.aload_n 0, 1) := by decide +kernel
theorem em18_47 : decode prog_4_method_15_code 47 = .ok (.iconst 2, 1) := by decide +kernel
theorem em18_48 : decode prog_4_method_15_code 48 = .ok (.invokevirtual 70, 3) := by decide +kernel
theorem em18_51 : decode prog_4_method_15_code 51 = .ok (.pop, 1) := by decide +kernel
theorem em18_52 : decode prog_4_method_15_code 52 = .ok (.return_, 1) := by decide +kernel
theorem em18_53 : decode prog_4_method_15_code 53 = .ok (.aload_n 0, 1) := by decide +kernel
theorem em18_54 : decode prog_4_method_15_code 54 = .ok (.sipush 137, 3) := by decide +kernel
theorem em18_57 : decode prog_4_method_15_code 57 = .ok (.invokevirtual 89, 3) := by decide +kernel
theorem em18_60 : decode prog_4_method_15_code 60 = .ok (.ifCond .eq 28, 3) := by decide +kernel
theorem em18_63 : decode prog_4_method_15_code 63 = .ok (.aload_n 0, 1) := by decide +kernel
theorem em18_64 : decode prog_4_method_15_code 64 = .ok (.iconst 0, 1) := by decide +kernel
theorem em18_65 : decode prog_4_method_15_code 65 = .ok (.invokevirtual 150, 3) := by decide +kernel
theorem em18_68 : decode prog_4_method_15_code 68 = .ok (.ifCond .eq 20, 3) := by decide +kernel
theorem em18_71 : decode prog_4_method_15_code 71 = .ok (.aload_n 0, 1) := by decide +kernel
theorem em18_72 : decode prog_4_method_15_code 72 = .ok (.bipush 60, 2) := by decide +kernel
theorem em18_74 : decode prog_4_method_15_code 74 = .ok (.invokevirtual 89, 3) := by decide +kernel
theorem em18_77 : decode prog_4_method_15_code 77 = .ok (.ifCond .eq 11, 3) := by decide +kernel
theorem em18_80 : decode prog_4_method_15_code 80 = .ok (.aload_n 0, 1) := by decide +kernel
theorem em18_81 : decode prog_4_method_15_code 81 = .ok (.iconst 0, 1) := by decide +kernel
theorem em18_82 : decode prog_4_method_15_code 82 = .ok (.invokevirtual 150, 3) := by decide +kernel
theorem em18_85 : decode prog_4_method_15_code 85 = .ok (.ifCond .ne 4, 3) := by decide +kernel
theorem em18_88 : decode prog_4_method_15_code 88 = .ok (.return_, 1) := by decide +kernel
theorem em18_89 : decode prog_4_method_15_code 89 = .ok (.aload_n 0, 1) := by decide +kernel
theorem em18_90 : decode prog_4_method_15_code 90 = .ok (.getfield 12, 3) := by decide +kernel
theorem em18_93 : decode prog_4_method_15_code 93 = .ok (.getfield 147, 3) := by decide +kernel
theorem em18_96 : decode prog_4_method_15_code 96 = .ok (.istore 4, 2) := by decide +kernel
theorem em18_98 : decode prog_4_method_15_code 98 = .ok (.aload_n 0, 1) := by decide +kernel
theorem em18_99 : decode prog_4_method_15_code 99 = .ok (.getfield 12, 3) := by decide +kernel
theorem em18_102 : decode prog_4_method_15_code 102 = .ok (.bipush 6, 2) := by decide +kernel
theorem em18_104 : decode prog_4_method_15_code 104 = .ok (.iconst 0, 1) := by decide +kernel
theorem em18_105 : decode prog_4_method_15_code 105 = .ok (.invokevirtual 153, 3) := by decide +kernel
theorem em18_108 : decode prog_4_method_15_code 108 = .ok (.aload_n 0, 1) := by decide +kernel
theorem em18_109 : decode prog_4_method_15_code 109 = .ok (.sipush 138, 3) := by decide +kernel
theorem em18_112 : decode prog_4_method_15_code 112 = .ok (.invokevirtual 89, 3) := by decide +kernel
theorem em18_115 : decode prog_4_method_15_code 115 = .ok (.ifCond .eq 21, 3) := by decide +kernel
theorem em18_118 : decode prog_4_method_15_code 118 = .ok (.aload_n 0, 1) := by decide +kernel
theorem em18_119 : decode prog_4_method_15_code 119 = .ok (.iconst 0, 1) := by decide +kernel
theorem em18_120 : decode prog_4_method_15_code 120 = .ok (.invokevirtual 150, 3) := by decide +kernel
theorem em18_123 : decode prog_4_method_15_code 123 = .ok (.ifCond .eq 13, 3) := by decide +kernel
theorem em18_126 : decode prog_4_method_15_code 126 = .ok (.aload_n 0, 1) := by decide +kernel
theorem em18_127 : decode prog_4_method_15_code 127 = .ok (.sipush 139, 3) := by decide +kernel
theorem em18_130 : decode prog_4_method_15_code 130 = .ok (.invokevirtual 89, 3) := by decide +kernel
theorem em18_133 : decode prog_4_method_15_code 133 = .ok (.ifCond .ne 4, 3) := by decide +kernel
theorem em18_136 : decode prog_4_method_15_code 136 = .ok (.return_, 1) := by decide +kernel
theorem em18_137 : decode prog_4_method_15_code 137 = .ok (.aload_n 0, 1) := by decide +kernel
theorem em18_138 : decode prog_4_method_15_code 138 = .ok (.getfield 12, 3) := by decide +kernel
theorem em18_141 : decode prog_4_method_15_code 141 = .ok (.bipush 7, 2) := by decide +kernel
theorem em18_143 : decode prog_4_method_15_code 143 = .ok (.iconst 0, 1) := by decide +kernel
theorem em18_144 : decode prog_4_method_15_code 144 = .ok (.invokevirtual 153, 3) := by decide +kernel
theorem em18_147 : decode prog_4_method_15_code 147 = .ok (.aload_n 0, 1) := by decide +kernel
theorem em18_148 : decode prog_4_method_15_code 148 = .ok (.getfield 12, 3) := by decide +kernel
theorem em18_151 : decode prog_4_method_15_code 151 = .ok (.iload 4, 2) := by decide +kernel
theorem em18_153 : decode prog_4_method_15_code 153 = .ok (.invokevirtual 157, 3) := by decide +kernel
theorem em18_156 : decode prog_4_method_15_code 156 = .ok (.iinc 3 1, 3) := by decide +kernel
theorem em18_159 : decode prog_4_method_15_code 159 = .ok (.goto (-128), 3) := by decide +kernel
theorem em18_162 : decode prog_4_method_15_code 162 = .ok (.aload_n 0, 1) := by decide +kernel
theorem em18_163 : decode prog_4_method_15_code 163 = .ok (.iconst 0, 1) := by decide +kernel
theorem em18_164 : decode prog_4_method_15_code 164 = .ok (.invokevirtual 150, 3) := by decide +kernel
theorem em18_167 : decode prog_4_method_15_code 167 = .ok (.ifCond .eq 12, 3) := by decide +kernel
theorem em18_170 : decode prog_4_method_15_code 170 = .ok (.aload_n 0, 1) := by decide +kernel
theorem em18_171 : decode prog_4_method_15_code 171 = .ok (.bipush 59, 2) := by decide +kernel
theorem em18_173 : decode prog_4_method_15_code 173 = .ok (.invokevirtual 89, 3) := by decide +kernel
theorem em18_176 : decode prog_4_method_15_code 176 = .ok (.ifCond .ne 4, 3) := by decide +kernel
theorem em18_179 : decode prog_4_method_15_code 179 = .ok (.return_, 1) := by decide +kernel
theorem em18_180 : decode prog_4_method_15_code 180 = .ok (.aload_n 0, 1) := by decide +kernel
theorem em18_181 : decode prog_4_method_15_code 181 = .ok (.getfield 12, 3) := by decide +kernel
theorem em18_184 : decode prog_4_method_15_code 184 = .ok (.bipush 7, 2) := by decide +kernel
theorem em18_186 : decode prog_4_method_15_code 186 = .ok (.iconst 0, 1) := by decide +kernel
theorem em18_187 : decode prog_4_method_15_code 187 = .ok (.invokevirtual 153, 3) := by decide +kernel
theorem em18_190 : decode prog_4_method_15_code 190 = .ok (.aload_n 0, 1) := by decide +kernel
theorem em18_191 : decode prog_4_method_15_code 191 = .ok (.getfield 12, 3) := by decide +kernel
theorem em18_194 : decode prog_4_method_15_code 194 = .ok (.getfield 160, 3) := by decide +kernel
theorem em18_197 : decode prog_4_method_15_code 197 = .ok (.iload_n 1, 1) := by decide +kernel
theorem em18_198 : decode prog_4_method_15_code 198 = .ok (.iload_n 2, 1) := by decide +kernel
theorem em18_199 : decode prog_4_method_15_code 199 = .ok (.iastore, 1) := by decide +kernel
theorem em18_200 : decode prog_4_method_15_code 200 = .ok (.return_, 1) := by decide +kernel
theorem pLaw {I I' : zI} {as : List zV} (h : pFr I I') (h4 : 0 ≤ zf I 4) : aPost zInv zc_18 as I none I' := by
  obtain ⟨a1, a2, a3, a4, a5, a6⟩ := h
  refine ⟨⟨_, List.mem_cons_self, rfl, hCh_cons (fun k hk => none_no hk) a3 (hCh_cons (fun k hk => none_no hk) ⟨?_, a4.2⟩ hCh_nil), fun id hl hn => ?_, fun _ h => absurd h List.not_mem_nil⟩, fun _ => a6, fun h => by cases h⟩
  · have := a4.1; omega
  · exact a2 id (by unfold zid; omega) (fun e => by subst e; exact hn _ List.mem_cons_self) (fun e => by subst e; exact hn _ (List.mem_cons_of_mem _ List.mem_cons_self))
set_option maxRecDepth 10000 in
set_option maxHeartbeats 4000000 in
theorem hM_18 : zOKh 18 zc_18 := by
  intro d hc as I q h hq
  obtain ⟨hd, ⟨_, _, rfl, rfl, ⟨_, _, rfl, ⟨x1, rfl, hx1, hx1b⟩, rfl⟩⟩, hF, hI⟩ := h
  have hd : 60 ≤ d + 1 := hd
  have hx1 : (0 : Int) ≤ x1.toInt := hx1
  have hx1b : x1.toInt ≤ (3 : Int) := hx1b
  have hf2 : (0 : Int) ≤ zf I 2 ∧ zf I 2 ≤ (400 : Int) := hF _ List.mem_cons_self
  have hf4 : (0 : Int) ≤ zf I 4 ∧ zf I 4 ≤ (408 : Int) := hF _ (List.mem_cons_of_mem _ List.mem_cons_self)
  have hInv : zInv I := hI rfl
  have hG0 := pFr_rf hf2 hf4.2 hInv
  cases (show some _ = some q from hq)
  have loop : ∀ (n : Nat) (IJ : zI) (hGJ : pFr I IJ) (st0 : Int32) (hs0 : 0 ≤ st0.toInt) (hs1 : st0.toInt ≤ 408) (ifs : Int32) (hi : 0 ≤ ifs.toInt) (hi2 : ifs.toInt ≤ 4), (4 - ifs.toInt).toNat = n → zAt zG0 PZ zbd zpre zpost (d, (zbd 18).1, (zbd 18).2) prog_4_method_15_code "CapitalCase$Parser" (zRet prog_4_method_15_code none (zbd 18) (fun r I' => aPost zInv zc_18 [.inr (.inl (some 12)), .inl x1] I r I')) 31 [some (.inr (.inl (some 12))), some (.inl x1), some (.inl st0), some (.inl ifs), none] [] IJ (0, 0) := by
    intro n
    induction n using Nat.strongRecOn with
    | ind n ih =>
      intro IJ hGJ st0 hs0 hs1 ifs hi hi2 hn
      obtain ⟨-, -, ⟨hIJa, hIJb⟩, ⟨hIJc, hIJd⟩, -, hInvJ⟩ := id hGJ
      refine hA_aload (zs_aload_n em18_31) rfl ?_
      refine hA_callV (as := []) (rest := []) (B' := (0, 0)) (zs_invV (T := TX2) em18_32 zl_283 rfl wd_756 wd_758 wd_2 ((congrFun xo_3 53).trans rfl) xm_13) rfl ⟨_, rfl⟩ (Nat.le_of_ble_eq_true rfl) rfl ⟨Nat.zero_le _, Nat.zero_le _⟩ (hpre_of rfl (show hpr_283 d [.inr (.inl (some 12))] IJ from ⟨by show 1 ≤ d; omega, rfl, ⟨by omega, by omega⟩⟩)) (fun r32 I32 hp32 => ?_)
      replace hp32 : hpo_283 _ _ _ _ := hpost_of rfl hp32
      replace hp32 := hp32 rfl
      obtain ⟨z32, rfl, hz32, rfl⟩ := hp32
      refine hA_const (k := 137) (zs_sipush (v := 137) em18_35 (by decide +kernel)) (by decide +kernel) (fun z35 hz35 => ?_)
      refine hA_icmp (zs_icmpne em18_38 (t := 162) (by decide)) (fun (c38 : ¬ z32.toInt = z35.toInt) => ?_) (fun (c38 : ¬ ¬ z32.toInt = z35.toInt) => ?_)
      · refine hA_aload (zs_aload_n em18_162) rfl ?_
        refine hA_const (k := 0) (zs_iconst (v := 0) em18_163 (by decide +kernel)) (by decide +kernel) (fun z163 hz163 => ?_)
        refine hA_callV (as := [.inl z163]) (rest := []) (B' := (0, 0)) (zs_invV (T := TX2) em18_164 zl_266 rfl wd_804 wd_806 wd_14 ((congrFun xo_3 150).trans rfl) xm_234) rfl ⟨_, rfl⟩ (Nat.le_of_ble_eq_true rfl) rfl ⟨Nat.zero_le _, Nat.zero_le _⟩ (hpre_of rfl (show hpr_266 d [.inr (.inl (some 12)), .inl z163] IJ from ⟨z163, rfl, by show _ ≤ d; omega, ⟨by omega, by omega, by omega, by omega, by omega, by omega, hInvJ⟩⟩)) (fun r164 I164 hp164 => ?_)
        replace hp164 : hpo_266 _ _ _ _ := hpost_of rfl hp164
        replace hp164 := hp164 z163 rfl
        obtain ⟨z164, rfl, hz164l, hz164h, hF164⟩ := hp164
        have hG164 : pFr I I164 := pFr_tr hGJ hF164
        obtain ⟨-, -, ⟨hI164a, hI164b⟩, ⟨hI164c, hI164d⟩, -, hInv164⟩ := id hG164
        refine hA_if (zs_ifeq em18_167 (t := 179) (by decide)) (fun (c167 : z164.toInt = 0) => ?_) (fun (c167 : ¬ z164.toInt = 0) => ?_)
        · refine hA_return ⟨rfl, em18_179⟩ ⟨Nat.le_refl _, Nat.le_refl _⟩ ?_
          exact pLaw (h4 := by omega) hG164
        · refine hA_aload (zs_aload_n em18_170) rfl ?_
          refine hA_const (k := 59) (zs_bipush (v := 59) em18_171 (by decide +kernel)) (by decide +kernel) (fun z171 hz171 => ?_)
          refine hA_callV (as := [.inl z171]) (rest := []) (B' := (0, 0)) (zs_invV (T := TX2) em18_173 zl_284 rfl wd_768 wd_770 wd_5 ((congrFun xo_3 89).trans rfl) xm_9) rfl ⟨_, rfl⟩ (Nat.le_of_ble_eq_true rfl) rfl ⟨Nat.zero_le _, Nat.zero_le _⟩ (hpre_of rfl (show hpr_284 d _ _ from ⟨by show 3 ≤ d; omega, z171, rfl, ⟨by omega, by omega, hInv164⟩⟩)) (fun r173 I173 hp173 => ?_)
          replace hp173 : hpo_284 _ _ _ _ := hpost_of rfl hp173
          obtain ⟨z173, rfl, ⟨hz173, rfl⟩ | ⟨hz173, hz173k, hz173m, v173, hv173, rfl⟩⟩ := hp173 z171 rfl
          · refine hA_if (zs_ifne em18_176 (t := 180) (by decide)) (fun (c176 : ¬ z173.toInt = 0) => ?_) (fun (c176 : ¬ ¬ z173.toInt = 0) => ?_)
            · exfalso
              omega
            · refine hA_return ⟨rfl, em18_179⟩ ⟨Nat.le_refl _, Nat.le_refl _⟩ ?_
              exact pLaw (h4 := by omega) hG164
          · refine hA_if (zs_ifne em18_176 (t := 180) (by decide)) (fun (c176' : ¬ z173.toInt = 0) => ?_) (fun (c176' : ¬ ¬ z173.toInt = 0) => ?_)
            · refine hA_aload (zs_aload_n em18_180) rfl ?_
              refine hA_getf2 (r := 13) (zs_getf (T := TX2) (M := 10) (ci := 2) (j := 0) em18_181 rfl inX2 (by decide) wd_281 ((congrFun xo_3 12).trans rfl)) ⟨_, rfl, rfl⟩ ?_
              refine hA_const (k := 7) (zs_bipush (v := 7) em18_184 (by decide +kernel)) (by decide +kernel) (fun z184 hz184 => ?_)
              refine hA_const (k := 0) (zs_iconst (v := 0) em18_186 (by decide +kernel)) (by decide +kernel) (fun z186 hz186 => ?_)
              refine hA_callV (as := [.inl z184, .inl z186]) (rest := []) (B' := (0, 0)) (zs_invV (T := TX6) em18_187 zl_282 rfl wd_816 wd_159 wd_160 ((congrFun xo_3 153).trans rfl) xm_43) rfl ⟨_, rfl⟩ (Nat.le_of_ble_eq_true rfl) rfl ⟨Nat.zero_le _, Nat.zero_le _⟩ (hpre_of rfl (show hpr_282 d [.inr (.inl (some 13)), .inl z184, .inl z186] (zupd I164 2 v173) from ⟨by show 1 ≤ d; omega, z184, z186, rfl, ⟨by rw [zf_ne (by decide)]; omega, by rw [zf_ne (by decide)]; omega⟩⟩)) (fun r187 I187 hp187 => ?_)
              replace hp187 : hpo_282 _ _ _ _ := hpost_of rfl hp187
              replace hp187 := hp187 z184 z186 rfl
              replace hp187 := pFr_add ⟨by rw [zf_same]; omega, by rw [zf_same]; omega⟩ ⟨by rw [zf_ne (by decide)]; omega, by rw [zf_ne (by decide)]; omega⟩ (zextp _ 2 _ rfl (by decide) hInv164) (fun h => ⟨by omega, by omega⟩) hp187
              obtain ⟨rfl, hF187⟩ := hp187
              have hG187 : pFr I I187 := pFr_tr (pFr_at hG164 (by omega) (by omega)) hF187
              obtain ⟨-, -, ⟨hI187a, hI187b⟩, ⟨hI187c, hI187d⟩, -, hInv187⟩ := id hG187
              refine hA_aload (zs_aload_n em18_190) rfl ?_
              refine hA_getf2 (r := 13) (zs_getf (T := TX2) (M := 10) (ci := 2) (j := 0) em18_191 rfl inX2 (by decide) wd_281 ((congrFun xo_3 12).trans rfl)) ⟨_, rfl, rfl⟩ ?_
              refine hA_getf2 (r := 20) (zs_getf (T := TX6) (M := 15) (ci := 6) (j := 11) em18_194 rfl inX6 (by decide) wd_213 ((congrFun xo_3 160).trans rfl)) ⟨_, rfl, rfl⟩ ?_
              refine hA_iload (zs_iload_n em18_197) rfl ?_
              refine hA_iload (zs_iload_n em18_198) rfl ?_
              refine hA_iastH (kd := 20) (len := 4) (zs_iast zInj0 em18_199) ⟨rfl, rfl, rfl⟩ (by omega) (by show _ < ((4 : Nat) : Int); omega) (eal rfl (by show (0 : Int) ≤ _; omega) (by show _ ≤ (408 : Int); omega)) ?_
              refine hA_return ⟨rfl, em18_200⟩ ⟨Nat.le_refl _, Nat.le_refl _⟩ ?_
              exact pLaw (h4 := by omega) hG187
            · exfalso
              omega
      · refine hA_iload (zs_iload_n em18_41) rfl ?_
        refine hA_const (k := 4) (zs_iconst (v := 4) em18_42 (by decide +kernel)) (by decide +kernel) (fun z42 hz42 => ?_)
        refine hA_icmp (zs_icmplt em18_43 (t := 53) (by decide)) (fun (c43 : ifs.toInt < z42.toInt) => ?_) (fun (c43 : ¬ ifs.toInt < z42.toInt) => ?_)
        · refine hA_aload (zs_aload_n em18_53) rfl ?_
          refine hA_const (k := 137) (zs_sipush (v := 137) em18_54 (by decide +kernel)) (by decide +kernel) (fun z54 hz54 => ?_)
          refine hA_callV (as := [.inl z54]) (rest := []) (B' := (0, 0)) (zs_invV (T := TX2) em18_57 zl_284 rfl wd_768 wd_770 wd_5 ((congrFun xo_3 89).trans rfl) xm_9) rfl ⟨_, rfl⟩ (Nat.le_of_ble_eq_true rfl) rfl ⟨Nat.zero_le _, Nat.zero_le _⟩ (hpre_of rfl (show hpr_284 d _ _ from ⟨by show 3 ≤ d; omega, z54, rfl, ⟨by omega, by omega, hInvJ⟩⟩)) (fun r57 I57 hp57 => ?_)
          replace hp57 : hpo_284 _ _ _ _ := hpost_of rfl hp57
          obtain ⟨z57, rfl, ⟨hz57, rfl⟩ | ⟨hz57, hz57k, hz57m, v57, hv57, rfl⟩⟩ := hp57 z54 rfl
          · refine hA_if (zs_ifeq em18_60 (t := 88) (by decide)) (fun (c60 : z57.toInt = 0) => ?_) (fun (c60 : ¬ z57.toInt = 0) => ?_)
            · refine hA_return ⟨rfl, em18_88⟩ ⟨Nat.le_refl _, Nat.le_refl _⟩ ?_
              exact pLaw (h4 := by omega) hGJ
            · exfalso
              omega
          · refine hA_if (zs_ifeq em18_60 (t := 88) (by decide)) (fun (c60' : z57.toInt = 0) => ?_) (fun (c60' : ¬ z57.toInt = 0) => ?_)
            · exfalso
              omega
            · refine hA_aload (zs_aload_n em18_63) rfl ?_
              refine hA_const (k := 0) (zs_iconst (v := 0) em18_64 (by decide +kernel)) (by decide +kernel) (fun z64 hz64 => ?_)
              refine hA_callV (as := [.inl z64]) (rest := []) (B' := (0, 0)) (zs_invV (T := TX2) em18_65 zl_266 rfl wd_804 wd_806 wd_14 ((congrFun xo_3 150).trans rfl) xm_234) rfl ⟨_, rfl⟩ (Nat.le_of_ble_eq_true rfl) rfl ⟨Nat.zero_le _, Nat.zero_le _⟩ (hpre_of rfl (show hpr_266 d [.inr (.inl (some 12)), .inl z64] (zupd IJ 2 v57) from ⟨z64, rfl, by show _ ≤ d; omega, ⟨by omega, by omega, by rw [zf_same]; omega, by rw [zf_same]; omega, by rw [zf_ne (by decide)]; omega, by rw [zf_ne (by decide)]; omega, (zextp _ 2 _ rfl (by decide) hInvJ)⟩⟩)) (fun r65 I65 hp65 => ?_)
              replace hp65 : hpo_266 _ _ _ _ := hpost_of rfl hp65
              replace hp65 := hp65 z64 rfl
              obtain ⟨z65, rfl, hz65l, hz65h, hF65⟩ := hp65
              have hG65 : pFr I I65 := pFr_tr (pFr_at hGJ (by omega) (by omega)) hF65
              obtain ⟨-, -, ⟨hI65a, hI65b⟩, ⟨hI65c, hI65d⟩, -, hInv65⟩ := id hG65
              refine hA_if (zs_ifeq em18_68 (t := 88) (by decide)) (fun (c68 : z65.toInt = 0) => ?_) (fun (c68 : ¬ z65.toInt = 0) => ?_)
              · refine hA_return ⟨rfl, em18_88⟩ ⟨Nat.le_refl _, Nat.le_refl _⟩ ?_
                exact pLaw (h4 := by omega) hG65
              · refine hA_aload (zs_aload_n em18_71) rfl ?_
                refine hA_const (k := 60) (zs_bipush (v := 60) em18_72 (by decide +kernel)) (by decide +kernel) (fun z72 hz72 => ?_)
                refine hA_callV (as := [.inl z72]) (rest := []) (B' := (0, 0)) (zs_invV (T := TX2) em18_74 zl_284 rfl wd_768 wd_770 wd_5 ((congrFun xo_3 89).trans rfl) xm_9) rfl ⟨_, rfl⟩ (Nat.le_of_ble_eq_true rfl) rfl ⟨Nat.zero_le _, Nat.zero_le _⟩ (hpre_of rfl (show hpr_284 d _ _ from ⟨by show 3 ≤ d; omega, z72, rfl, ⟨by omega, by omega, hInv65⟩⟩)) (fun r74 I74 hp74 => ?_)
                replace hp74 : hpo_284 _ _ _ _ := hpost_of rfl hp74
                obtain ⟨z74, rfl, ⟨hz74, rfl⟩ | ⟨hz74, hz74k, hz74m, v74, hv74, rfl⟩⟩ := hp74 z72 rfl
                · refine hA_if (zs_ifeq em18_77 (t := 88) (by decide)) (fun (c77 : z74.toInt = 0) => ?_) (fun (c77 : ¬ z74.toInt = 0) => ?_)
                  · refine hA_return ⟨rfl, em18_88⟩ ⟨Nat.le_refl _, Nat.le_refl _⟩ ?_
                    exact pLaw (h4 := by omega) hG65
                  · exfalso
                    omega
                · refine hA_if (zs_ifeq em18_77 (t := 88) (by decide)) (fun (c77' : z74.toInt = 0) => ?_) (fun (c77' : ¬ z74.toInt = 0) => ?_)
                  · exfalso
                    omega
                  · refine hA_aload (zs_aload_n em18_80) rfl ?_
                    refine hA_const (k := 0) (zs_iconst (v := 0) em18_81 (by decide +kernel)) (by decide +kernel) (fun z81 hz81 => ?_)
                    refine hA_callV (as := [.inl z81]) (rest := []) (B' := (0, 0)) (zs_invV (T := TX2) em18_82 zl_266 rfl wd_804 wd_806 wd_14 ((congrFun xo_3 150).trans rfl) xm_234) rfl ⟨_, rfl⟩ (Nat.le_of_ble_eq_true rfl) rfl ⟨Nat.zero_le _, Nat.zero_le _⟩ (hpre_of rfl (show hpr_266 d [.inr (.inl (some 12)), .inl z81] (zupd I65 2 v74) from ⟨z81, rfl, by show _ ≤ d; omega, ⟨by omega, by omega, by rw [zf_same]; omega, by rw [zf_same]; omega, by rw [zf_ne (by decide)]; omega, by rw [zf_ne (by decide)]; omega, (zextp _ 2 _ rfl (by decide) hInv65)⟩⟩)) (fun r82 I82 hp82 => ?_)
                    replace hp82 : hpo_266 _ _ _ _ := hpost_of rfl hp82
                    replace hp82 := hp82 z81 rfl
                    obtain ⟨z82, rfl, hz82l, hz82h, hF82⟩ := hp82
                    have hG82 : pFr I I82 := pFr_tr (pFr_at hG65 (by omega) (by omega)) hF82
                    obtain ⟨-, -, ⟨hI82a, hI82b⟩, ⟨hI82c, hI82d⟩, -, hInv82⟩ := id hG82
                    refine hA_if (zs_ifne em18_85 (t := 89) (by decide)) (fun (c85 : ¬ z82.toInt = 0) => ?_) (fun (c85 : ¬ ¬ z82.toInt = 0) => ?_)
                    · refine hA_aload (zs_aload_n em18_89) rfl ?_
                      refine hA_getf2 (r := 13) (zs_getf (T := TX2) (M := 10) (ci := 2) (j := 0) em18_90 rfl inX2 (by decide) wd_281 ((congrFun xo_3 12).trans rfl)) ⟨_, rfl, rfl⟩ ?_
                      refine hA_getf0 (id := 4) (zs_getf (T := TX6) (M := 15) (ci := 6) (j := 14) em18_93 rfl inX6 (by decide) wd_220 ((congrFun xo_3 147).trans rfl)) ⟨_, rfl, rfl⟩ (fun z93 hz93 => ?_)
                      refine hA_istore (L' := [some (.inr (.inl (some 12))), some (.inl x1), some (.inl st0), some (.inl ifs), some (.inl z93)]) (zs_istore em18_96) ⟨Nat.le_of_ble_eq_true rfl, rfl⟩ rfl ?_
                      refine hA_aload (zs_aload_n em18_98) rfl ?_
                      refine hA_getf2 (r := 13) (zs_getf (T := TX2) (M := 10) (ci := 2) (j := 0) em18_99 rfl inX2 (by decide) wd_281 ((congrFun xo_3 12).trans rfl)) ⟨_, rfl, rfl⟩ ?_
                      refine hA_const (k := 6) (zs_bipush (v := 6) em18_102 (by decide +kernel)) (by decide +kernel) (fun z102 hz102 => ?_)
                      refine hA_const (k := 0) (zs_iconst (v := 0) em18_104 (by decide +kernel)) (by decide +kernel) (fun z104 hz104 => ?_)
                      refine hA_callV (as := [.inl z102, .inl z104]) (rest := []) (B' := (0, 0)) (zs_invV (T := TX6) em18_105 zl_282 rfl wd_816 wd_159 wd_160 ((congrFun xo_3 153).trans rfl) xm_43) rfl ⟨_, rfl⟩ (Nat.le_of_ble_eq_true rfl) rfl ⟨Nat.zero_le _, Nat.zero_le _⟩ (hpre_of rfl (show hpr_282 d [.inr (.inl (some 13)), .inl z102, .inl z104] I82 from ⟨by show 1 ≤ d; omega, z102, z104, rfl, ⟨by omega, by omega⟩⟩)) (fun r105 I105 hp105 => ?_)
                      replace hp105 : hpo_282 _ _ _ _ := hpost_of rfl hp105
                      replace hp105 := hp105 z102 z104 rfl
                      replace hp105 := pFr_add6 ⟨by omega, by omega⟩ ⟨by omega, by omega⟩ hInv82 (fun h => ⟨by omega, by omega⟩) hp105
                      obtain ⟨rfl, hF105, hS105⟩ := hp105
                      have hG105 : pFr I I105 := pFr_tr hG82 hF105
                      obtain ⟨-, -, ⟨hI105a, hI105b⟩, ⟨hI105c, hI105d⟩, -, hInv105⟩ := id hG105
                      have hX105 : pFr I105 I105 := pFr_rf ⟨hI105a, hI105b⟩ hI105d hInv105
                      rw [← hz93] at hS105
                      refine hA_aload (zs_aload_n em18_108) rfl ?_
                      refine hA_const (k := 138) (zs_sipush (v := 138) em18_109 (by decide +kernel)) (by decide +kernel) (fun z109 hz109 => ?_)
                      refine hA_callV (as := [.inl z109]) (rest := []) (B' := (0, 0)) (zs_invV (T := TX2) em18_112 zl_284 rfl wd_768 wd_770 wd_5 ((congrFun xo_3 89).trans rfl) xm_9) rfl ⟨_, rfl⟩ (Nat.le_of_ble_eq_true rfl) rfl ⟨Nat.zero_le _, Nat.zero_le _⟩ (hpre_of rfl (show hpr_284 d _ _ from ⟨by show 3 ≤ d; omega, z109, rfl, ⟨by omega, by omega, hInv105⟩⟩)) (fun r112 I112 hp112 => ?_)
                      replace hp112 : hpo_284 _ _ _ _ := hpost_of rfl hp112
                      obtain ⟨z112, rfl, ⟨hz112, rfl⟩ | ⟨hz112, hz112k, hz112m, v112, hv112, rfl⟩⟩ := hp112 z109 rfl
                      · refine hA_if (zs_ifeq em18_115 (t := 136) (by decide)) (fun (c115 : z112.toInt = 0) => ?_) (fun (c115 : ¬ z112.toInt = 0) => ?_)
                        · refine hA_return ⟨rfl, em18_136⟩ ⟨Nat.le_refl _, Nat.le_refl _⟩ ?_
                          exact pLaw (h4 := by omega) hG105
                        · exfalso
                          omega
                      · refine hA_if (zs_ifeq em18_115 (t := 136) (by decide)) (fun (c115' : z112.toInt = 0) => ?_) (fun (c115' : ¬ z112.toInt = 0) => ?_)
                        · exfalso
                          omega
                        · refine hA_aload (zs_aload_n em18_118) rfl ?_
                          refine hA_const (k := 0) (zs_iconst (v := 0) em18_119 (by decide +kernel)) (by decide +kernel) (fun z119 hz119 => ?_)
                          refine hA_callV (as := [.inl z119]) (rest := []) (B' := (0, 0)) (zs_invV (T := TX2) em18_120 zl_266 rfl wd_804 wd_806 wd_14 ((congrFun xo_3 150).trans rfl) xm_234) rfl ⟨_, rfl⟩ (Nat.le_of_ble_eq_true rfl) rfl ⟨Nat.zero_le _, Nat.zero_le _⟩ (hpre_of rfl (show hpr_266 d [.inr (.inl (some 12)), .inl z119] (zupd I105 2 v112) from ⟨z119, rfl, by show _ ≤ d; omega, ⟨by omega, by omega, by rw [zf_same]; omega, by rw [zf_same]; omega, by rw [zf_ne (by decide)]; omega, by rw [zf_ne (by decide)]; omega, (zextp _ 2 _ rfl (by decide) hInv105)⟩⟩)) (fun r120 I120 hp120 => ?_)
                          replace hp120 : hpo_266 _ _ _ _ := hpost_of rfl hp120
                          replace hp120 := hp120 z119 rfl
                          obtain ⟨z120, rfl, hz120l, hz120h, hF120⟩ := hp120
                          have hG120 : pFr I I120 := pFr_tr (pFr_at hG105 (by omega) (by omega)) hF120
                          obtain ⟨-, -, ⟨hI120a, hI120b⟩, ⟨hI120c, hI120d⟩, -, hInv120⟩ := id hG120
                          have hX120 : pFr I105 I120 := pFr_tr (pFr_at hX105 (by omega) (by omega)) hF120
                          refine hA_if (zs_ifeq em18_123 (t := 136) (by decide)) (fun (c123 : z120.toInt = 0) => ?_) (fun (c123 : ¬ z120.toInt = 0) => ?_)
                          · refine hA_return ⟨rfl, em18_136⟩ ⟨Nat.le_refl _, Nat.le_refl _⟩ ?_
                            exact pLaw (h4 := by omega) hG120
                          · refine hA_aload (zs_aload_n em18_126) rfl ?_
                            refine hA_const (k := 139) (zs_sipush (v := 139) em18_127 (by decide +kernel)) (by decide +kernel) (fun z127 hz127 => ?_)
                            refine hA_callV (as := [.inl z127]) (rest := []) (B' := (0, 0)) (zs_invV (T := TX2) em18_130 zl_284 rfl wd_768 wd_770 wd_5 ((congrFun xo_3 89).trans rfl) xm_9) rfl ⟨_, rfl⟩ (Nat.le_of_ble_eq_true rfl) rfl ⟨Nat.zero_le _, Nat.zero_le _⟩ (hpre_of rfl (show hpr_284 d _ _ from ⟨by show 3 ≤ d; omega, z127, rfl, ⟨by omega, by omega, hInv120⟩⟩)) (fun r130 I130 hp130 => ?_)
                            replace hp130 : hpo_284 _ _ _ _ := hpost_of rfl hp130
                            obtain ⟨z130, rfl, ⟨hz130, rfl⟩ | ⟨hz130, hz130k, hz130m, v130, hv130, rfl⟩⟩ := hp130 z127 rfl
                            · refine hA_if (zs_ifne em18_133 (t := 137) (by decide)) (fun (c133 : ¬ z130.toInt = 0) => ?_) (fun (c133 : ¬ ¬ z130.toInt = 0) => ?_)
                              · exfalso
                                omega
                              · refine hA_return ⟨rfl, em18_136⟩ ⟨Nat.le_refl _, Nat.le_refl _⟩ ?_
                                exact pLaw (h4 := by omega) hG120
                            · refine hA_if (zs_ifne em18_133 (t := 137) (by decide)) (fun (c133' : ¬ z130.toInt = 0) => ?_) (fun (c133' : ¬ ¬ z130.toInt = 0) => ?_)
                              · refine hA_aload (zs_aload_n em18_137) rfl ?_
                                refine hA_getf2 (r := 13) (zs_getf (T := TX2) (M := 10) (ci := 2) (j := 0) em18_138 rfl inX2 (by decide) wd_281 ((congrFun xo_3 12).trans rfl)) ⟨_, rfl, rfl⟩ ?_
                                refine hA_const (k := 7) (zs_bipush (v := 7) em18_141 (by decide +kernel)) (by decide +kernel) (fun z141 hz141 => ?_)
                                refine hA_const (k := 0) (zs_iconst (v := 0) em18_143 (by decide +kernel)) (by decide +kernel) (fun z143 hz143 => ?_)
                                refine hA_callV (as := [.inl z141, .inl z143]) (rest := []) (B' := (0, 0)) (zs_invV (T := TX6) em18_144 zl_282 rfl wd_816 wd_159 wd_160 ((congrFun xo_3 153).trans rfl) xm_43) rfl ⟨_, rfl⟩ (Nat.le_of_ble_eq_true rfl) rfl ⟨Nat.zero_le _, Nat.zero_le _⟩ (hpre_of rfl (show hpr_282 d [.inr (.inl (some 13)), .inl z141, .inl z143] (zupd I120 2 v130) from ⟨by show 1 ≤ d; omega, z141, z143, rfl, ⟨by rw [zf_ne (by decide)]; omega, by rw [zf_ne (by decide)]; omega⟩⟩)) (fun r144 I144 hp144 => ?_)
                                replace hp144 : hpo_282 _ _ _ _ := hpost_of rfl hp144
                                replace hp144 := hp144 z141 z143 rfl
                                replace hp144 := pFr_add ⟨by rw [zf_same]; omega, by rw [zf_same]; omega⟩ ⟨by rw [zf_ne (by decide)]; omega, by rw [zf_ne (by decide)]; omega⟩ (zextp _ 2 _ rfl (by decide) hInv120) (fun h => ⟨by omega, by omega⟩) hp144
                                obtain ⟨rfl, hF144⟩ := hp144
                                have hG144 : pFr I I144 := pFr_tr (pFr_at hG120 (by omega) (by omega)) hF144
                                obtain ⟨-, -, ⟨hI144a, hI144b⟩, ⟨hI144c, hI144d⟩, -, hInv144⟩ := id hG144
                                have hX144 : pFr I105 I144 := pFr_tr (pFr_at hX120 (by omega) (by omega)) hF144
                                refine hA_aload (zs_aload_n em18_147) rfl ?_
                                refine hA_getf2 (r := 13) (zs_getf (T := TX2) (M := 10) (ci := 2) (j := 0) em18_148 rfl inX2 (by decide) wd_281 ((congrFun xo_3 12).trans rfl)) ⟨_, rfl, rfl⟩ ?_
                                refine hA_iload (zs_iload em18_151) rfl ?_
                                refine hA_callV (as := [.inl z93]) (rest := []) (B' := (0, 0)) (zs_invV (T := TX6) em18_153 zl_265 rfl wd_817 wd_818 wd_819 ((congrFun xo_3 157).trans rfl) xm_233) rfl ⟨_, rfl⟩ (Nat.le_of_ble_eq_true rfl) rfl ⟨Nat.zero_le _, Nat.zero_le _⟩ (hpre_of rfl (show hpr_265 d _ _ from ⟨by show 1 ≤ d; omega, z93, rfl, ⟨by omega, by omega⟩⟩)) (fun r153 I153 hp153 => ?_)
                                replace hp153 : hpo_265 _ _ _ _ := hpost_of rfl hp153
                                obtain ⟨rfl, ⟨hl153, rfl⟩ | ⟨hl153, hl153b, v153, hv153, rfl⟩⟩ := hp153 z93 rfl
                                · have hG153 := hG144
                                  obtain ⟨-, -, ⟨hI153a, hI153b⟩, ⟨hI153c, hI153d⟩, -, hInv153⟩ := id hG153
                                  generalize hE153 : I144 = I153 at hG153 hI153a hI153b hI153c hI153d hInv153 ⊢
                                  refine hA_iinc (c := 1) (zs_iinc (k := 1) em18_156 (by decide +kernel)) (by decide +kernel) rfl ⟨Nat.le_of_ble_eq_true rfl, rfl⟩ (by omega) (by omega) (fun z156 hz156 => ?_)
                                  show zAt _ _ _ _ _ _ _ _ _ _ [some (.inr (.inl (some 12))), some (.inl x1), some (.inl st0), some (.inl z156), some (.inl z93)] _ _ _
                                  refine hA_goto (zs_goto em18_159 (t := 31) (by decide)) ?_
                                  refine hA_fg (L' := [some (.inr (.inl (some 12))), some (.inl x1), some (.inl st0), some (.inl z156), none]) (by repeat (first | exact trivial | refine And.intro rfl ?_)) ?_
                                  exact ih _ (by omega) I153 hG153 st0 (by omega) (by omega) z156 (by omega) (by omega) rfl
                                · have hG153 := pFr_lead (k := z93) (v := v153) hG144 (by omega) (by omega) (by omega) (by rw [(hX144.2.2.2.2.1 z93.toInt.toNat (by omega)).1]; have := hS105 (by omega); omega)
                                  obtain ⟨-, -, ⟨hI153a, hI153b⟩, ⟨hI153c, hI153d⟩, -, hInv153⟩ := id hG153
                                  generalize hE153 : zupd I144 (zid 22 z93.toInt.toNat) v153 = I153 at hG153 hI153a hI153b hI153c hI153d hInv153 ⊢
                                  refine hA_iinc (c := 1) (zs_iinc (k := 1) em18_156 (by decide +kernel)) (by decide +kernel) rfl ⟨Nat.le_of_ble_eq_true rfl, rfl⟩ (by omega) (by omega) (fun z156' hz156' => ?_)
                                  show zAt _ _ _ _ _ _ _ _ _ _ [some (.inr (.inl (some 12))), some (.inl x1), some (.inl st0), some (.inl z156'), some (.inl z93)] _ _ _
                                  refine hA_goto (zs_goto em18_159 (t := 31) (by decide)) ?_
                                  refine hA_fg (L' := [some (.inr (.inl (some 12))), some (.inl x1), some (.inl st0), some (.inl z156'), none]) (by repeat (first | exact trivial | refine And.intro rfl ?_)) ?_
                                  exact ih _ (by omega) I153 hG153 st0 (by omega) (by omega) z156' (by omega) (by omega) rfl
                              · exfalso
                                omega
                    · refine hA_return ⟨rfl, em18_88⟩ ⟨Nat.le_refl _, Nat.le_refl _⟩ ?_
                      exact pLaw (h4 := by omega) hG82
        · refine hA_aload (zs_aload_n em18_46) rfl ?_
          refine hA_const (k := 2) (zs_iconst (v := 2) em18_47 (by decide +kernel)) (by decide +kernel) (fun z47 hz47 => ?_)
          refine hA_callV (as := [.inl z47]) (rest := []) (B' := (0, 0)) (zs_invV (T := TX2) em18_48 zl_10 rfl wd_764 wd_766 wd_4 ((congrFun xo_3 70).trans rfl) xm_10) rfl ⟨_, rfl⟩ (Nat.le_of_ble_eq_true rfl) rfl ⟨Nat.zero_le _, Nat.zero_le _⟩ (zpre_of zh_10 ⟨(by show 1 ≤ d; omega), ⟨_, _, rfl, rfl, ⟨_, _, rfl, ⟨_, rfl, show (1 : Int) ≤ z47.toInt by omega, show z47.toInt ≤ (6 : Int) by omega⟩, rfl⟩⟩, (hF_cons (lo := 0) (hi := 400) ⟨by omega, by omega⟩ hF_nil), fun _ => hInvJ⟩) (fun r48 I48 hp48 => ?_)
          replace hp48 := zpost_of zh_10 hp48
          obtain ⟨z48, rfl, hz48l, hz48h, rfl, hInv48⟩ := zq_10 hp48
          refine hA_pop (zs_pop em18_51) rfl ?_
          refine hA_return ⟨rfl, em18_52⟩ ⟨Nat.le_refl _, Nat.le_refl _⟩ ?_
          exact pLaw (h4 := by omega) hGJ
  refine hmet (L := [some (.inr (.inl (some 12))), some (.inl x1), none, none, none]) (by decide) (Nat.le_of_ble_eq_true rfl) hc rfl ?_
  refine hA_aload (zs_aload_n em18_0) rfl ?_
  refine hA_getf2 (r := 13) (zs_getf (T := TX2) (M := 10) (ci := 2) (j := 0) em18_1 rfl inX2 (by decide) wd_281 ((congrFun xo_3 12).trans rfl)) ⟨_, rfl, rfl⟩ ?_
  refine hA_getf0 (id := 4) (zs_getf (T := TX6) (M := 15) (ci := 6) (j := 14) em18_4 rfl inX6 (by decide) wd_220 ((congrFun xo_3 147).trans rfl)) ⟨_, rfl, rfl⟩ (fun z4 hz4 => ?_)
  refine hA_istore (L' := [some (.inr (.inl (some 12))), some (.inl x1), some (.inl z4), none, none]) (zs_istore_n em18_7) ⟨Nat.le_of_ble_eq_true rfl, rfl⟩ rfl ?_
  refine hA_aload (zs_aload_n em18_8) rfl ?_
  refine hA_aload (zs_aload_n em18_9) rfl ?_
  refine hA_callV (as := []) (rest := [.inr (.inl (some 12))]) (B' := (0, 0)) (zs_invV (T := TX2) em18_10 zl_283 rfl wd_756 wd_758 wd_2 ((congrFun xo_3 53).trans rfl) xm_13) rfl ⟨_, rfl⟩ (Nat.le_of_ble_eq_true rfl) rfl ⟨Nat.zero_le _, Nat.zero_le _⟩ (hpre_of rfl (show hpr_283 d [.inr (.inl (some 12))] I from ⟨by show 1 ≤ d; omega, rfl, ⟨by omega, by omega⟩⟩)) (fun r10 I10 hp10 => ?_)
  replace hp10 : hpo_283 _ _ _ _ := hpost_of rfl hp10
  replace hp10 := hp10 rfl
  obtain ⟨z10, rfl, hz10, rfl⟩ := hp10
  refine hA_callV (as := [.inl z10]) (rest := []) (B' := (0, 0)) (zs_invV (T := TX2) em18_13 zl_284 rfl wd_768 wd_770 wd_5 ((congrFun xo_3 89).trans rfl) xm_9) rfl ⟨_, rfl⟩ (Nat.le_of_ble_eq_true rfl) rfl ⟨Nat.zero_le _, Nat.zero_le _⟩ (hpre_of rfl (show hpr_284 d _ _ from ⟨by show 3 ≤ d; omega, z10, rfl, ⟨by omega, by omega, hInv⟩⟩)) (fun r13 I13 hp13 => ?_)
  replace hp13 : hpo_284 _ _ _ _ := hpost_of rfl hp13
  obtain ⟨z13, rfl, ⟨hz13, rfl⟩ | ⟨hz13, hz13k, hz13m, v13, hv13, rfl⟩⟩ := hp13 z10 rfl
  · refine hA_if (zs_ifeq em18_16 (t := 28) (by decide)) (fun (c16 : z13.toInt = 0) => ?_) (fun (c16 : ¬ z13.toInt = 0) => ?_)
    · refine hA_return ⟨rfl, em18_28⟩ ⟨Nat.le_refl _, Nat.le_refl _⟩ ?_
      exact pLaw (h4 := by omega) hG0
    · exfalso
      omega
  · refine hA_if (zs_ifeq em18_16 (t := 28) (by decide)) (fun (c16' : z13.toInt = 0) => ?_) (fun (c16' : ¬ z13.toInt = 0) => ?_)
    · exfalso
      omega
    · refine hA_aload (zs_aload_n em18_19) rfl ?_
      refine hA_const (k := 61) (zs_bipush (v := 61) em18_20 (by decide +kernel)) (by decide +kernel) (fun z20 hz20 => ?_)
      refine hA_callV (as := [.inl z20]) (rest := []) (B' := (0, 0)) (zs_invV (T := TX2) em18_22 zl_284 rfl wd_768 wd_770 wd_5 ((congrFun xo_3 89).trans rfl) xm_9) rfl ⟨_, rfl⟩ (Nat.le_of_ble_eq_true rfl) rfl ⟨Nat.zero_le _, Nat.zero_le _⟩ (hpre_of rfl (show hpr_284 d _ _ from ⟨by show 3 ≤ d; omega, z20, rfl, ⟨by rw [zf_same]; omega, by rw [zf_same]; omega, (zextp _ 2 _ rfl (by decide) hInv)⟩⟩)) (fun r22 I22 hp22 => ?_)
      replace hp22 : hpo_284 _ _ _ _ := hpost_of rfl hp22
      obtain ⟨z22, rfl, ⟨hz22, rfl⟩ | ⟨hz22, hz22k, hz22m, v22, hv22, rfl⟩⟩ := hp22 z20 rfl
      · refine hA_if (zs_ifne em18_25 (t := 29) (by decide)) (fun (c25 : ¬ z22.toInt = 0) => ?_) (fun (c25 : ¬ ¬ z22.toInt = 0) => ?_)
        · exfalso
          omega
        · refine hA_return ⟨rfl, em18_28⟩ ⟨Nat.le_refl _, Nat.le_refl _⟩ ?_
          exact pLaw (h4 := by omega) (pFr_at hG0 (by omega) (by omega))
      · rw [zf_same] at hz22k hz22m hv22
        rw [zv_fld _ _ _ _ _ (by decide)] at hz22k
        refine hA_if (zs_ifne em18_25 (t := 29) (by decide)) (fun (c25' : ¬ z22.toInt = 0) => ?_) (fun (c25' : ¬ ¬ z22.toInt = 0) => ?_)
        · refine hA_const (k := 0) (zs_iconst (v := 0) em18_29 (by decide +kernel)) (by decide +kernel) (fun z29 hz29 => ?_)
          refine hA_istore (L' := [some (.inr (.inl (some 12))), some (.inl x1), some (.inl z4), some (.inl z29), none]) (zs_istore_n em18_30) ⟨Nat.le_of_ble_eq_true rfl, rfl⟩ rfl ?_
          exact loop _ (zupd (zupd I 2 v13) 2 v22) (pFr_at (pFr_at hG0 (by omega) (by omega)) (by omega) (by omega)) z4 (by omega) (by omega) z29 (by omega) (by omega) rfl
        · exfalso
          omega
