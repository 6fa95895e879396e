theorem em17_0 : decode prog_4_method_7_code 0 = .ok (.aload_n 0, 1) := by decide +kernel
theorem em17_1 : decode prog_4_method_7_code 1 = .ok (.getfield 12, 3) := by decide +kernel
theorem em17_4 : decode prog_4_method_7_code 4 = .ok (.getfield 86, 3) := by decide +kernel
theorem em17_7 : decode prog_4_method_7_code 7 = .ok (.iconst 5, 1) := by decide +kernel
theorem em17_8 : decode prog_4_method_7_code 8 = .ok (.if_icmp .lt 10, 3) := by decide +kernel
theorem em17_11 : decode prog_4_method_7_code 11 = .ok (.aload_n 0, 1) := by decide +kernel
theorem em17_12 : decode prog_4_method_7_code 12 = .ok (.iconst 2, 1) := by decide +kernel
theorem em17_13 : decode prog_4_method_7_code 13 = .ok (.invokevirtual 70, 3) := by decide +kernel
theorem em17_16 : decode prog_4_method_7_code 16 = .ok (.pop, 1) := by decide +kernel
theorem em17_17 : decode prog_4_method_7_code 17 = .ok (.return_, 1) := by decide +kernel
theorem em17_18 : decode prog_4_method_7_code 18 = .ok (.aload_n 0, 1) := by decide +kernel
theorem em17_19 : decode prog_4_method_7_code 19 = .ok (.getfield 40, 3) := by decide +kernel
theorem em17_22 : decode prog_4_method_7_code 22 = .ok (.istore_n 1, 1) := by decide +kernel
theorem em17_23 : decode prog_4_method_7_code 23 = .ok (.aload_n 0, 1) := by decide +kernel
theorem em17_24 : decode prog_4_method_7_code 24 = .ok (.sipush 128, 3) := by decide +kernel
theorem em17_27 : decode prog_4_method_7_code 27 = .ok (.invokevirtual 89, 3) := by decide +kernel
theorem em17_30 : decode prog_4_method_7_code 30 = .ok (.ifCond .eq 28, 3) := by decide +kernel
theorem em17_33 : decode prog_4_method_7_code 33 = .ok (.aload_n 0, 1) := by decide +kernel
theorem em17_34 : decode prog_4_method_7_code 34 = .ok (.iconst 2, 1) := by decide +kernel
theorem em17_35 : decode prog_4_method_7_code 35 = .ok (.invokevirtual 89, 3) := by decide +kernel
theorem em17_38 : decode prog_4_method_7_code 38 = .ok (.ifCond .eq 20, 3) := by decide +kernel
theorem em17_41 : decode prog_4_method_7_code 41 = .ok (.aload_n 0, 1) := by decide +kernel
theorem em17_42 : decode prog_4_method_7_code 42 = .ok (.iconst 2, 1) := by decide +kernel
theorem em17_43 : decode prog_4_method_7_code 43 = .ok (.invokevirtual 89, 3) := by decide +kernel
theorem em17_46 : decode prog_4_method_7_code 46 = .ok (.ifCond .eq 12, 3) := by decide +kernel
theorem em17_49 : decode prog_4_method_7_code 49 = .ok (.aload_n 0, 1) := by decide +kernel
theorem em17_50 : decode prog_4_method_7_code 50 = .ok (.bipush 59, 2) := by decide +kernel
theorem em17_52 : decode prog_4_method_7_code 52 = .ok (.invokevirtual 89, 3) := by decide +kernel
theorem em17_55 : decode prog_4_method_7_code 55 = .ok (.ifCond .ne 4, 3) := by decide +kernel
theorem em17_58 : decode prog_4_method_7_code 58 = .ok (.return_, 1) := by decide +kernel
theorem em17_59 : decode prog_4_method_7_code 59 = .ok (.aload_n 0, 1) := by decide +kernel
theorem em17_60 : decode prog_4_method_7_code 60 = .ok (.iload_n 1, 1) := by decide +kernel
theorem em17_61 : decode prog_4_method_7_code 61 = .ok (.iconst 1, 1) := by decide +kernel
theorem em17_62 : decode prog_4_method_7_code 62 = .ok (.iadd, 1) := by decide +kernel
theorem em17_63 : decode prog_4_method_7_code 63 = .ok (.invokevirtual 92, 3) := by decide +kernel
theorem em17_66 : decode prog_4_method_7_code 66 = .ok (.aload_n 0, 1) := by decide +kernel
theorem em17_67 : decode prog_4_method_7_code 67 = .ok (.aload_n 0, 1) := by decide +kernel
theorem em17_68 : decode prog_4_method_7_code 68 = .ok (.iload_n 1, 1) := by decide +kernel
theorem em17_69 : decode prog_4_method_7_code 69 = .ok (.iconst 2, 1) := by decide +kernel
theorem em17_70 : decode prog_4_method_7_code 70 = .ok (.iadd, 1) := by decide +kernel
theorem em17_71 : decode prog_4_method_7_code 71 = .ok (.invokevirtual 95, 3) := by decide +kernel
theorem em17_74 : decode prog_4_method_7_code 74 = .ok (.ifCond .ne 7, 3) := by decide +kernel
theorem em17_77 : decode prog_4_method_7_code 77 = .ok (.iconst 1, 1) := by decide +kernel
theorem em17_78 : decode prog_4_method_7_code 78 = .ok (.goto 4, 3) := by decide +kernel
theorem em17_81 : decode prog_4_method_7_code 81 = .ok (.iconst 0, 1) := by decide +kernel
theorem em17_82 : decode prog_4_method_7_code 82 = .ok (.bipush 6, 2) := by decide +kernel
theorem em17_84 : decode prog_4_method_7_code 84 = .ok (.iload_n 1, 1) := by decide +kernel
theorem em17_85 : decode prog_4_method_7_code 85 = .ok (.iconst 2, 1) := by decide +kernel
theorem em17_86 : decode prog_4_method_7_code 86 = .ok (.iadd, 1) := by decide +kernel
theorem em17_87 : decode prog_4_method_7_code 87 = .ok (.invokevirtual 98, 3) := by decide +kernel
theorem em17_90 : decode prog_4_method_7_code 90 = .ok (.iconst 0, 1) := by decide +kernel
theorem em17_91 : decode prog_4_method_7_code 91 = .ok (.istore_n 2, 1) := by decide +kernel
theorem em17_92 : decode prog_4_method_7_code 92 = .ok (.iload_n 2, 1) := by decide +kernel
theorem em17_93 : decode prog_4_method_7_code 93 = .ok (.aload_n 0, 1) := by decide +kernel
theorem em17_94 : decode prog_4_method_7_code 94 = .ok (.getfield 21, 3) := by decide +kernel
theorem em17_97 : decode prog_4_method_7_code 97 = .ok (.getfield 102, 3) := by decide +kernel
theorem em17_100 : decode prog_4_method_7_code 100 = .ok (.iload_n 1, 1) := by decide +kernel
theorem em17_101 : decode prog_4_method_7_code 101 = .ok (.iconst 2, 1) := by decide +kernel
theorem em17_102 : decode prog_4_method_7_code 102 = .ok (.iadd, 1) := by decide +kernel
theorem em17_103 : decode prog_4_method_7_code 103 = .ok (.iaload, 1) := by decide +kernel
theorem em17_104 : decode prog_4_method_7_code 104 = .ok (.if_icmp .ge 52, 3) := by decide +kernel
theorem em17_107 : decode prog_4_method_7_code 107 = .ok (.aload_n 0, 1) := by decide +kernel
theorem em17_108 : decode prog_4_method_7_code 108 = .ok (.iload_n 1, 1) := by decide +kernel
theorem em17_109 : decode prog_4_method_7_code 109 = .ok (.iconst 2, 1) := by decide +kernel
theorem em17_110 : decode prog_4_method_7_code 110 = .ok (.iadd, 1) := by decide +kernel
theorem em17_111 : decode prog_4_method_7_code 111 = .ok (.iload_n 2, 1) := by decide +kernel
theorem em17_112 : decode prog_4_method_7_code 112 = .ok (.invokevirtual 105, 3) := by decide +kernel
theorem em17_115 : decode prog_4_method_7_code 115 = .ok (.istore_n 3, 1) := by decide +kernel
theorem em17_116 : decode prog_4_method_7_code 116 = .ok (.iload_n 3, 1) := by decide +kernel
theorem em17_117 : decode prog_4_method_7_code 117 = .ok (.ifCond .lt 33, 3) := by decide +kernel
theorem em17_120 : decode prog_4_method_7_code 120 = .ok (.iload_n 3, 1) := by decide +kernel
theorem em17_121 : decode prog_4_method_7_code 121 = .ok (.bipush 8, 2) := by decide +kernel
theorem em17_123 : decode prog_4_method_7_code 123 = .ok (.if_icmp .ge 27, 3) := by decide +kernel
theorem em17_126 : decode prog_4_method_7_code 126 = .ok (.aload_n 0, 1) := by decide +kernel
theorem em17_127 : decode prog_4_method_7_code 127 = .ok (.getfield 12, 3) := by decide +kernel
theorem em17_130 : decode prog_4_method_7_code 130 = .ok (.getfield 109, 3) := by decide +kernel
theorem em17_133 : decode prog_4_method_7_code 133 = .ok (.aload_n 0, 1) := by decide +kernel
theorem em17_134 : decode prog_4_method_7_code 134 = .ok (.getfield 12, 3) := by decide +kernel
theorem em17_137 : decode prog_4_method_7_code 137 = .ok (.getfield 86, 3) := by decide +kernel
theorem em17_140 : decode prog_4_method_7_code 140 = .ok (.bipush 8, 2) := by decide +kernel
theorem em17_142 : decode prog_4_method_7_code 142 = .ok (.imul, 1) := by decide +kernel
theorem em17_143 : decode prog_4_method_7_code 143 = .ok (.iload_n 3, 1) := by decide +kernel
theorem em17_144 : decode prog_4_method_7_code 144 = .ok (.iadd, 1) := by decide +kernel
theorem em17_145 : decode prog_4_method_7_code 145 = .ok (.dup2, 1) := by decide +kernel
theorem em17_146 : decode prog_4_method_7_code 146 = .ok (.iaload, 1) := by decide +kernel
theorem em17_147 : decode prog_4_method_7_code 147 = .ok (.iconst 1, 1) := by decide +kernel
theorem em17_148 : decode prog_4_method_7_code 148 = .ok (.iadd, 1) := by decide +kernel
theorem em17_149 : decode prog_4_method_7_code 149 = .ok (.iastore, 1) := by decide +kernel
theorem em17_150 : decode prog_4_method_7_code 150 = .ok (.iinc 2 1, 3) := by decide +kernel
theorem em17_153 : decode prog_4_method_7_code 153 = .ok (.goto (-61), 3) := by decide +kernel
theorem em17_156 : decode prog_4_method_7_code 156 = .ok (.aload_n 0, 1) := by decide +kernel
theorem em17_157 : decode prog_4_method_7_code 157 = .ok (.getfield 12, 3) := by decide +kernel
theorem em17_160 : decode prog_4_method_7_code 160 = .ok (.dup, 1) := by decide +kernel
theorem em17_161 : decode prog_4_method_7_code 161 = .ok (.getfield 86, 3) := by decide +kernel
theorem em17_164 : decode prog_4_method_7_code 164 = .ok (.iconst 1, 1) := by decide +kernel
theorem em17_165 : decode prog_4_method_7_code 165 = .ok (.iadd, 1) := by decide +kernel
theorem em17_166 : decode prog_4_method_7_code 166 = .ok (.putfield 86, 3) := by decide +kernel
theorem em17_169 : decode prog_4_method_7_code 169 = .ok (.return_, 1) := by decide +kernel
set_option maxRecDepth 10000 in
set_option maxHeartbeats 4000000 in
theorem hM_17 : zOKh 17 zc_17 := by
  intro d hc as I q h hq
  obtain ⟨hd, ⟨_, _, rfl, rfl, rfl⟩, hF, hI⟩ := h
  have hd : 12 ≤ d + 1 := hd
  have hf2 : (0 : Int) ≤ zf I 2 ∧ zf I 2 ≤ (400 : Int) := hF _ List.mem_cons_self
  have hf3 : (0 : Int) ≤ zf I 3 ∧ zf I 3 ≤ (12 : Int) := hF _ (List.mem_cons_of_mem _ List.mem_cons_self)
  have hf5 : (0 : Int) ≤ zf I 5 ∧ zf I 5 ≤ (5 : Int) := hF _ (List.mem_cons_of_mem _ (List.mem_cons_of_mem _ List.mem_cons_self))
  have hInv : zInv I := hI rfl
  cases (show some _ = some q from hq)
  have loop : ∀ (n : Nat) (IJ : zI) (hIJ : ∀ id, id ≠ 2 → id ≠ 3 → IJ id = I id) (hJ2 : 0 ≤ zf IJ 2 ∧ zf IJ 2 ≤ 400) (hJ3 : 0 ≤ zf IJ 3 ∧ zf IJ 3 ≤ 12) (hInvJ : zInv IJ) (fs : Int32) (hfs : 0 ≤ fs.toInt) (hfs2 : fs.toInt ≤ 396) (h5 : zf I 5 ≤ 4) (i : Int32) (hi : 0 ≤ i.toInt), (2001 - i.toInt).toNat = n → zAt zG0 PZ zbd zpre zpost (d, (zbd 17).1, (zbd 17).2) prog_4_method_7_code "CapitalCase$Parser" (zRet prog_4_method_7_code none (zbd 17) (fun r I' => aPost zInv zc_17 [.inr (.inl (some 12))] I r I')) 92 [some (.inr (.inl (some 12))), some (.inl fs), some (.inl i), none] [] IJ (0, 0) := by
    intro n
    induction n using Nat.strongRecOn with
    | ind n ih =>
      intro IJ hIJ hJ2 hJ3 hInvJ fs hfs hfs2 h5 i hi hn
      have hJ5 : zf IJ 5 = zf I 5 := by unfold zf; rw [hIJ 5 (by decide) (by decide)]
      have htk := tokP hInvJ (i := fs.toInt + 2) (by omega) (by omega)
      refine hA_iload (zs_iload_n em17_92) rfl ?_
      refine hA_aload (zs_aload_n em17_93) rfl ?_
      refine hA_getf2 (r := 23) (zs_getf (T := TX2) (M := 10) (ci := 2) (j := 1) em17_94 rfl inX2 (by decide) wd_283 ((congrFun xo_3 21).trans rfl)) ⟨_, rfl, rfl⟩ ?_
      refine hA_getf2 (r := 26) (zs_getf (T := TX7) (M := 3) (ci := 7) (j := 2) em17_97 rfl inX7 (by decide) wd_273 ((congrFun xo_3 102).trans rfl)) ⟨_, rfl, rfl⟩ ?_
      refine hA_iload (zs_iload_n em17_100) rfl ?_
      refine hA_const (k := 2) (zs_iconst (v := 2) em17_101 (by decide +kernel)) (by decide +kernel) (fun z101 hz101 => ?_)
      refine hA_add (zs_iadd em17_102) (by omega) (by omega) (fun z102 hz102 => ?_)
      refine hA_iald (kd := 26) (len := 401) (zs_iald em17_103) ⟨rfl, rfl, rfl⟩ (by omega) (by show _ < ((401 : Nat) : Int); omega) (fun z103 hz103 => ?_)
      rw [show z102.toInt = fs.toInt + 2 by omega] at hz103
      refine hA_icmp (zs_icmpge em17_104 (t := 156) (by decide)) (fun (c104 : z103.toInt ≤ i.toInt) => ?_) (fun (c104 : ¬ z103.toInt ≤ i.toInt) => ?_)
      · refine hA_aload (zs_aload_n em17_156) rfl ?_
        refine hA_getf2 (r := 13) (zs_getf (T := TX2) (M := 10) (ci := 2) (j := 0) em17_157 rfl inX2 (by decide) wd_281 ((congrFun xo_3 12).trans rfl)) ⟨_, rfl, rfl⟩ ?_
        refine hA_dup (zs_dup em17_160) rfl ?_
        refine hA_getf0 (id := 5) (zs_getf (T := TX6) (M := 15) (ci := 6) (j := 0) em17_161 rfl inX6 (by decide) wd_166 ((congrFun xo_3 86).trans rfl)) ⟨_, rfl, rfl⟩ (fun z161 hz161 => ?_)
        refine hA_const (k := 1) (zs_iconst (v := 1) em17_164 (by decide +kernel)) (by decide +kernel) (fun z164 hz164 => ?_)
        refine hA_add (zs_iadd em17_165) (by omega) (by omega) (fun z165 hz165 => ?_)
        refine hA_puti0 (id := 5) (zs_puti zInj0 (T := TX6) (M := 15) (ty := tyX6) (ci := 6) (j := 0) (kd := 0) em17_166 rfl inX6 tyX6_ok nmX6 (by decide) wd_166 (Or.inl ⟨rfl, rfl⟩) rfl ((congrFun xo_3 86).trans rfl)) ⟨_, rfl, rfl⟩ (fun h => by cases h) ?_
        refine hA_return ⟨rfl, em17_169⟩ ⟨Nat.le_refl _, Nat.le_refl _⟩ ?_
        exact ⟨⟨_, List.mem_cons_self, rfl, (hCh_cons (fun k hk => none_no hk) ⟨by rw [zf_ne (by decide)]; omega, by rw [zf_ne (by decide)]; omega⟩ (hCh_cons (fun k hk => none_no hk) ⟨by rw [zf_ne (by decide)]; omega, by rw [zf_ne (by decide)]; omega⟩ (hCh_cons (fun k hk => none_no hk) ⟨by rw [zf_same]; omega, by rw [zf_same]; omega⟩ hCh_nil))), (fun id hl hn => ((zupd_fr (fun e => by subst e; exact hn _ (List.mem_cons_of_mem _ (List.mem_cons_of_mem _ List.mem_cons_self)))).trans ((hIJ id (fun e => by subst e; exact hn _ List.mem_cons_self) (fun e => by subst e; exact hn _ (List.mem_cons_of_mem _ List.mem_cons_self)))))), (fun _ h => absurd h List.not_mem_nil)⟩, (fun _ => (zextp _ 5 _ rfl (by decide) hInvJ)), (fun _ id hid => ((zupd_hi (by decide) hid).trans ((hIJ id (by omega) (by omega)))))⟩
      · refine hA_aload (zs_aload_n em17_107) rfl ?_
        refine hA_iload (zs_iload_n em17_108) rfl ?_
        refine hA_const (k := 2) (zs_iconst (v := 2) em17_109 (by decide +kernel)) (by decide +kernel) (fun z109 hz109 => ?_)
        refine hA_add (zs_iadd em17_110) (by omega) (by omega) (fun z110 hz110 => ?_)
        refine hA_iload (zs_iload_n em17_111) rfl ?_
        refine hA_callV (as := [.inl z110, .inl i]) (rest := []) (B' := (0, 0)) (zs_invV (T := TX2) em17_112 zl_269 rfl wd_788 wd_790 wd_10 ((congrFun xo_3 105).trans rfl) xm_237) rfl ⟨_, rfl⟩ (Nat.le_of_ble_eq_true rfl) rfl ⟨Nat.zero_le _, Nat.zero_le _⟩ (hpre_of rfl (show hpr_269 d [.inr (.inl (some 12)), .inl z110, .inl i] IJ from ⟨by show 1 ≤ d; omega, z110, i, rfl, ⟨by omega, by omega, by omega, by rw [show z110.toInt = fs.toInt + 2 by omega]; omega, hInvJ⟩⟩)) (fun r112 I112 hp112 => ?_)
        replace hp112 : hpo_269 _ _ _ _ := hpost_of rfl hp112
        replace hp112 := hp112 z110 i rfl
        obtain ⟨z112, rfl, hz112l, hz112h, rfl⟩ := hp112
        refine hA_istore (L' := [some (.inr (.inl (some 12))), some (.inl fs), some (.inl i), some (.inl z112)]) (zs_istore_n em17_115) ⟨Nat.le_of_ble_eq_true rfl, rfl⟩ rfl ?_
        refine hA_iload (zs_iload_n em17_116) rfl ?_
        refine hA_if (zs_iflt em17_117 (t := 150) (by decide)) (fun (c117 : z112.toInt < 0) => ?_) (fun (c117 : ¬ z112.toInt < 0) => ?_)
        · refine hA_iinc (c := 1) (zs_iinc (k := 1) em17_150 (by decide +kernel)) (by decide +kernel) rfl ⟨Nat.le_of_ble_eq_true rfl, rfl⟩ (by omega) (by omega) (fun z150 hz150 => ?_)
          show zAt _ _ _ _ _ _ _ _ _ _ [some (.inr (.inl (some 12))), some (.inl fs), some (.inl z150), some (.inl z112)] _ _ _
          refine hA_goto (zs_goto em17_153 (t := 92) (by decide)) ?_
          refine hA_fg (L' := [some (.inr (.inl (some 12))), some (.inl fs), some (.inl z150), none]) (by repeat (first | exact trivial | refine And.intro rfl ?_)) ?_
          exact ih _ (by omega) IJ hIJ hJ2 hJ3 hInvJ fs hfs hfs2 h5 z150 (by omega) rfl
        · refine hA_iload (zs_iload_n em17_120) rfl ?_
          refine hA_const (k := 8) (zs_bipush (v := 8) em17_121 (by decide +kernel)) (by decide +kernel) (fun z121 hz121 => ?_)
          refine hA_icmp (zs_icmpge em17_123 (t := 150) (by decide)) (fun (c123 : z121.toInt ≤ z112.toInt) => ?_) (fun (c123 : ¬ z121.toInt ≤ z112.toInt) => ?_)
          · refine hA_iinc (c := 1) (zs_iinc (k := 1) em17_150 (by decide +kernel)) (by decide +kernel) rfl ⟨Nat.le_of_ble_eq_true rfl, rfl⟩ (by omega) (by omega) (fun z150' hz150' => ?_)
            show zAt _ _ _ _ _ _ _ _ _ _ [some (.inr (.inl (some 12))), some (.inl fs), some (.inl z150'), some (.inl z112)] _ _ _
            refine hA_goto (zs_goto em17_153 (t := 92) (by decide)) ?_
            refine hA_fg (L' := [some (.inr (.inl (some 12))), some (.inl fs), some (.inl z150'), none]) (by repeat (first | exact trivial | refine And.intro rfl ?_)) ?_
            exact ih _ (by omega) IJ hIJ hJ2 hJ3 hInvJ fs hfs hfs2 h5 z150' (by omega) rfl
          · refine hA_aload (zs_aload_n em17_126) rfl ?_
            refine hA_getf2 (r := 13) (zs_getf (T := TX2) (M := 10) (ci := 2) (j := 0) em17_127 rfl inX2 (by decide) wd_281 ((congrFun xo_3 12).trans rfl)) ⟨_, rfl, rfl⟩ ?_
            refine hA_getf2 (r := 14) (zs_getf (T := TX6) (M := 15) (ci := 6) (j := 5) em17_130 rfl inX6 (by decide) wd_186 ((congrFun xo_3 109).trans rfl)) ⟨_, rfl, rfl⟩ ?_
            refine hA_aload (zs_aload_n em17_133) rfl ?_
            refine hA_getf2 (r := 13) (zs_getf (T := TX2) (M := 10) (ci := 2) (j := 0) em17_134 rfl inX2 (by decide) wd_281 ((congrFun xo_3 12).trans rfl)) ⟨_, rfl, rfl⟩ ?_
            refine hA_getf0 (id := 5) (zs_getf (T := TX6) (M := 15) (ci := 6) (j := 0) em17_137 rfl inX6 (by decide) wd_166 ((congrFun xo_3 86).trans rfl)) ⟨_, rfl, rfl⟩ (fun z137 hz137 => ?_)
            refine hA_const (k := 8) (zs_bipush (v := 8) em17_140 (by decide +kernel)) (by decide +kernel) (fun z140 hz140 => ?_)
            refine hA_mulr (c := 8) (zs_imul em17_142) hz140 (by omega) (by omega) (fun z142 hz142 => ?_)
            refine hA_iload (zs_iload_n em17_143) rfl ?_
            refine hA_add (zs_iadd em17_144) (by omega) (by omega) (fun z144 hz144 => ?_)
            refine hA_dup2 (zs_dup2 em17_145) rfl rfl ?_
            refine hA_ialdH (kd := 14) (len := 40) (zs_iald em17_146) ⟨rfl, rfl, rfl⟩ (by omega) (by show _ < ((40 : Nat) : Int); omega) (fun z146 hz146 => ?_)
            refine hA_const (k := 1) (zs_iconst (v := 1) em17_147 (by decide +kernel)) (by decide +kernel) (fun z147 hz147 => ?_)
            refine hA_bin (zs_iadd em17_148) (fun z148 => ?_)
            refine hA_iastH (kd := 14) (len := 40) (zs_iast zInj0 em17_149) ⟨rfl, rfl, rfl⟩ (by omega) (by show _ < ((40 : Nat) : Int); omega) (eno rfl) ?_
            refine hA_iinc (c := 1) (zs_iinc (k := 1) em17_150 (by decide +kernel)) (by decide +kernel) rfl ⟨Nat.le_of_ble_eq_true rfl, rfl⟩ (by omega) (by omega) (fun z150'' hz150'' => ?_)
            show zAt _ _ _ _ _ _ _ _ _ _ [some (.inr (.inl (some 12))), some (.inl fs), some (.inl z150''), some (.inl z112)] _ _ _
            refine hA_goto (zs_goto em17_153 (t := 92) (by decide)) ?_
            refine hA_fg (L' := [some (.inr (.inl (some 12))), some (.inl fs), some (.inl z150''), none]) (by repeat (first | exact trivial | refine And.intro rfl ?_)) ?_
            exact ih _ (by omega) IJ hIJ hJ2 hJ3 hInvJ fs hfs hfs2 h5 z150'' (by omega) rfl
  refine hmet (L := [some (.inr (.inl (some 12))), none, none, none]) (by decide) (Nat.le_of_ble_eq_true rfl) hc rfl ?_
  refine hA_aload (zs_aload_n em17_0) rfl ?_
  refine hA_getf2 (r := 13) (zs_getf (T := TX2) (M := 10) (ci := 2) (j := 0) em17_1 rfl inX2 (by decide) wd_281 ((congrFun xo_3 12).trans rfl)) ⟨_, rfl, rfl⟩ ?_
  refine hA_getf0 (id := 5) (zs_getf (T := TX6) (M := 15) (ci := 6) (j := 0) em17_4 rfl inX6 (by decide) wd_166 ((congrFun xo_3 86).trans rfl)) ⟨_, rfl, rfl⟩ (fun z4 hz4 => ?_)
  refine hA_const (k := 5) (zs_iconst (v := 5) em17_7 (by decide +kernel)) (by decide +kernel) (fun z7 hz7 => ?_)
  refine hA_icmp (zs_icmplt em17_8 (t := 18) (by decide)) (fun (c8 : z4.toInt < z7.toInt) => ?_) (fun (c8 : ¬ z4.toInt < z7.toInt) => ?_)
  · refine hA_aload (zs_aload_n em17_18) rfl ?_
    refine hA_getf0 (id := 2) (zs_getf (T := TX2) (M := 10) (ci := 2) (j := 3) em17_19 rfl inX2 (by decide) wd_285 ((congrFun xo_3 40).trans rfl)) ⟨_, rfl, rfl⟩ (fun z19 hz19 => ?_)
    refine hA_istore (L' := [some (.inr (.inl (some 12))), some (.inl z19), none, none]) (zs_istore_n em17_22) ⟨Nat.le_of_ble_eq_true rfl, rfl⟩ rfl ?_
    refine hA_aload (zs_aload_n em17_23) rfl ?_
    refine hA_const (k := 128) (zs_sipush (v := 128) em17_24 (by decide +kernel)) (by decide +kernel) (fun z24 hz24 => ?_)
    refine hA_callV (as := [.inl z24]) (rest := []) (B' := (0, 0)) (zs_invV (T := TX2) em17_27 zl_284 rfl wd_768 wd_770 wd_5 ((congrFun xo_3 89).trans rfl) xm_9) rfl ⟨_, rfl⟩ (Nat.le_of_ble_eq_true rfl) rfl ⟨Nat.zero_le _, Nat.zero_le _⟩ (hpre_of rfl (show hpr_284 d _ _ from ⟨by show 3 ≤ d; omega, z24, rfl, ⟨by omega, by omega, hInv⟩⟩)) (fun r27 I27 hp27 => ?_)
    replace hp27 : hpo_284 _ _ _ _ := hpost_of rfl hp27
    obtain ⟨z27, rfl, ⟨hz27, rfl⟩ | ⟨hz27, hz27k, hz27m, v27, hv27, rfl⟩⟩ := hp27 z24 rfl
    · refine hA_if (zs_ifeq em17_30 (t := 58) (by decide)) (fun (c30 : z27.toInt = 0) => ?_) (fun (c30 : ¬ z27.toInt = 0) => ?_)
      · refine hA_return ⟨rfl, em17_58⟩ ⟨Nat.le_refl _, Nat.le_refl _⟩ ?_
        exact ⟨⟨_, List.mem_cons_self, rfl, (hCh_cons (fun k hk => none_no hk) ⟨by omega, by omega⟩ (hCh_cons (fun k hk => none_no hk) ⟨by omega, by omega⟩ (hCh_cons (fun k hk => none_no hk) ⟨by omega, by omega⟩ hCh_nil))), (fun id hl hn => rfl), (fun _ h => absurd h List.not_mem_nil)⟩, (fun _ => hInv), (fun _ id hid => rfl)⟩
      · exfalso
        omega
    · refine hA_if (zs_ifeq em17_30 (t := 58) (by decide)) (fun (c30' : z27.toInt = 0) => ?_) (fun (c30' : ¬ z27.toInt = 0) => ?_)
      · exfalso
        omega
      · refine hA_aload (zs_aload_n em17_33) rfl ?_
        refine hA_const (k := 2) (zs_iconst (v := 2) em17_34 (by decide +kernel)) (by decide +kernel) (fun z34 hz34 => ?_)
        refine hA_callV (as := [.inl z34]) (rest := []) (B' := (0, 0)) (zs_invV (T := TX2) em17_35 zl_284 rfl wd_768 wd_770 wd_5 ((congrFun xo_3 89).trans rfl) xm_9) rfl ⟨_, rfl⟩ (Nat.le_of_ble_eq_true rfl) rfl ⟨Nat.zero_le _, Nat.zero_le _⟩ (hpre_of rfl (show hpr_284 d _ _ from ⟨by show 3 ≤ d; omega, z34, rfl, ⟨by rw [zf_same]; omega, by rw [zf_same]; omega, (zextp _ 2 _ rfl (by decide) hInv)⟩⟩)) (fun r35 I35 hp35 => ?_)
        replace hp35 : hpo_284 _ _ _ _ := hpost_of rfl hp35
        obtain ⟨z35, rfl, ⟨hz35, rfl⟩ | ⟨hz35, hz35k, hz35m, v35, hv35, rfl⟩⟩ := hp35 z34 rfl
        · refine hA_if (zs_ifeq em17_38 (t := 58) (by decide)) (fun (c38 : z35.toInt = 0) => ?_) (fun (c38 : ¬ z35.toInt = 0) => ?_)
          · refine hA_return ⟨rfl, em17_58⟩ ⟨Nat.le_refl _, Nat.le_refl _⟩ ?_
            exact ⟨⟨_, List.mem_cons_self, rfl, (hCh_cons (fun k hk => none_no hk) ⟨by rw [zf_same]; omega, by rw [zf_same]; omega⟩ (hCh_cons (fun k hk => none_no hk) ⟨by rw [zf_ne (by decide)]; omega, by rw [zf_ne (by decide)]; omega⟩ (hCh_cons (fun k hk => none_no hk) ⟨by rw [zf_ne (by decide)]; omega, by rw [zf_ne (by decide)]; omega⟩ hCh_nil))), (fun id hl hn => ((zupd_fr (fun e => by subst e; exact hn _ List.mem_cons_self)).trans (rfl))), (fun _ h => absurd h List.not_mem_nil)⟩, (fun _ => (zextp _ 2 _ rfl (by decide) hInv)), (fun _ id hid => ((zupd_hi (by decide) hid).trans (rfl)))⟩
          · exfalso
            omega
        · rw [zf_same] at hz35k hz35m hv35
          rw [zv_fld _ _ _ _ _ (by decide)] at hz35k
          refine hA_if (zs_ifeq em17_38 (t := 58) (by decide)) (fun (c38' : z35.toInt = 0) => ?_) (fun (c38' : ¬ z35.toInt = 0) => ?_)
          · exfalso
            omega
          · refine hA_aload (zs_aload_n em17_41) rfl ?_
            refine hA_const (k := 2) (zs_iconst (v := 2) em17_42 (by decide +kernel)) (by decide +kernel) (fun z42 hz42 => ?_)
            refine hA_callV (as := [.inl z42]) (rest := []) (B' := (0, 0)) (zs_invV (T := TX2) em17_43 zl_284 rfl wd_768 wd_770 wd_5 ((congrFun xo_3 89).trans rfl) xm_9) rfl ⟨_, rfl⟩ (Nat.le_of_ble_eq_true rfl) rfl ⟨Nat.zero_le _, Nat.zero_le _⟩ (hpre_of rfl (show hpr_284 d _ _ from ⟨by show 3 ≤ d; omega, z42, rfl, ⟨by rw [zf_same]; omega, by rw [zf_same]; omega, (zextp _ 2 _ rfl (by decide) (zextp _ 2 _ rfl (by decide) hInv))⟩⟩)) (fun r43 I43 hp43 => ?_)
            replace hp43 : hpo_284 _ _ _ _ := hpost_of rfl hp43
            obtain ⟨z43, rfl, ⟨hz43, rfl⟩ | ⟨hz43, hz43k, hz43m, v43, hv43, rfl⟩⟩ := hp43 z42 rfl
            · refine hA_if (zs_ifeq em17_46 (t := 58) (by decide)) (fun (c46 : z43.toInt = 0) => ?_) (fun (c46 : ¬ z43.toInt = 0) => ?_)
              · refine hA_return ⟨rfl, em17_58⟩ ⟨Nat.le_refl _, Nat.le_refl _⟩ ?_
                exact ⟨⟨_, List.mem_cons_self, rfl, (hCh_cons (fun k hk => none_no hk) ⟨by rw [zf_same]; omega, by rw [zf_same]; omega⟩ (hCh_cons (fun k hk => none_no hk) ⟨by rw [zf_ne (by decide), zf_ne (by decide)]; omega, by rw [zf_ne (by decide), zf_ne (by decide)]; omega⟩ (hCh_cons (fun k hk => none_no hk) ⟨by rw [zf_ne (by decide), zf_ne (by decide)]; omega, by rw [zf_ne (by decide), zf_ne (by decide)]; omega⟩ hCh_nil))), (fun id hl hn => ((zupd_fr (fun e => by subst e; exact hn _ List.mem_cons_self)).trans (((zupd_fr (fun e => by subst e; exact hn _ List.mem_cons_self)).trans (rfl))))), (fun _ h => absurd h List.not_mem_nil)⟩, (fun _ => (zextp _ 2 _ rfl (by decide) (zextp _ 2 _ rfl (by decide) hInv))), (fun _ id hid => ((zupd_hi (by decide) hid).trans (((zupd_hi (by decide) hid).trans (rfl)))))⟩
              · exfalso
                omega
            · rw [zf_same] at hz43k hz43m hv43
              rw [zv_fld _ _ _ _ _ (by decide), zv_fld _ _ _ _ _ (by decide)] at hz43k
              refine hA_if (zs_ifeq em17_46 (t := 58) (by decide)) (fun (c46' : z43.toInt = 0) => ?_) (fun (c46' : ¬ z43.toInt = 0) => ?_)
              · exfalso
                omega
              · refine hA_aload (zs_aload_n em17_49) rfl ?_
                refine hA_const (k := 59) (zs_bipush (v := 59) em17_50 (by decide +kernel)) (by decide +kernel) (fun z50 hz50 => ?_)
                refine hA_callV (as := [.inl z50]) (rest := []) (B' := (0, 0)) (zs_invV (T := TX2) em17_52 zl_284 rfl wd_768 wd_770 wd_5 ((congrFun xo_3 89).trans rfl) xm_9) rfl ⟨_, rfl⟩ (Nat.le_of_ble_eq_true rfl) rfl ⟨Nat.zero_le _, Nat.zero_le _⟩ (hpre_of rfl (show hpr_284 d _ _ from ⟨by show 3 ≤ d; omega, z50, rfl, ⟨by rw [zf_same]; omega, by rw [zf_same]; omega, (zextp _ 2 _ rfl (by decide) (zextp _ 2 _ rfl (by decide) (zextp _ 2 _ rfl (by decide) hInv)))⟩⟩)) (fun r52 I52 hp52 => ?_)
                replace hp52 : hpo_284 _ _ _ _ := hpost_of rfl hp52
                obtain ⟨z52, rfl, ⟨hz52, rfl⟩ | ⟨hz52, hz52k, hz52m, v52, hv52, rfl⟩⟩ := hp52 z50 rfl
                · refine hA_if (zs_ifne em17_55 (t := 59) (by decide)) (fun (c55 : ¬ z52.toInt = 0) => ?_) (fun (c55 : ¬ ¬ z52.toInt = 0) => ?_)
                  · exfalso
                    omega
                  · refine hA_return ⟨rfl, em17_58⟩ ⟨Nat.le_refl _, Nat.le_refl _⟩ ?_
                    exact ⟨⟨_, List.mem_cons_self, rfl, (hCh_cons (fun k hk => none_no hk) ⟨by rw [zf_same]; omega, by rw [zf_same]; omega⟩ (hCh_cons (fun k hk => none_no hk) ⟨by rw [zf_ne (by decide), zf_ne (by decide), zf_ne (by decide)]; omega, by rw [zf_ne (by decide), zf_ne (by decide), zf_ne (by decide)]; omega⟩ (hCh_cons (fun k hk => none_no hk) ⟨by rw [zf_ne (by decide), zf_ne (by decide), zf_ne (by decide)]; omega, by rw [zf_ne (by decide), zf_ne (by decide), zf_ne (by decide)]; omega⟩ hCh_nil))), (fun id hl hn => ((zupd_fr (fun e => by subst e; exact hn _ List.mem_cons_self)).trans (((zupd_fr (fun e => by subst e; exact hn _ List.mem_cons_self)).trans (((zupd_fr (fun e => by subst e; exact hn _ List.mem_cons_self)).trans (rfl))))))), (fun _ h => absurd h List.not_mem_nil)⟩, (fun _ => (zextp _ 2 _ rfl (by decide) (zextp _ 2 _ rfl (by decide) (zextp _ 2 _ rfl (by decide) hInv)))), (fun _ id hid => ((zupd_hi (by decide) hid).trans (((zupd_hi (by decide) hid).trans (((zupd_hi (by decide) hid).trans (rfl)))))))⟩
                · rw [zf_same] at hz52k hz52m hv52
                  rw [zv_fld _ _ _ _ _ (by decide), zv_fld _ _ _ _ _ (by decide), zv_fld _ _ _ _ _ (by decide)] at hz52k
                  refine hA_if (zs_ifne em17_55 (t := 59) (by decide)) (fun (c55' : ¬ z52.toInt = 0) => ?_) (fun (c55' : ¬ ¬ z52.toInt = 0) => ?_)
                  · refine hA_aload (zs_aload_n em17_59) rfl ?_
                    refine hA_iload (zs_iload_n em17_60) rfl ?_
                    refine hA_const (k := 1) (zs_iconst (v := 1) em17_61 (by decide +kernel)) (by decide +kernel) (fun z61 hz61 => ?_)
                    refine hA_add (zs_iadd em17_62) (by omega) (by omega) (fun z62 hz62 => ?_)
                    refine hA_callV (as := [.inl z62]) (rest := []) (B' := (0, 0)) (zs_invV (T := TX2) em17_63 zl_15 rfl wd_772 wd_774 wd_6 ((congrFun xo_3 92).trans rfl) xm_15) rfl ⟨_, rfl⟩ (Nat.le_of_ble_eq_true rfl) rfl ⟨Nat.zero_le _, Nat.zero_le _⟩ (zpre_of zh_15 ⟨(by show 7 ≤ d; omega), ⟨_, _, rfl, rfl, ⟨_, _, rfl, ⟨_, rfl, show (0 : Int) ≤ z62.toInt by omega, show z62.toInt ≤ (400 : Int) by omega⟩, rfl⟩⟩, (hF_cons (lo := 0) (hi := 12) ⟨by rw [zf_ne (by decide), zf_ne (by decide), zf_ne (by decide), zf_ne (by decide)]; omega, by rw [zf_ne (by decide), zf_ne (by decide), zf_ne (by decide), zf_ne (by decide)]; omega⟩ hF_nil), fun _ => (zextp _ 2 _ rfl (by decide) (zextp _ 2 _ rfl (by decide) (zextp _ 2 _ rfl (by decide) (zextp _ 2 _ rfl (by decide) hInv))))⟩) (fun r63 I63 hp63 => ?_)
                    replace hp63 := zpost_of zh_15 hp63
                    rcases zq_15 hp63 with ⟨v63_3, rfl, rfl, hv63_3e, hv63_3l, hv63_3h, hInv63⟩ | ⟨v63_3', rfl, rfl, hv63_3'e, hv63_3'l, hv63_3'h, hInv63⟩
                    · rw [zf_ne (by decide), zf_ne (by decide), zf_ne (by decide), zf_ne (by decide)] at hv63_3e
                      refine hA_aload (zs_aload_n em17_66) rfl ?_
                      refine hA_aload (zs_aload_n em17_67) rfl ?_
                      refine hA_iload (zs_iload_n em17_68) rfl ?_
                      refine hA_const (k := 2) (zs_iconst (v := 2) em17_69 (by decide +kernel)) (by decide +kernel) (fun z69 hz69 => ?_)
                      refine hA_add (zs_iadd em17_70) (by omega) (by omega) (fun z70 hz70 => ?_)
                      refine hA_callV (as := [.inl z70]) (rest := [.inr (.inl (some 12))]) (B' := (0, 0)) (zs_invV (T := TX2) em17_71 zl_270 rfl wd_784 wd_786 wd_9 ((congrFun xo_3 95).trans rfl) xm_238) rfl ⟨_, rfl⟩ (Nat.le_of_ble_eq_true rfl) rfl ⟨Nat.zero_le _, Nat.zero_le _⟩ (hpre_of rfl (show hpr_270 d [.inr (.inl (some 12)), .inl z70] (zupd (zupd (zupd (zupd (zupd I 2 v27) 2 v35) 2 v43) 2 v52) 3 v63_3) from ⟨by show 2 ≤ d; omega, z70, rfl, ⟨by omega, by omega, (zextp _ 3 _ rfl (by decide) (zextp _ 2 _ rfl (by decide) (zextp _ 2 _ rfl (by decide) (zextp _ 2 _ rfl (by decide) (zextp _ 2 _ rfl (by decide) hInv)))))⟩⟩)) (fun r71 I71 hp71 => ?_)
                      replace hp71 : hpo_270 _ _ _ _ := hpost_of rfl hp71
                      replace hp71 := hp71 z70 rfl
                      obtain ⟨z71, rfl, hz71l, hz71h, rfl⟩ := hp71
                      refine hA_if (zs_ifne em17_74 (t := 81) (by decide)) (fun (c74 : ¬ z71.toInt = 0) => ?_) (fun (c74 : ¬ ¬ z71.toInt = 0) => ?_)
                      · refine hA_const (k := 0) (zs_iconst (v := 0) em17_81 (by decide +kernel)) (by decide +kernel) (fun z81 hz81 => ?_)
                        refine hA_const (k := 6) (zs_bipush (v := 6) em17_82 (by decide +kernel)) (by decide +kernel) (fun z82 hz82 => ?_)
                        refine hA_iload (zs_iload_n em17_84) rfl ?_
                        refine hA_const (k := 2) (zs_iconst (v := 2) em17_85 (by decide +kernel)) (by decide +kernel) (fun z85 hz85 => ?_)
                        refine hA_add (zs_iadd em17_86) (by omega) (by omega) (fun z86 hz86 => ?_)
                        refine hA_callV (as := [.inl z81, .inl z82, .inl z86]) (rest := []) (B' := (0, 0)) (zs_invV (T := TX2) em17_87 zl_14 rfl wd_780 wd_782 wd_8 ((congrFun xo_3 98).trans rfl) xm_14) rfl ⟨_, rfl⟩ (Nat.le_of_ble_eq_true rfl) rfl ⟨Nat.zero_le _, Nat.zero_le _⟩ (zpre_of zh_14 ⟨(by show 1 ≤ d; omega), ⟨_, _, rfl, rfl, ⟨_, _, rfl, ⟨_, rfl, show (0 : Int) ≤ z81.toInt by omega, show z81.toInt ≤ (1 : Int) by omega⟩, ⟨_, _, rfl, ⟨_, rfl, show (1 : Int) ≤ z82.toInt by omega, show z82.toInt ≤ (6 : Int) by omega⟩, ⟨_, _, rfl, ⟨_, rfl, show (0 : Int) ≤ z86.toInt by omega, show z86.toInt ≤ (400 : Int) by omega⟩, rfl⟩⟩⟩⟩, hF_nil, fun _ => (zextp _ 3 _ rfl (by decide) (zextp _ 2 _ rfl (by decide) (zextp _ 2 _ rfl (by decide) (zextp _ 2 _ rfl (by decide) (zextp _ 2 _ rfl (by decide) hInv)))))⟩) (fun r87 I87 hp87 => ?_)
                        replace hp87 := zpost_of zh_14 hp87
                        obtain ⟨rfl, rfl, hInv87⟩ := zq_14 hp87
                        refine hA_const (k := 0) (zs_iconst (v := 0) em17_90 (by decide +kernel)) (by decide +kernel) (fun z90 hz90 => ?_)
                        refine hA_istore (L' := [some (.inr (.inl (some 12))), some (.inl z19), some (.inl z90), none]) (zs_istore_n em17_91) ⟨Nat.le_of_ble_eq_true rfl, rfl⟩ rfl ?_
                        exact loop _ (zupd (zupd (zupd (zupd (zupd I 2 v27) 2 v35) 2 v43) 2 v52) 3 v63_3) (fun id h2 h3 => ((zupd_fr h3).trans (((zupd_fr h2).trans (((zupd_fr h2).trans (((zupd_fr h2).trans (((zupd_fr h2).trans (rfl))))))))))) ⟨by rw [zf_ne (by decide), zf_same]; omega, by rw [zf_ne (by decide), zf_same]; omega⟩ ⟨by rw [zf_same]; omega, by rw [zf_same]; omega⟩ (zextp _ 3 _ rfl (by decide) (zextp _ 2 _ rfl (by decide) (zextp _ 2 _ rfl (by decide) (zextp _ 2 _ rfl (by decide) (zextp _ 2 _ rfl (by decide) hInv))))) z19 (by omega) (by omega) (by omega) z90 (by omega) rfl
                      · refine hA_const (k := 1) (zs_iconst (v := 1) em17_77 (by decide +kernel)) (by decide +kernel) (fun z77 hz77 => ?_)
                        refine hA_goto (zs_goto em17_78 (t := 82) (by decide)) ?_
                        refine hA_const (k := 6) (zs_bipush (v := 6) em17_82 (by decide +kernel)) (by decide +kernel) (fun z82' hz82' => ?_)
                        refine hA_iload (zs_iload_n em17_84) rfl ?_
                        refine hA_const (k := 2) (zs_iconst (v := 2) em17_85 (by decide +kernel)) (by decide +kernel) (fun z85' hz85' => ?_)
                        refine hA_add (zs_iadd em17_86) (by omega) (by omega) (fun z86' hz86' => ?_)
                        refine hA_callV (as := [.inl z77, .inl z82', .inl z86']) (rest := []) (B' := (0, 0)) (zs_invV (T := TX2) em17_87 zl_14 rfl wd_780 wd_782 wd_8 ((congrFun xo_3 98).trans rfl) xm_14) rfl ⟨_, rfl⟩ (Nat.le_of_ble_eq_true rfl) rfl ⟨Nat.zero_le _, Nat.zero_le _⟩ (zpre_of zh_14 ⟨(by show 1 ≤ d; omega), ⟨_, _, rfl, rfl, ⟨_, _, rfl, ⟨_, rfl, show (0 : Int) ≤ z77.toInt by omega, show z77.toInt ≤ (1 : Int) by omega⟩, ⟨_, _, rfl, ⟨_, rfl, show (1 : Int) ≤ z82'.toInt by omega, show z82'.toInt ≤ (6 : Int) by omega⟩, ⟨_, _, rfl, ⟨_, rfl, show (0 : Int) ≤ z86'.toInt by omega, show z86'.toInt ≤ (400 : Int) by omega⟩, rfl⟩⟩⟩⟩, hF_nil, fun _ => (zextp _ 3 _ rfl (by decide) (zextp _ 2 _ rfl (by decide) (zextp _ 2 _ rfl (by decide) (zextp _ 2 _ rfl (by decide) (zextp _ 2 _ rfl (by decide) hInv)))))⟩) (fun r87 I87 hp87 => ?_)
                        replace hp87 := zpost_of zh_14 hp87
                        obtain ⟨rfl, rfl, hInv87⟩ := zq_14 hp87
                        refine hA_const (k := 0) (zs_iconst (v := 0) em17_90 (by decide +kernel)) (by decide +kernel) (fun z90' hz90' => ?_)
                        refine hA_istore (L' := [some (.inr (.inl (some 12))), some (.inl z19), some (.inl z90'), none]) (zs_istore_n em17_91) ⟨Nat.le_of_ble_eq_true rfl, rfl⟩ rfl ?_
                        exact loop _ (zupd (zupd (zupd (zupd (zupd I 2 v27) 2 v35) 2 v43) 2 v52) 3 v63_3) (fun id h2 h3 => ((zupd_fr h3).trans (((zupd_fr h2).trans (((zupd_fr h2).trans (((zupd_fr h2).trans (((zupd_fr h2).trans (rfl))))))))))) ⟨by rw [zf_ne (by decide), zf_same]; omega, by rw [zf_ne (by decide), zf_same]; omega⟩ ⟨by rw [zf_same]; omega, by rw [zf_same]; omega⟩ (zextp _ 3 _ rfl (by decide) (zextp _ 2 _ rfl (by decide) (zextp _ 2 _ rfl (by decide) (zextp _ 2 _ rfl (by decide) (zextp _ 2 _ rfl (by decide) hInv))))) z19 (by omega) (by omega) (by omega) z90' (by omega) rfl
                    · rw [zf_ne (by decide), zf_ne (by decide), zf_ne (by decide), zf_ne (by decide)] at hv63_3'e
                      refine hA_aload (zs_aload_n em17_66) rfl ?_
                      refine hA_aload (zs_aload_n em17_67) rfl ?_
                      refine hA_iload (zs_iload_n em17_68) rfl ?_
                      refine hA_const (k := 2) (zs_iconst (v := 2) em17_69 (by decide +kernel)) (by decide +kernel) (fun z69' hz69' => ?_)
                      refine hA_add (zs_iadd em17_70) (by omega) (by omega) (fun z70' hz70' => ?_)
                      refine hA_callV (as := [.inl z70']) (rest := [.inr (.inl (some 12))]) (B' := (0, 0)) (zs_invV (T := TX2) em17_71 zl_270 rfl wd_784 wd_786 wd_9 ((congrFun xo_3 95).trans rfl) xm_238) rfl ⟨_, rfl⟩ (Nat.le_of_ble_eq_true rfl) rfl ⟨Nat.zero_le _, Nat.zero_le _⟩ (hpre_of rfl (show hpr_270 d [.inr (.inl (some 12)), .inl z70'] (zupd (zupd (zupd (zupd (zupd I 2 v27) 2 v35) 2 v43) 2 v52) 3 v63_3') from ⟨by show 2 ≤ d; omega, z70', rfl, ⟨by omega, by omega, (zextp _ 3 _ rfl (by decide) (zextp _ 2 _ rfl (by decide) (zextp _ 2 _ rfl (by decide) (zextp _ 2 _ rfl (by decide) (zextp _ 2 _ rfl (by decide) hInv)))))⟩⟩)) (fun r71 I71 hp71 => ?_)
                      replace hp71 : hpo_270 _ _ _ _ := hpost_of rfl hp71
                      replace hp71 := hp71 z70' rfl
                      obtain ⟨z71', rfl, hz71'l, hz71'h, rfl⟩ := hp71
                      refine hA_if (zs_ifne em17_74 (t := 81) (by decide)) (fun (c74' : ¬ z71'.toInt = 0) => ?_) (fun (c74' : ¬ ¬ z71'.toInt = 0) => ?_)
                      · refine hA_const (k := 0) (zs_iconst (v := 0) em17_81 (by decide +kernel)) (by decide +kernel) (fun z81' hz81' => ?_)
                        refine hA_const (k := 6) (zs_bipush (v := 6) em17_82 (by decide +kernel)) (by decide +kernel) (fun z82'' hz82'' => ?_)
                        refine hA_iload (zs_iload_n em17_84) rfl ?_
                        refine hA_const (k := 2) (zs_iconst (v := 2) em17_85 (by decide +kernel)) (by decide +kernel) (fun z85'' hz85'' => ?_)
                        refine hA_add (zs_iadd em17_86) (by omega) (by omega) (fun z86'' hz86'' => ?_)
                        refine hA_callV (as := [.inl z81', .inl z82'', .inl z86'']) (rest := []) (B' := (0, 0)) (zs_invV (T := TX2) em17_87 zl_14 rfl wd_780 wd_782 wd_8 ((congrFun xo_3 98).trans rfl) xm_14) rfl ⟨_, rfl⟩ (Nat.le_of_ble_eq_true rfl) rfl ⟨Nat.zero_le _, Nat.zero_le _⟩ (zpre_of zh_14 ⟨(by show 1 ≤ d; omega), ⟨_, _, rfl, rfl, ⟨_, _, rfl, ⟨_, rfl, show (0 : Int) ≤ z81'.toInt by omega, show z81'.toInt ≤ (1 : Int) by omega⟩, ⟨_, _, rfl, ⟨_, rfl, show (1 : Int) ≤ z82''.toInt by omega, show z82''.toInt ≤ (6 : Int) by omega⟩, ⟨_, _, rfl, ⟨_, rfl, show (0 : Int) ≤ z86''.toInt by omega, show z86''.toInt ≤ (400 : Int) by omega⟩, rfl⟩⟩⟩⟩, hF_nil, fun _ => (zextp _ 3 _ rfl (by decide) (zextp _ 2 _ rfl (by decide) (zextp _ 2 _ rfl (by decide) (zextp _ 2 _ rfl (by decide) (zextp _ 2 _ rfl (by decide) hInv)))))⟩) (fun r87 I87 hp87 => ?_)
                        replace hp87 := zpost_of zh_14 hp87
                        obtain ⟨rfl, rfl, hInv87⟩ := zq_14 hp87
                        refine hA_const (k := 0) (zs_iconst (v := 0) em17_90 (by decide +kernel)) (by decide +kernel) (fun z90'' hz90'' => ?_)
                        refine hA_istore (L' := [some (.inr (.inl (some 12))), some (.inl z19), some (.inl z90''), none]) (zs_istore_n em17_91) ⟨Nat.le_of_ble_eq_true rfl, rfl⟩ rfl ?_
                        exact loop _ (zupd (zupd (zupd (zupd (zupd I 2 v27) 2 v35) 2 v43) 2 v52) 3 v63_3') (fun id h2 h3 => ((zupd_fr h3).trans (((zupd_fr h2).trans (((zupd_fr h2).trans (((zupd_fr h2).trans (((zupd_fr h2).trans (rfl))))))))))) ⟨by rw [zf_ne (by decide), zf_same]; omega, by rw [zf_ne (by decide), zf_same]; omega⟩ ⟨by rw [zf_same]; omega, by rw [zf_same]; omega⟩ (zextp _ 3 _ rfl (by decide) (zextp _ 2 _ rfl (by decide) (zextp _ 2 _ rfl (by decide) (zextp _ 2 _ rfl (by decide) (zextp _ 2 _ rfl (by decide) hInv))))) z19 (by omega) (by omega) (by omega) z90'' (by omega) rfl
                      · refine hA_const (k := 1) (zs_iconst (v := 1) em17_77 (by decide +kernel)) (by decide +kernel) (fun z77' hz77' => ?_)
                        refine hA_goto (zs_goto em17_78 (t := 82) (by decide)) ?_
                        refine hA_const (k := 6) (zs_bipush (v := 6) em17_82 (by decide +kernel)) (by decide +kernel) (fun z82_3 hz82_3 => ?_)
                        refine hA_iload (zs_iload_n em17_84) rfl ?_
                        refine hA_const (k := 2) (zs_iconst (v := 2) em17_85 (by decide +kernel)) (by decide +kernel) (fun z85_3 hz85_3 => ?_)
                        refine hA_add (zs_iadd em17_86) (by omega) (by omega) (fun z86_3 hz86_3 => ?_)
                        refine hA_callV (as := [.inl z77', .inl z82_3, .inl z86_3]) (rest := []) (B' := (0, 0)) (zs_invV (T := TX2) em17_87 zl_14 rfl wd_780 wd_782 wd_8 ((congrFun xo_3 98).trans rfl) xm_14) rfl ⟨_, rfl⟩ (Nat.le_of_ble_eq_true rfl) rfl ⟨Nat.zero_le _, Nat.zero_le _⟩ (zpre_of zh_14 ⟨(by show 1 ≤ d; omega), ⟨_, _, rfl, rfl, ⟨_, _, rfl, ⟨_, rfl, show (0 : Int) ≤ z77'.toInt by omega, show z77'.toInt ≤ (1 : Int) by omega⟩, ⟨_, _, rfl, ⟨_, rfl, show (1 : Int) ≤ z82_3.toInt by omega, show z82_3.toInt ≤ (6 : Int) by omega⟩, ⟨_, _, rfl, ⟨_, rfl, show (0 : Int) ≤ z86_3.toInt by omega, show z86_3.toInt ≤ (400 : Int) by omega⟩, rfl⟩⟩⟩⟩, hF_nil, fun _ => (zextp _ 3 _ rfl (by decide) (zextp _ 2 _ rfl (by decide) (zextp _ 2 _ rfl (by decide) (zextp _ 2 _ rfl (by decide) (zextp _ 2 _ rfl (by decide) hInv)))))⟩) (fun r87 I87 hp87 => ?_)
                        replace hp87 := zpost_of zh_14 hp87
                        obtain ⟨rfl, rfl, hInv87⟩ := zq_14 hp87
                        refine hA_const (k := 0) (zs_iconst (v := 0) em17_90 (by decide +kernel)) (by decide +kernel) (fun z90_3 hz90_3 => ?_)
                        refine hA_istore (L' := [some (.inr (.inl (some 12))), some (.inl z19), some (.inl z90_3), none]) (zs_istore_n em17_91) ⟨Nat.le_of_ble_eq_true rfl, rfl⟩ rfl ?_
                        exact loop _ (zupd (zupd (zupd (zupd (zupd I 2 v27) 2 v35) 2 v43) 2 v52) 3 v63_3') (fun id h2 h3 => ((zupd_fr h3).trans (((zupd_fr h2).trans (((zupd_fr h2).trans (((zupd_fr h2).trans (((zupd_fr h2).trans (rfl))))))))))) ⟨by rw [zf_ne (by decide), zf_same]; omega, by rw [zf_ne (by decide), zf_same]; omega⟩ ⟨by rw [zf_same]; omega, by rw [zf_same]; omega⟩ (zextp _ 3 _ rfl (by decide) (zextp _ 2 _ rfl (by decide) (zextp _ 2 _ rfl (by decide) (zextp _ 2 _ rfl (by decide) (zextp _ 2 _ rfl (by decide) hInv))))) z19 (by omega) (by omega) (by omega) z90_3 (by omega) rfl
                  · exfalso
                    omega
  · refine hA_aload (zs_aload_n em17_11) rfl ?_
    refine hA_const (k := 2) (zs_iconst (v := 2) em17_12 (by decide +kernel)) (by decide +kernel) (fun z12 hz12 => ?_)
    refine hA_callV (as := [.inl z12]) (rest := []) (B' := (0, 0)) (zs_invV (T := TX2) em17_13 zl_10 rfl wd_764 wd_766 wd_4 ((congrFun xo_3 70).trans rfl) xm_10) rfl ⟨_, rfl⟩ (Nat.le_of_ble_eq_true rfl) rfl ⟨Nat.zero_le _, Nat.zero_le _⟩ (zpre_of zh_10 ⟨(by show 1 ≤ d; omega), ⟨_, _, rfl, rfl, ⟨_, _, rfl, ⟨_, rfl, show (1 : Int) ≤ z12.toInt by omega, show z12.toInt ≤ (6 : Int) by omega⟩, rfl⟩⟩, (hF_cons (lo := 0) (hi := 400) ⟨by omega, by omega⟩ hF_nil), fun _ => hInv⟩) (fun r13 I13 hp13 => ?_)
    replace hp13 := zpost_of zh_10 hp13
    obtain ⟨z13, rfl, hz13l, hz13h, rfl, hInv13⟩ := zq_10 hp13
    refine hA_pop (zs_pop em17_16) rfl ?_
    refine hA_return ⟨rfl, em17_17⟩ ⟨Nat.le_refl _, Nat.le_refl _⟩ ?_
    exact ⟨⟨_, List.mem_cons_self, rfl, (hCh_cons (fun k hk => none_no hk) ⟨by omega, by omega⟩ (hCh_cons (fun k hk => none_no hk) ⟨by omega, by omega⟩ (hCh_cons (fun k hk => none_no hk) ⟨by omega, by omega⟩ hCh_nil))), (fun id hl hn => rfl), (fun _ h => absurd h List.not_mem_nil)⟩, (fun _ => hInv), (fun _ id hid => rfl)⟩
theorem em20_0 : decode prog_4_method_8_code 0 = .ok (.aload_n 0, 1) := by decide +kernel
theorem em20_1 : decode prog_4_method_8_code 1 = .ok (.getfield 12, 3) := by decide +kernel
theorem em20_4 : decode prog_4_method_8_code 4 = .ok (.getfield 112, 3) := by decide +kernel
theorem em20_7 : decode prog_4_method_8_code 7 = .ok (.bipush 7, 2) := by decide +kernel
theorem em20_9 : decode prog_4_method_8_code 9 = .ok (.if_icmp .lt 10, 3) := by decide +kernel
theorem em20_12 : decode prog_4_method_8_code 12 = .ok (.aload_n 0, 1) := by decide +kernel
theorem em20_13 : decode prog_4_method_8_code 13 = .ok (.iconst 2, 1) := by decide +kernel
theorem em20_14 : decode prog_4_method_8_code 14 = .ok (.invokevirtual 70, 3) := by decide +kernel
theorem em20_17 : decode prog_4_method_8_code 17 = .ok (.pop, 1) := by decide +kernel
theorem em20_18 : decode prog_4_method_8_code 18 = .ok (.return_, 1) := by decide +kernel
theorem em20_19 : decode prog_4_method_8_code 19 = .ok (.aload_n 0, 1) := by decide +kernel
theorem em20_20 : decode prog_4_method_8_code 20 = .ok (.getfield 40, 3) := by decide +kernel
theorem em20_23 : decode prog_4_method_8_code 23 = .ok (.istore_n 1, 1) := by decide +kernel
theorem em20_24 : decode prog_4_method_8_code 24 = .ok (.aload_n 0, 1) := by decide +kernel
theorem em20_25 : decode prog_4_method_8_code 25 = .ok (.sipush 129, 3) := by decide +kernel
theorem em20_28 : decode prog_4_method_8_code 28 = .ok (.invokevirtual 89, 3) := by decide +kernel
theorem em20_31 : decode prog_4_method_8_code 31 = .ok (.ifCond .eq 44, 3) := by decide +kernel
theorem em20_34 : decode prog_4_method_8_code 34 = .ok (.aload_n 0, 1) := by decide +kernel
theorem em20_35 : decode prog_4_method_8_code 35 = .ok (.iconst 2, 1) := by decide +kernel
theorem em20_36 : decode prog_4_method_8_code 36 = .ok (.invokevirtual 89, 3) := by decide +kernel
theorem em20_39 : decode prog_4_method_8_code 39 = .ok (.ifCond .eq 36, 3) := by decide +kernel
theorem em20_42 : decode prog_4_method_8_code 42 = .ok (.aload_n 0, 1) := by decide +kernel
theorem em20_43 : decode prog_4_method_8_code 43 = .ok (.iconst 2, 1) := by decide +kernel
theorem em20_44 : decode prog_4_method_8_code 44 = .ok (.invokevirtual 89, 3) := by decide +kernel
theorem em20_47 : decode prog_4_method_8_code 47 = .ok (.ifCond .eq 28, 3) := by decide +kernel
theorem em20_50 : decode prog_4_method_8_code 50 = .ok (.aload_n 0, 1) := by decide +kernel
theorem em20_51 : decode prog_4_method_8_code 51 = .ok (.iconst 3, 1) := by decide +kernel
theorem em20_52 : decode prog_4_method_8_code 52 = .ok (.invokevirtual 89, 3) := by decide +kernel
theorem em20_55 : decode prog_4_method_8_code 55 = .ok (.ifCond .eq 20, 3) := by decide +kernel
theorem em20_58 : decode prog_4_method_8_code 58 = .ok (.aload_n 0, 1) := by decide +kernel
theorem em20_59 : decode prog_4_method_8_code 59 = .ok (.iconst 3, 1) := by decide +kernel
theorem em20_60 : decode prog_4_method_8_code 60 = .ok (.invokevirtual 89, 3) := by decide +kernel
theorem em20_63 : decode prog_4_method_8_code 63 = .ok (.ifCond .eq 12, 3) := by decide +kernel
theorem em20_66 : decode prog_4_method_8_code 66 = .ok (.aload_n 0, 1) := by decide +kernel
theorem em20_67 : decode prog_4_method_8_code 67 = .ok (.bipush 59, 2) := by decide +kernel
theorem em20_69 : decode prog_4_method_8_code 69 = .ok (.invokevirtual 89, 3) := by decide +kernel
theorem em20_72 : decode prog_4_method_8_code 72 = .ok (.ifCond .ne 4, 3) := by decide +kernel
theorem em20_75 : decode prog_4_method_8_code 75 = .ok (.return_, 1) := by decide +kernel
theorem em20_76 : decode prog_4_method_8_code 76 = .ok (.aload_n 0, 1) := by decide +kernel
theorem em20_77 : decode prog_4_method_8_code 77 = .ok (.iload_n 1, 1) := by decide +kernel
theorem em20_78 : decode prog_4_method_8_code 78 = .ok (.iconst 1, 1) := by decide +kernel
theorem em20_79 : decode prog_4_method_8_code 79 = .ok (.iadd, 1) := by decide +kernel
theorem em20_80 : decode prog_4_method_8_code 80 = .ok (.invokevirtual 92, 3) := by decide +kernel
theorem em20_83 : decode prog_4_method_8_code 83 = .ok (.aload_n 0, 1) := by decide +kernel
theorem em20_84 : decode prog_4_method_8_code 84 = .ok (.aload_n 0, 1) := by decide +kernel
theorem em20_85 : decode prog_4_method_8_code 85 = .ok (.iload_n 1, 1) := by decide +kernel
theorem em20_86 : decode prog_4_method_8_code 86 = .ok (.iconst 2, 1) := by decide +kernel
theorem em20_87 : decode prog_4_method_8_code 87 = .ok (.iadd, 1) := by decide +kernel
theorem em20_88 : decode prog_4_method_8_code 88 = .ok (.invokevirtual 95, 3) := by decide +kernel
theorem em20_91 : decode prog_4_method_8_code 91 = .ok (.ifCond .ne 7, 3) := by decide +kernel
theorem em20_94 : decode prog_4_method_8_code 94 = .ok (.iconst 1, 1) := by decide +kernel
theorem em20_95 : decode prog_4_method_8_code 95 = .ok (.goto 4, 3) := by decide +kernel
theorem em20_98 : decode prog_4_method_8_code 98 = .ok (.iconst 0, 1) := by decide +kernel
theorem em20_99 : decode prog_4_method_8_code 99 = .ok (.bipush 6, 2) := by decide +kernel
theorem em20_101 : decode prog_4_method_8_code 101 = .ok (.iload_n 1, 1) := by decide +kernel
theorem em20_102 : decode prog_4_method_8_code 102 = .ok (.iconst 2, 1) := by decide +kernel
theorem em20_103 : decode prog_4_method_8_code 103 = .ok (.iadd, 1) := by decide +kernel
theorem em20_104 : decode prog_4_method_8_code 104 = .ok (.invokevirtual 98, 3) := by decide +kernel
theorem em20_107 : decode prog_4_method_8_code 107 = .ok (.aload_n 0, 1) := by decide +kernel
theorem em20_108 : decode prog_4_method_8_code 108 = .ok (.getfield 12, 3) := by decide +kernel
theorem em20_111 : decode prog_4_method_8_code 111 = .ok (.getfield 112, 3) := by decide +kernel
theorem em20_114 : decode prog_4_method_8_code 114 = .ok (.istore_n 2, 1) := by decide +kernel
theorem em20_115 : decode prog_4_method_8_code 115 = .ok (.aload_n 0, 1) := by decide +kernel
theorem em20_116 : decode prog_4_method_8_code 116 = .ok (.getfield 12, 3) := by decide +kernel
theorem em20_119 : decode prog_4_method_8_code 119 = .ok (.getfield 115, 3) := by decide +kernel
theorem em20_122 : decode prog_4_method_8_code 122 = .ok (.iload_n 2, 1) := by decide +kernel
theorem em20_123 : decode prog_4_method_8_code 123 = .ok (.aload_n 0, 1) := by decide +kernel
theorem em20_124 : decode prog_4_method_8_code 124 = .ok (.iload_n 1, 1) := by decide +kernel
theorem em20_125 : decode prog_4_method_8_code 125 = .ok (.iconst 3, 1) := by decide +kernel
theorem em20_126 : decode prog_4_method_8_code 126 = .ok (.iadd, 1) := by decide +kernel
theorem em20_127 : decode prog_4_method_8_code 127 = .ok (.iconst 0, 1) := by decide +kernel
theorem em20_128 : decode prog_4_method_8_code 128 = .ok (.bipush 99, 2) := by decide +kernel
theorem em20_130 : decode prog_4_method_8_code 130 = .ok (.invokevirtual 118, 3) := by decide +kernel
theorem em20_133 : decode prog_4_method_8_code 133 = .ok (.iastore, 1) := by decide +kernel
theorem em20_134 : decode prog_4_method_8_code 134 = .ok (.aload_n 0, 1) := by decide +kernel
theorem em20_135 : decode prog_4_method_8_code 135 = .ok (.getfield 12, 3) := by decide +kernel
theorem em20_138 : decode prog_4_method_8_code 138 = .ok (.getfield 122, 3) := by decide +kernel
theorem em20_141 : decode prog_4_method_8_code 141 = .ok (.iload_n 2, 1) := by decide +kernel
theorem em20_142 : decode prog_4_method_8_code 142 = .ok (.aload_n 0, 1) := by decide +kernel
theorem em20_143 : decode prog_4_method_8_code 143 = .ok (.iload_n 1, 1) := by decide +kernel
theorem em20_144 : decode prog_4_method_8_code 144 = .ok (.iconst 4, 1) := by decide +kernel
theorem em20_145 : decode prog_4_method_8_code 145 = .ok (.iadd, 1) := by decide +kernel
theorem em20_146 : decode prog_4_method_8_code 146 = .ok (.iconst 0, 1) := by decide +kernel
theorem em20_147 : decode prog_4_method_8_code 147 = .ok (.bipush 99, 2) := by decide +kernel
theorem em20_149 : decode prog_4_method_8_code 149 = .ok (.invokevirtual 118, 3) := by decide +kernel
theorem em20_152 : decode prog_4_method_8_code 152 = .ok (.iastore, 1) := by decide +kernel
theorem em20_153 : decode prog_4_method_8_code 153 = .ok (.aload_n 0, 1) := by decide +kernel
theorem em20_154 : decode prog_4_method_8_code 154 = .ok (.getfield 12, 3) := by decide +kernel
theorem em20_157 : decode prog_4_method_8_code 157 = .ok (.getfield 125, 3) := by decide +kernel
theorem em20_160 : decode prog_4_method_8_code 160 = .ok (.iload_n 2, 1) := by decide +kernel
theorem em20_161 : decode prog_4_method_8_code 161 = .ok (.aload_n 0, 1) := by decide +kernel
theorem em20_162 : decode prog_4_method_8_code 162 = .ok (.getfield 21, 3) := by decide +kernel
theorem em20_165 : decode prog_4_method_8_code 165 = .ok (.getfield 102, 3) := by decide +kernel
theorem em20_168 : decode prog_4_method_8_code 168 = .ok (.iload_n 1, 1) := by decide +kernel
theorem em20_169 : decode prog_4_method_8_code 169 = .ok (.iconst 2, 1) := by decide +kernel
theorem em20_170 : decode prog_4_method_8_code 170 = .ok (.iadd, 1) := by decide +kernel
theorem em20_171 : decode prog_4_method_8_code 171 = .ok (.iaload, 1) := by decide +kernel
theorem em20_172 : decode prog_4_method_8_code 172 = .ok (.iastore, 1) := by decide +kernel
theorem em20_173 : decode prog_4_method_8_code 173 = .ok (.iconst 0, 1) := by decide +kernel
theorem em20_174 : decode prog_4_method_8_code 174 = .ok (.istore_n 3, 1) := by decide +kernel
theorem em20_175 : decode prog_4_method_8_code 175 = .ok (.iload_n 3, 1) := by decide +kernel
theorem em20_176 : decode prog_4_method_8_code 176 = .ok (.bipush 8, 2) := by decide +kernel
theorem em20_178 : decode prog_4_method_8_code 178 = .ok (.if_icmp .ge 79, 3) := by decide +kernel
theorem em20_181 : decode prog_4_method_8_code 181 = .ok (.iload_n 3, 1) := by decide +kernel
theorem em20_182 : decode prog_4_method_8_code 182 = .ok (.aload_n 0, 1) := by decide +kernel
theorem em20_183 : decode prog_4_method_8_code 183 = .ok (.getfield 12, 3) := by decide +kernel
theorem em20_186 : decode prog_4_method_8_code 186 = .ok (.getfield 125, 3) := by decide +kernel
theorem em20_189 : decode prog_4_method_8_code 189 = .ok (.iload_n 2, 1) := by decide +kernel
theorem em20_190 : decode prog_4_method_8_code 190 = .ok (.iaload, 1) := by decide +kernel
theorem em20_191 : decode prog_4_method_8_code 191 = .ok (.if_icmp .ge 66, 3) := by decide +kernel
theorem em20_194 : decode prog_4_method_8_code 194 = .ok (.aload_n 0, 1) := by decide +kernel
theorem em20_195 : decode prog_4_method_8_code 195 = .ok (.iload_n 1, 1) := by decide +kernel
theorem em20_196 : decode prog_4_method_8_code 196 = .ok (.iconst 2, 1) := by decide +kernel
theorem em20_197 : decode prog_4_method_8_code 197 = .ok (.iadd, 1) := by decide +kernel
theorem em20_198 : decode prog_4_method_8_code 198 = .ok (.iload_n 3, 1) := by decide +kernel
theorem em20_199 : decode prog_4_method_8_code 199 = .ok (.invokevirtual 105, 3) := by decide +kernel
theorem em20_202 : decode prog_4_method_8_code 202 = .ok (.istore 4, 2) := by decide +kernel
theorem em20_204 : decode prog_4_method_8_code 204 = .ok (.iload 4, 2) := by decide +kernel
theorem em20_206 : decode prog_4_method_8_code 206 = .ok (.ifCond .lt 45, 3) := by decide +kernel
theorem em20_209 : decode prog_4_method_8_code 209 = .ok (.iload 4, 2) := by decide +kernel
theorem em20_211 : decode prog_4_method_8_code 211 = .ok (.bipush 8, 2) := by decide +kernel
theorem em20_213 : decode prog_4_method_8_code 213 = .ok (.if_icmp .ge 38, 3) := by decide +kernel
theorem em20_216 : decode prog_4_method_8_code 216 = .ok (.aload_n 0, 1) := by decide +kernel
theorem em20_217 : decode prog_4_method_8_code 217 = .ok (.getfield 12, 3) := by decide +kernel
theorem em20_220 : decode prog_4_method_8_code 220 = .ok (.getfield 128, 3) := by decide +kernel
theorem em20_223 : decode prog_4_method_8_code 223 = .ok (.iload_n 2, 1) := by decide +kernel
theorem em20_224 : decode prog_4_method_8_code 224 = .ok (.bipush 8, 2) := by decide +kernel
theorem em20_226 : decode prog_4_method_8_code 226 = .ok (.imul, 1) := by decide +kernel
theorem em20_227 : decode prog_4_method_8_code 227 = .ok (.iload_n 3, 1) := by decide +kernel
theorem em20_228 : decode prog_4_method_8_code 228 = .ok (.iadd, 1) := by decide +kernel
theorem em20_229 : decode prog_4_method_8_code 229 = .ok (.iload 4, 2) := by decide +kernel
theorem em20_231 : decode prog_4_method_8_code 231 = .ok (.iastore, 1) := by decide +kernel
theorem em20_232 : decode prog_4_method_8_code 232 = .ok (.aload_n 0, 1) := by decide +kernel
theorem em20_233 : decode prog_4_method_8_code 233 = .ok (.getfield 12, 3) := by decide +kernel
theorem em20_236 : decode prog_4_method_8_code 236 = .ok (.getfield 131, 3) := by decide +kernel
theorem em20_239 : decode prog_4_method_8_code 239 = .ok (.iload_n 2, 1) := by decide +kernel
theorem em20_240 : decode prog_4_method_8_code 240 = .ok (.bipush 8, 2) := by decide +kernel
theorem em20_242 : decode prog_4_method_8_code 242 = .ok (.imul, 1) := by decide +kernel
theorem em20_243 : decode prog_4_method_8_code 243 = .ok (.iload 4, 2) := by decide +kernel
theorem em20_245 : decode prog_4_method_8_code 245 = .ok (.iadd, 1) := by decide +kernel
theorem em20_246 : decode prog_4_method_8_code 246 = .ok (.dup2, 1) := by decide +kernel
theorem em20_247 : decode prog_4_method_8_code 247 = .ok (.iaload, 1) := by decide +kernel
theorem em20_248 : decode prog_4_method_8_code 248 = .ok (.iconst 1, 1) := by decide +kernel
theorem em20_249 : decode prog_4_method_8_code 249 = .ok (.iadd, 1) := by decide +kernel
theorem em20_250 : decode prog_4_method_8_code 250 = .ok (.iastore, 1) := by decide +kernel
theorem em20_251 : decode prog_4_method_8_code 251 = .ok (.iinc 3 1, 3) := by decide +kernel
theorem em20_254 : decode prog_4_method_8_code 254 = .ok (.goto (-79), 3) := by decide +kernel
theorem em20_257 : decode prog_4_method_8_code 257 = .ok (.aload_n 0, 1) := by decide +kernel
theorem em20_258 : decode prog_4_method_8_code 258 = .ok (.getfield 12, 3) := by decide +kernel
theorem em20_261 : decode prog_4_method_8_code 261 = .ok (.dup, 1) := by decide +kernel
theorem em20_262 : decode prog_4_method_8_code 262 = .ok (.getfield 112, 3) := by decide +kernel
theorem em20_265 : decode prog_4_method_8_code 265 = .ok (.iconst 1, 1) := by decide +kernel
theorem em20_266 : decode prog_4_method_8_code 266 = .ok (.iadd, 1) := by decide +kernel
theorem em20_267 : decode prog_4_method_8_code 267 = .ok (.putfield 112, 3) := by decide +kernel
theorem em20_270 : decode prog_4_method_8_code 270 = .ok (.return_, 1) := by decide +kernel
set_option maxRecDepth 10000 in
set_option maxHeartbeats 4000000 in
theorem hM_20 : zOKh 20 zc_20 := by
  intro d hc as I q h hq
  obtain ⟨hd, ⟨_, _, rfl, rfl, rfl⟩, hF, hI⟩ := h
  have hd : 12 ≤ d + 1 := hd
  have hf2 : (0 : Int) ≤ zf I 2 ∧ zf I 2 ≤ (400 : Int) := hF _ List.mem_cons_self
  have hf3 : (0 : Int) ≤ zf I 3 ∧ zf I 3 ≤ (12 : Int) := hF _ (List.mem_cons_of_mem _ List.mem_cons_self)
  have hf6 : (0 : Int) ≤ zf I 6 ∧ zf I 6 ≤ (7 : Int) := hF _ (List.mem_cons_of_mem _ (List.mem_cons_of_mem _ List.mem_cons_self))
  have hInv : zInv I := hI rfl
  cases (show some _ = some q from hq)
  have loop : ∀ (n : Nat) (IJ : zI) (hIJ : ∀ id, id < 4096 → id ≠ 2 → id ≠ 3 → IJ id = I id) (hJ2 : 0 ≤ zf IJ 2 ∧ zf IJ 2 ≤ 400) (hJ3 : 0 ≤ zf IJ 3 ∧ zf IJ 3 ≤ 12) (hInvJ : zInv IJ) (fs : Int32) (hfs : 0 ≤ fs.toInt) (hfs2 : fs.toInt ≤ 396) (vs : Int32) (hvs : vs.toInt = zf I 6) (h6 : zf I 6 ≤ 6) (hw : zv IJ 17 vs.toInt = zv IJ 26 (fs.toInt + 2)) (i : Int32) (hi : 0 ≤ i.toInt) (hi2 : i.toInt ≤ 8), (8 - i.toInt).toNat = n → zAt zG0 PZ zbd zpre zpost (d, (zbd 20).1, (zbd 20).2) prog_4_method_8_code "CapitalCase$Parser" (zRet prog_4_method_8_code none (zbd 20) (fun r I' => aPost zInv zc_20 [.inr (.inl (some 12))] I r I')) 175 [some (.inr (.inl (some 12))), some (.inl fs), some (.inl vs), some (.inl i), none] [] IJ (0, 0) := by
    intro n
    induction n using Nat.strongRecOn with
    | ind n ih =>
      intro IJ hIJ hJ2 hJ3 hInvJ fs hfs hfs2 vs hvs h6 hw i hi hi2 hn
      have hJ6 : zf IJ 6 = zf I 6 := by unfold zf; rw [hIJ 6 (by decide) (by decide) (by decide)]
      have htk := tokP hInvJ (i := fs.toInt + 2) (by omega) (by omega)
      refine hA_iload (zs_iload_n em20_175) rfl ?_
      refine hA_const (k := 8) (zs_bipush (v := 8) em20_176 (by decide +kernel)) (by decide +kernel) (fun z176 hz176 => ?_)
      refine hA_icmp (zs_icmpge em20_178 (t := 257) (by decide)) (fun (c178 : z176.toInt ≤ i.toInt) => ?_) (fun (c178 : ¬ z176.toInt ≤ i.toInt) => ?_)
      · refine hA_aload (zs_aload_n em20_257) rfl ?_
        refine hA_getf2 (r := 13) (zs_getf (T := TX2) (M := 10) (ci := 2) (j := 0) em20_258 rfl inX2 (by decide) wd_281 ((congrFun xo_3 12).trans rfl)) ⟨_, rfl, rfl⟩ ?_
        refine hA_dup (zs_dup em20_261) rfl ?_
        refine hA_getf0 (id := 6) (zs_getf (T := TX6) (M := 15) (ci := 6) (j := 1) em20_262 rfl inX6 (by decide) wd_173 ((congrFun xo_3 112).trans rfl)) ⟨_, rfl, rfl⟩ (fun z262 hz262 => ?_)
        refine hA_const (k := 1) (zs_iconst (v := 1) em20_265 (by decide +kernel)) (by decide +kernel) (fun z265 hz265 => ?_)
        refine hA_add (zs_iadd em20_266) (by omega) (by omega) (fun z266 hz266 => ?_)
        refine hA_puti0 (id := 6) (zs_puti zInj0 (T := TX6) (M := 15) (ty := tyX6) (ci := 6) (j := 1) (kd := 0) em20_267 rfl inX6 tyX6_ok nmX6 (by decide) wd_173 (Or.inl ⟨rfl, rfl⟩) rfl ((congrFun xo_3 112).trans rfl)) ⟨_, rfl, rfl⟩ (fun h => by cases h) ?_
        refine hA_return ⟨rfl, em20_270⟩ ⟨Nat.le_refl _, Nat.le_refl _⟩ ?_
        exact ⟨⟨_, List.mem_cons_self, rfl, (hCh_cons (fun k hk => none_no hk) ⟨by rw [zf_ne (by decide)]; omega, by rw [zf_ne (by decide)]; omega⟩ (hCh_cons (fun k hk => none_no hk) ⟨by rw [zf_ne (by decide)]; omega, by rw [zf_ne (by decide)]; omega⟩ (hCh_cons (fun k hk => none_no hk) ⟨by rw [zf_same]; omega, by rw [zf_same]; omega⟩ hCh_nil))), (fun id hl hn => ((zupd_fr (fun e => by subst e; exact hn _ (List.mem_cons_of_mem _ (List.mem_cons_of_mem _ List.mem_cons_self)))).trans ((hIJ id hl (fun e => by subst e; exact hn _ List.mem_cons_self) (fun e => by subst e; exact hn _ (List.mem_cons_of_mem _ List.mem_cons_self)))))), (fun _ h => absurd h List.not_mem_nil)⟩, (fun _ => (zextp _ 6 _ rfl (by decide) hInvJ)), (fun h => by cases h)⟩
      · refine hA_iload (zs_iload_n em20_181) rfl ?_
        refine hA_aload (zs_aload_n em20_182) rfl ?_
        refine hA_getf2 (r := 13) (zs_getf (T := TX2) (M := 10) (ci := 2) (j := 0) em20_183 rfl inX2 (by decide) wd_281 ((congrFun xo_3 12).trans rfl)) ⟨_, rfl, rfl⟩ ?_
        refine hA_getf2 (r := 17) (zs_getf (T := TX6) (M := 15) (ci := 6) (j := 8) em20_186 rfl inX6 (by decide) wd_200 ((congrFun xo_3 125).trans rfl)) ⟨_, rfl, rfl⟩ ?_
        refine hA_iload (zs_iload_n em20_189) rfl ?_
        refine hA_iald (kd := 17) (len := 7) (zs_iald em20_190) ⟨rfl, rfl, rfl⟩ (by omega) (by show _ < ((7 : Nat) : Int); omega) (fun z190 hz190 => ?_)
        refine hA_icmp (zs_icmpge em20_191 (t := 257) (by decide)) (fun (c191 : z190.toInt ≤ i.toInt) => ?_) (fun (c191 : ¬ z190.toInt ≤ i.toInt) => ?_)
        · refine hA_aload (zs_aload_n em20_257) rfl ?_
          refine hA_getf2 (r := 13) (zs_getf (T := TX2) (M := 10) (ci := 2) (j := 0) em20_258 rfl inX2 (by decide) wd_281 ((congrFun xo_3 12).trans rfl)) ⟨_, rfl, rfl⟩ ?_
          refine hA_dup (zs_dup em20_261) rfl ?_
          refine hA_getf0 (id := 6) (zs_getf (T := TX6) (M := 15) (ci := 6) (j := 1) em20_262 rfl inX6 (by decide) wd_173 ((congrFun xo_3 112).trans rfl)) ⟨_, rfl, rfl⟩ (fun z262' hz262' => ?_)
          refine hA_const (k := 1) (zs_iconst (v := 1) em20_265 (by decide +kernel)) (by decide +kernel) (fun z265' hz265' => ?_)
          refine hA_add (zs_iadd em20_266) (by omega) (by omega) (fun z266' hz266' => ?_)
          refine hA_puti0 (id := 6) (zs_puti zInj0 (T := TX6) (M := 15) (ty := tyX6) (ci := 6) (j := 1) (kd := 0) em20_267 rfl inX6 tyX6_ok nmX6 (by decide) wd_173 (Or.inl ⟨rfl, rfl⟩) rfl ((congrFun xo_3 112).trans rfl)) ⟨_, rfl, rfl⟩ (fun h => by cases h) ?_
          refine hA_return ⟨rfl, em20_270⟩ ⟨Nat.le_refl _, Nat.le_refl _⟩ ?_
          exact ⟨⟨_, List.mem_cons_self, rfl, (hCh_cons (fun k hk => none_no hk) ⟨by rw [zf_ne (by decide)]; omega, by rw [zf_ne (by decide)]; omega⟩ (hCh_cons (fun k hk => none_no hk) ⟨by rw [zf_ne (by decide)]; omega, by rw [zf_ne (by decide)]; omega⟩ (hCh_cons (fun k hk => none_no hk) ⟨by rw [zf_same]; omega, by rw [zf_same]; omega⟩ hCh_nil))), (fun id hl hn => ((zupd_fr (fun e => by subst e; exact hn _ (List.mem_cons_of_mem _ (List.mem_cons_of_mem _ List.mem_cons_self)))).trans ((hIJ id hl (fun e => by subst e; exact hn _ List.mem_cons_self) (fun e => by subst e; exact hn _ (List.mem_cons_of_mem _ List.mem_cons_self)))))), (fun _ h => absurd h List.not_mem_nil)⟩, (fun _ => (zextp _ 6 _ rfl (by decide) hInvJ)), (fun h => by cases h)⟩
        · refine hA_aload (zs_aload_n em20_194) rfl ?_
          refine hA_iload (zs_iload_n em20_195) rfl ?_
          refine hA_const (k := 2) (zs_iconst (v := 2) em20_196 (by decide +kernel)) (by decide +kernel) (fun z196 hz196 => ?_)
          refine hA_add (zs_iadd em20_197) (by omega) (by omega) (fun z197 hz197 => ?_)
          refine hA_iload (zs_iload_n em20_198) rfl ?_
          refine hA_callV (as := [.inl z197, .inl i]) (rest := []) (B' := (0, 0)) (zs_invV (T := TX2) em20_199 zl_269 rfl wd_788 wd_790 wd_10 ((congrFun xo_3 105).trans rfl) xm_237) rfl ⟨_, rfl⟩ (Nat.le_of_ble_eq_true rfl) rfl ⟨Nat.zero_le _, Nat.zero_le _⟩ (hpre_of rfl (show hpr_269 d [.inr (.inl (some 12)), .inl z197, .inl i] IJ from ⟨by show 1 ≤ d; omega, z197, i, rfl, ⟨by omega, by omega, by omega, by rw [show z197.toInt = fs.toInt + 2 by omega]; omega, hInvJ⟩⟩)) (fun r199 I199 hp199 => ?_)
          replace hp199 : hpo_269 _ _ _ _ := hpost_of rfl hp199
          replace hp199 := hp199 z197 i rfl
          obtain ⟨z199, rfl, hz199l, hz199h, rfl⟩ := hp199
          refine hA_istore (L' := [some (.inr (.inl (some 12))), some (.inl fs), some (.inl vs), some (.inl i), some (.inl z199)]) (zs_istore em20_202) ⟨Nat.le_of_ble_eq_true rfl, rfl⟩ rfl ?_
          refine hA_iload (zs_iload em20_204) rfl ?_
          refine hA_if (zs_iflt em20_206 (t := 251) (by decide)) (fun (c206 : z199.toInt < 0) => ?_) (fun (c206 : ¬ z199.toInt < 0) => ?_)
          · refine hA_iinc (c := 1) (zs_iinc (k := 1) em20_251 (by decide +kernel)) (by decide +kernel) rfl ⟨Nat.le_of_ble_eq_true rfl, rfl⟩ (by omega) (by omega) (fun z251 hz251 => ?_)
            show zAt _ _ _ _ _ _ _ _ _ _ [some (.inr (.inl (some 12))), some (.inl fs), some (.inl vs), some (.inl z251), some (.inl z199)] _ _ _
            refine hA_goto (zs_goto em20_254 (t := 175) (by decide)) ?_
            refine hA_fg (L' := [some (.inr (.inl (some 12))), some (.inl fs), some (.inl vs), some (.inl z251), none]) (by repeat (first | exact trivial | refine And.intro rfl ?_)) ?_
            exact ih _ (by omega) IJ hIJ hJ2 hJ3 hInvJ fs hfs hfs2 vs hvs h6 hw z251 (by omega) (by omega) rfl
          · refine hA_iload (zs_iload em20_209) rfl ?_
            refine hA_const (k := 8) (zs_bipush (v := 8) em20_211 (by decide +kernel)) (by decide +kernel) (fun z211 hz211 => ?_)
            refine hA_icmp (zs_icmpge em20_213 (t := 251) (by decide)) (fun (c213 : z211.toInt ≤ z199.toInt) => ?_) (fun (c213 : ¬ z211.toInt ≤ z199.toInt) => ?_)
            · refine hA_iinc (c := 1) (zs_iinc (k := 1) em20_251 (by decide +kernel)) (by decide +kernel) rfl ⟨Nat.le_of_ble_eq_true rfl, rfl⟩ (by omega) (by omega) (fun z251' hz251' => ?_)
              show zAt _ _ _ _ _ _ _ _ _ _ [some (.inr (.inl (some 12))), some (.inl fs), some (.inl vs), some (.inl z251'), some (.inl z199)] _ _ _
              refine hA_goto (zs_goto em20_254 (t := 175) (by decide)) ?_
              refine hA_fg (L' := [some (.inr (.inl (some 12))), some (.inl fs), some (.inl vs), some (.inl z251'), none]) (by repeat (first | exact trivial | refine And.intro rfl ?_)) ?_
              exact ih _ (by omega) IJ hIJ hJ2 hJ3 hInvJ fs hfs hfs2 vs hvs h6 hw z251' (by omega) (by omega) rfl
            · refine hA_aload (zs_aload_n em20_216) rfl ?_
              refine hA_getf2 (r := 13) (zs_getf (T := TX2) (M := 10) (ci := 2) (j := 0) em20_217 rfl inX2 (by decide) wd_281 ((congrFun xo_3 12).trans rfl)) ⟨_, rfl, rfl⟩ ?_
              refine hA_getf2 (r := 18) (zs_getf (T := TX6) (M := 15) (ci := 6) (j := 9) em20_220 rfl inX6 (by decide) wd_205 ((congrFun xo_3 128).trans rfl)) ⟨_, rfl, rfl⟩ ?_
              refine hA_iload (zs_iload_n em20_223) rfl ?_
              refine hA_const (k := 8) (zs_bipush (v := 8) em20_224 (by decide +kernel)) (by decide +kernel) (fun z224 hz224 => ?_)
              refine hA_mulr (c := 8) (zs_imul em20_226) hz224 (by omega) (by omega) (fun z226 hz226 => ?_)
              refine hA_iload (zs_iload_n em20_227) rfl ?_
              refine hA_add (zs_iadd em20_228) (by omega) (by omega) (fun z228 hz228 => ?_)
              refine hA_iload (zs_iload em20_229) rfl ?_
              refine hA_iastH (kd := 18) (len := 56) (zs_iast zInj0 em20_231) ⟨rfl, rfl, rfl⟩ (by omega) (by show _ < ((56 : Nat) : Int); omega) (eal rfl (by show (0 : Int) ≤ _; omega) (by show _ ≤ (7 : Int); omega)) ?_
              refine hA_aload (zs_aload_n em20_232) rfl ?_
              refine hA_getf2 (r := 13) (zs_getf (T := TX2) (M := 10) (ci := 2) (j := 0) em20_233 rfl inX2 (by decide) wd_281 ((congrFun xo_3 12).trans rfl)) ⟨_, rfl, rfl⟩ ?_
              refine hA_getf2 (r := 19) (zs_getf (T := TX6) (M := 15) (ci := 6) (j := 10) em20_236 rfl inX6 (by decide) wd_210 ((congrFun xo_3 131).trans rfl)) ⟨_, rfl, rfl⟩ ?_
              refine hA_iload (zs_iload_n em20_239) rfl ?_
              refine hA_const (k := 8) (zs_bipush (v := 8) em20_240 (by decide +kernel)) (by decide +kernel) (fun z240 hz240 => ?_)
              refine hA_mulr (c := 8) (zs_imul em20_242) hz240 (by omega) (by omega) (fun z242 hz242 => ?_)
              refine hA_iload (zs_iload em20_243) rfl ?_
              refine hA_add (zs_iadd em20_245) (by omega) (by omega) (fun z245 hz245 => ?_)
              refine hA_dup2 (zs_dup2 em20_246) rfl rfl ?_
              refine hA_ialdH (kd := 19) (len := 56) (zs_iald em20_247) ⟨rfl, rfl, rfl⟩ (by omega) (by show _ < ((56 : Nat) : Int); omega) (fun z247 hz247 => ?_)
              refine hA_const (k := 1) (zs_iconst (v := 1) em20_248 (by decide +kernel)) (by decide +kernel) (fun z248 hz248 => ?_)
              refine hA_bin (zs_iadd em20_249) (fun z249 => ?_)
              refine hA_iastH (kd := 19) (len := 56) (zs_iast zInj0 em20_250) ⟨rfl, rfl, rfl⟩ (by omega) (by show _ < ((56 : Nat) : Int); omega) (eno rfl) ?_
              refine hA_iinc (c := 1) (zs_iinc (k := 1) em20_251 (by decide +kernel)) (by decide +kernel) rfl ⟨Nat.le_of_ble_eq_true rfl, rfl⟩ (by omega) (by omega) (fun z251'' hz251'' => ?_)
              show zAt _ _ _ _ _ _ _ _ _ _ [some (.inr (.inl (some 12))), some (.inl fs), some (.inl vs), some (.inl z251''), some (.inl z199)] _ _ _
              refine hA_goto (zs_goto em20_254 (t := 175) (by decide)) ?_
              refine hA_fg (L' := [some (.inr (.inl (some 12))), some (.inl fs), some (.inl vs), some (.inl z251''), none]) (by repeat (first | exact trivial | refine And.intro rfl ?_)) ?_
              exact ih _ (by omega) IJ hIJ hJ2 hJ3 hInvJ fs hfs hfs2 vs hvs h6 hw z251'' (by omega) (by omega) rfl
  refine hmet (L := [some (.inr (.inl (some 12))), none, none, none, none]) (by decide) (Nat.le_of_ble_eq_true rfl) hc rfl ?_
  refine hA_aload (zs_aload_n em20_0) rfl ?_
  refine hA_getf2 (r := 13) (zs_getf (T := TX2) (M := 10) (ci := 2) (j := 0) em20_1 rfl inX2 (by decide) wd_281 ((congrFun xo_3 12).trans rfl)) ⟨_, rfl, rfl⟩ ?_
  refine hA_getf0 (id := 6) (zs_getf (T := TX6) (M := 15) (ci := 6) (j := 1) em20_4 rfl inX6 (by decide) wd_173 ((congrFun xo_3 112).trans rfl)) ⟨_, rfl, rfl⟩ (fun z4 hz4 => ?_)
  refine hA_const (k := 7) (zs_bipush (v := 7) em20_7 (by decide +kernel)) (by decide +kernel) (fun z7 hz7 => ?_)
  refine hA_icmp (zs_icmplt em20_9 (t := 19) (by decide)) (fun (c9 : z4.toInt < z7.toInt) => ?_) (fun (c9 : ¬ z4.toInt < z7.toInt) => ?_)
  · refine hA_aload (zs_aload_n em20_19) rfl ?_
    refine hA_getf0 (id := 2) (zs_getf (T := TX2) (M := 10) (ci := 2) (j := 3) em20_20 rfl inX2 (by decide) wd_285 ((congrFun xo_3 40).trans rfl)) ⟨_, rfl, rfl⟩ (fun z20 hz20 => ?_)
    refine hA_istore (L' := [some (.inr (.inl (some 12))), some (.inl z20), none, none, none]) (zs_istore_n em20_23) ⟨Nat.le_of_ble_eq_true rfl, rfl⟩ rfl ?_
    refine hA_aload (zs_aload_n em20_24) rfl ?_
    refine hA_const (k := 129) (zs_sipush (v := 129) em20_25 (by decide +kernel)) (by decide +kernel) (fun z25 hz25 => ?_)
    refine hA_callV (as := [.inl z25]) (rest := []) (B' := (0, 0)) (zs_invV (T := TX2) em20_28 zl_284 rfl wd_768 wd_770 wd_5 ((congrFun xo_3 89).trans rfl) xm_9) rfl ⟨_, rfl⟩ (Nat.le_of_ble_eq_true rfl) rfl ⟨Nat.zero_le _, Nat.zero_le _⟩ (hpre_of rfl (show hpr_284 d _ _ from ⟨by show 3 ≤ d; omega, z25, rfl, ⟨by omega, by omega, hInv⟩⟩)) (fun r28 I28 hp28 => ?_)
    replace hp28 : hpo_284 _ _ _ _ := hpost_of rfl hp28
    obtain ⟨z28, rfl, ⟨hz28, rfl⟩ | ⟨hz28, hz28k, hz28m, v28, hv28, rfl⟩⟩ := hp28 z25 rfl
    · refine hA_if (zs_ifeq em20_31 (t := 75) (by decide)) (fun (c31 : z28.toInt = 0) => ?_) (fun (c31 : ¬ z28.toInt = 0) => ?_)
      · refine hA_return ⟨rfl, em20_75⟩ ⟨Nat.le_refl _, Nat.le_refl _⟩ ?_
        exact ⟨⟨_, List.mem_cons_self, rfl, (hCh_cons (fun k hk => none_no hk) ⟨by omega, by omega⟩ (hCh_cons (fun k hk => none_no hk) ⟨by omega, by omega⟩ (hCh_cons (fun k hk => none_no hk) ⟨by omega, by omega⟩ hCh_nil))), (fun id hl hn => rfl), (fun _ h => absurd h List.not_mem_nil)⟩, (fun _ => hInv), (fun h => by cases h)⟩
      · exfalso
        omega
    · refine hA_if (zs_ifeq em20_31 (t := 75) (by decide)) (fun (c31' : z28.toInt = 0) => ?_) (fun (c31' : ¬ z28.toInt = 0) => ?_)
      · exfalso
        omega
      · refine hA_aload (zs_aload_n em20_34) rfl ?_
        refine hA_const (k := 2) (zs_iconst (v := 2) em20_35 (by decide +kernel)) (by decide +kernel) (fun z35 hz35 => ?_)
        refine hA_callV (as := [.inl z35]) (rest := []) (B' := (0, 0)) (zs_invV (T := TX2) em20_36 zl_284 rfl wd_768 wd_770 wd_5 ((congrFun xo_3 89).trans rfl) xm_9) rfl ⟨_, rfl⟩ (Nat.le_of_ble_eq_true rfl) rfl ⟨Nat.zero_le _, Nat.zero_le _⟩ (hpre_of rfl (show hpr_284 d _ _ from ⟨by show 3 ≤ d; omega, z35, rfl, ⟨by rw [zf_same]; omega, by rw [zf_same]; omega, (zextp _ 2 _ rfl (by decide) hInv)⟩⟩)) (fun r36 I36 hp36 => ?_)
        replace hp36 : hpo_284 _ _ _ _ := hpost_of rfl hp36
        obtain ⟨z36, rfl, ⟨hz36, rfl⟩ | ⟨hz36, hz36k, hz36m, v36, hv36, rfl⟩⟩ := hp36 z35 rfl
        · refine hA_if (zs_ifeq em20_39 (t := 75) (by decide)) (fun (c39 : z36.toInt = 0) => ?_) (fun (c39 : ¬ z36.toInt = 0) => ?_)
          · refine hA_return ⟨rfl, em20_75⟩ ⟨Nat.le_refl _, Nat.le_refl _⟩ ?_
            exact ⟨⟨_, List.mem_cons_self, rfl, (hCh_cons (fun k hk => none_no hk) ⟨by rw [zf_same]; omega, by rw [zf_same]; omega⟩ (hCh_cons (fun k hk => none_no hk) ⟨by rw [zf_ne (by decide)]; omega, by rw [zf_ne (by decide)]; omega⟩ (hCh_cons (fun k hk => none_no hk) ⟨by rw [zf_ne (by decide)]; omega, by rw [zf_ne (by decide)]; omega⟩ hCh_nil))), (fun id hl hn => ((zupd_fr (fun e => by subst e; exact hn _ List.mem_cons_self)).trans (rfl))), (fun _ h => absurd h List.not_mem_nil)⟩, (fun _ => (zextp _ 2 _ rfl (by decide) hInv)), (fun h => by cases h)⟩
          · exfalso
            omega
        · rw [zf_same] at hz36k hz36m hv36
          rw [zv_fld _ _ _ _ _ (by decide)] at hz36k
          refine hA_if (zs_ifeq em20_39 (t := 75) (by decide)) (fun (c39' : z36.toInt = 0) => ?_) (fun (c39' : ¬ z36.toInt = 0) => ?_)
          · exfalso
            omega
          · refine hA_aload (zs_aload_n em20_42) rfl ?_
            refine hA_const (k := 2) (zs_iconst (v := 2) em20_43 (by decide +kernel)) (by decide +kernel) (fun z43 hz43 => ?_)
            refine hA_callV (as := [.inl z43]) (rest := []) (B' := (0, 0)) (zs_invV (T := TX2) em20_44 zl_284 rfl wd_768 wd_770 wd_5 ((congrFun xo_3 89).trans rfl) xm_9) rfl ⟨_, rfl⟩ (Nat.le_of_ble_eq_true rfl) rfl ⟨Nat.zero_le _, Nat.zero_le _⟩ (hpre_of rfl (show hpr_284 d _ _ from ⟨by show 3 ≤ d; omega, z43, rfl, ⟨by rw [zf_same]; omega, by rw [zf_same]; omega, (zextp _ 2 _ rfl (by decide) (zextp _ 2 _ rfl (by decide) hInv))⟩⟩)) (fun r44 I44 hp44 => ?_)
            replace hp44 : hpo_284 _ _ _ _ := hpost_of rfl hp44
            obtain ⟨z44, rfl, ⟨hz44, rfl⟩ | ⟨hz44, hz44k, hz44m, v44, hv44, rfl⟩⟩ := hp44 z43 rfl
            · refine hA_if (zs_ifeq em20_47 (t := 75) (by decide)) (fun (c47 : z44.toInt = 0) => ?_) (fun (c47 : ¬ z44.toInt = 0) => ?_)
              · refine hA_return ⟨rfl, em20_75⟩ ⟨Nat.le_refl _, Nat.le_refl _⟩ ?_
                exact ⟨⟨_, List.mem_cons_self, rfl, (hCh_cons (fun k hk => none_no hk) ⟨by rw [zf_same]; omega, by rw [zf_same]; omega⟩ (hCh_cons (fun k hk => none_no hk) ⟨by rw [zf_ne (by decide), zf_ne (by decide)]; omega, by rw [zf_ne (by decide), zf_ne (by decide)]; omega⟩ (hCh_cons (fun k hk => none_no hk) ⟨by rw [zf_ne (by decide), zf_ne (by decide)]; omega, by rw [zf_ne (by decide), zf_ne (by decide)]; omega⟩ hCh_nil))), (fun id hl hn => ((zupd_fr (fun e => by subst e; exact hn _ List.mem_cons_self)).trans (((zupd_fr (fun e => by subst e; exact hn _ List.mem_cons_self)).trans (rfl))))), (fun _ h => absurd h List.not_mem_nil)⟩, (fun _ => (zextp _ 2 _ rfl (by decide) (zextp _ 2 _ rfl (by decide) hInv))), (fun h => by cases h)⟩
              · exfalso
                omega
            · rw [zf_same] at hz44k hz44m hv44
              rw [zv_fld _ _ _ _ _ (by decide), zv_fld _ _ _ _ _ (by decide)] at hz44k
              refine hA_if (zs_ifeq em20_47 (t := 75) (by decide)) (fun (c47' : z44.toInt = 0) => ?_) (fun (c47' : ¬ z44.toInt = 0) => ?_)
              · exfalso
                omega
              · refine hA_aload (zs_aload_n em20_50) rfl ?_
                refine hA_const (k := 3) (zs_iconst (v := 3) em20_51 (by decide +kernel)) (by decide +kernel) (fun z51 hz51 => ?_)
                refine hA_callV (as := [.inl z51]) (rest := []) (B' := (0, 0)) (zs_invV (T := TX2) em20_52 zl_284 rfl wd_768 wd_770 wd_5 ((congrFun xo_3 89).trans rfl) xm_9) rfl ⟨_, rfl⟩ (Nat.le_of_ble_eq_true rfl) rfl ⟨Nat.zero_le _, Nat.zero_le _⟩ (hpre_of rfl (show hpr_284 d _ _ from ⟨by show 3 ≤ d; omega, z51, rfl, ⟨by rw [zf_same]; omega, by rw [zf_same]; omega, (zextp _ 2 _ rfl (by decide) (zextp _ 2 _ rfl (by decide) (zextp _ 2 _ rfl (by decide) hInv)))⟩⟩)) (fun r52 I52 hp52 => ?_)
                replace hp52 : hpo_284 _ _ _ _ := hpost_of rfl hp52
                obtain ⟨z52, rfl, ⟨hz52, rfl⟩ | ⟨hz52, hz52k, hz52m, v52, hv52, rfl⟩⟩ := hp52 z51 rfl
                · refine hA_if (zs_ifeq em20_55 (t := 75) (by decide)) (fun (c55 : z52.toInt = 0) => ?_) (fun (c55 : ¬ z52.toInt = 0) => ?_)
                  · refine hA_return ⟨rfl, em20_75⟩ ⟨Nat.le_refl _, Nat.le_refl _⟩ ?_
                    exact ⟨⟨_, List.mem_cons_self, rfl, (hCh_cons (fun k hk => none_no hk) ⟨by rw [zf_same]; omega, by rw [zf_same]; omega⟩ (hCh_cons (fun k hk => none_no hk) ⟨by rw [zf_ne (by decide), zf_ne (by decide), zf_ne (by decide)]; omega, by rw [zf_ne (by decide), zf_ne (by decide), zf_ne (by decide)]; omega⟩ (hCh_cons (fun k hk => none_no hk) ⟨by rw [zf_ne (by decide), zf_ne (by decide), zf_ne (by decide)]; omega, by rw [zf_ne (by decide), zf_ne (by decide), zf_ne (by decide)]; omega⟩ hCh_nil))), (fun id hl hn => ((zupd_fr (fun e => by subst e; exact hn _ List.mem_cons_self)).trans (((zupd_fr (fun e => by subst e; exact hn _ List.mem_cons_self)).trans (((zupd_fr (fun e => by subst e; exact hn _ List.mem_cons_self)).trans (rfl))))))), (fun _ h => absurd h List.not_mem_nil)⟩, (fun _ => (zextp _ 2 _ rfl (by decide) (zextp _ 2 _ rfl (by decide) (zextp _ 2 _ rfl (by decide) hInv)))), (fun h => by cases h)⟩
                  · exfalso
                    omega
                · rw [zf_same] at hz52k hz52m hv52
                  rw [zv_fld _ _ _ _ _ (by decide), zv_fld _ _ _ _ _ (by decide), zv_fld _ _ _ _ _ (by decide)] at hz52k
                  refine hA_if (zs_ifeq em20_55 (t := 75) (by decide)) (fun (c55' : z52.toInt = 0) => ?_) (fun (c55' : ¬ z52.toInt = 0) => ?_)
                  · exfalso
                    omega
                  · refine hA_aload (zs_aload_n em20_58) rfl ?_
                    refine hA_const (k := 3) (zs_iconst (v := 3) em20_59 (by decide +kernel)) (by decide +kernel) (fun z59 hz59 => ?_)
                    refine hA_callV (as := [.inl z59]) (rest := []) (B' := (0, 0)) (zs_invV (T := TX2) em20_60 zl_284 rfl wd_768 wd_770 wd_5 ((congrFun xo_3 89).trans rfl) xm_9) rfl ⟨_, rfl⟩ (Nat.le_of_ble_eq_true rfl) rfl ⟨Nat.zero_le _, Nat.zero_le _⟩ (hpre_of rfl (show hpr_284 d _ _ from ⟨by show 3 ≤ d; omega, z59, rfl, ⟨by rw [zf_same]; omega, by rw [zf_same]; omega, (zextp _ 2 _ rfl (by decide) (zextp _ 2 _ rfl (by decide) (zextp _ 2 _ rfl (by decide) (zextp _ 2 _ rfl (by decide) hInv))))⟩⟩)) (fun r60 I60 hp60 => ?_)
                    replace hp60 : hpo_284 _ _ _ _ := hpost_of rfl hp60
                    obtain ⟨z60, rfl, ⟨hz60, rfl⟩ | ⟨hz60, hz60k, hz60m, v60, hv60, rfl⟩⟩ := hp60 z59 rfl
                    · refine hA_if (zs_ifeq em20_63 (t := 75) (by decide)) (fun (c63 : z60.toInt = 0) => ?_) (fun (c63 : ¬ z60.toInt = 0) => ?_)
                      · refine hA_return ⟨rfl, em20_75⟩ ⟨Nat.le_refl _, Nat.le_refl _⟩ ?_
                        exact ⟨⟨_, List.mem_cons_self, rfl, (hCh_cons (fun k hk => none_no hk) ⟨by rw [zf_same]; omega, by rw [zf_same]; omega⟩ (hCh_cons (fun k hk => none_no hk) ⟨by rw [zf_ne (by decide), zf_ne (by decide), zf_ne (by decide), zf_ne (by decide)]; omega, by rw [zf_ne (by decide), zf_ne (by decide), zf_ne (by decide), zf_ne (by decide)]; omega⟩ (hCh_cons (fun k hk => none_no hk) ⟨by rw [zf_ne (by decide), zf_ne (by decide), zf_ne (by decide), zf_ne (by decide)]; omega, by rw [zf_ne (by decide), zf_ne (by decide), zf_ne (by decide), zf_ne (by decide)]; omega⟩ hCh_nil))), (fun id hl hn => ((zupd_fr (fun e => by subst e; exact hn _ List.mem_cons_self)).trans (((zupd_fr (fun e => by subst e; exact hn _ List.mem_cons_self)).trans (((zupd_fr (fun e => by subst e; exact hn _ List.mem_cons_self)).trans (((zupd_fr (fun e => by subst e; exact hn _ List.mem_cons_self)).trans (rfl))))))))), (fun _ h => absurd h List.not_mem_nil)⟩, (fun _ => (zextp _ 2 _ rfl (by decide) (zextp _ 2 _ rfl (by decide) (zextp _ 2 _ rfl (by decide) (zextp _ 2 _ rfl (by decide) hInv))))), (fun h => by cases h)⟩
                      · exfalso
                        omega
                    · rw [zf_same] at hz60k hz60m hv60
                      rw [zv_fld _ _ _ _ _ (by decide), zv_fld _ _ _ _ _ (by decide), zv_fld _ _ _ _ _ (by decide), zv_fld _ _ _ _ _ (by decide)] at hz60k
                      refine hA_if (zs_ifeq em20_63 (t := 75) (by decide)) (fun (c63' : z60.toInt = 0) => ?_) (fun (c63' : ¬ z60.toInt = 0) => ?_)
                      · exfalso
                        omega
                      · refine hA_aload (zs_aload_n em20_66) rfl ?_
                        refine hA_const (k := 59) (zs_bipush (v := 59) em20_67 (by decide +kernel)) (by decide +kernel) (fun z67 hz67 => ?_)
                        refine hA_callV (as := [.inl z67]) (rest := []) (B' := (0, 0)) (zs_invV (T := TX2) em20_69 zl_284 rfl wd_768 wd_770 wd_5 ((congrFun xo_3 89).trans rfl) xm_9) rfl ⟨_, rfl⟩ (Nat.le_of_ble_eq_true rfl) rfl ⟨Nat.zero_le _, Nat.zero_le _⟩ (hpre_of rfl (show hpr_284 d _ _ from ⟨by show 3 ≤ d; omega, z67, rfl, ⟨by rw [zf_same]; omega, by rw [zf_same]; omega, (zextp _ 2 _ rfl (by decide) (zextp _ 2 _ rfl (by decide) (zextp _ 2 _ rfl (by decide) (zextp _ 2 _ rfl (by decide) (zextp _ 2 _ rfl (by decide) hInv)))))⟩⟩)) (fun r69 I69 hp69 => ?_)
                        replace hp69 : hpo_284 _ _ _ _ := hpost_of rfl hp69
                        obtain ⟨z69, rfl, ⟨hz69, rfl⟩ | ⟨hz69, hz69k, hz69m, v69, hv69, rfl⟩⟩ := hp69 z67 rfl
                        · refine hA_if (zs_ifne em20_72 (t := 76) (by decide)) (fun (c72 : ¬ z69.toInt = 0) => ?_) (fun (c72 : ¬ ¬ z69.toInt = 0) => ?_)
                          · exfalso
                            omega
                          · refine hA_return ⟨rfl, em20_75⟩ ⟨Nat.le_refl _, Nat.le_refl _⟩ ?_
                            exact ⟨⟨_, List.mem_cons_self, rfl, (hCh_cons (fun k hk => none_no hk) ⟨by rw [zf_same]; omega, by rw [zf_same]; omega⟩ (hCh_cons (fun k hk => none_no hk) ⟨by rw [zf_ne (by decide), zf_ne (by decide), zf_ne (by decide), zf_ne (by decide), zf_ne (by decide)]; omega, by rw [zf_ne (by decide), zf_ne (by decide), zf_ne (by decide), zf_ne (by decide), zf_ne (by decide)]; omega⟩ (hCh_cons (fun k hk => none_no hk) ⟨by rw [zf_ne (by decide), zf_ne (by decide), zf_ne (by decide), zf_ne (by decide), zf_ne (by decide)]; omega, by rw [zf_ne (by decide), zf_ne (by decide), zf_ne (by decide), zf_ne (by decide), zf_ne (by decide)]; omega⟩ hCh_nil))), (fun id hl hn => ((zupd_fr (fun e => by subst e; exact hn _ List.mem_cons_self)).trans (((zupd_fr (fun e => by subst e; exact hn _ List.mem_cons_self)).trans (((zupd_fr (fun e => by subst e; exact hn _ List.mem_cons_self)).trans (((zupd_fr (fun e => by subst e; exact hn _ List.mem_cons_self)).trans (((zupd_fr (fun e => by subst e; exact hn _ List.mem_cons_self)).trans (rfl))))))))))), (fun _ h => absurd h List.not_mem_nil)⟩, (fun _ => (zextp _ 2 _ rfl (by decide) (zextp _ 2 _ rfl (by decide) (zextp _ 2 _ rfl (by decide) (zextp _ 2 _ rfl (by decide) (zextp _ 2 _ rfl (by decide) hInv)))))), (fun h => by cases h)⟩
                        · rw [zf_same] at hz69k hz69m hv69
                          rw [zv_fld _ _ _ _ _ (by decide), zv_fld _ _ _ _ _ (by decide), zv_fld _ _ _ _ _ (by decide), zv_fld _ _ _ _ _ (by decide), zv_fld _ _ _ _ _ (by decide)] at hz69k
                          refine hA_if (zs_ifne em20_72 (t := 76) (by decide)) (fun (c72' : ¬ z69.toInt = 0) => ?_) (fun (c72' : ¬ ¬ z69.toInt = 0) => ?_)
                          · refine hA_aload (zs_aload_n em20_76) rfl ?_
                            refine hA_iload (zs_iload_n em20_77) rfl ?_
                            refine hA_const (k := 1) (zs_iconst (v := 1) em20_78 (by decide +kernel)) (by decide +kernel) (fun z78 hz78 => ?_)
                            refine hA_add (zs_iadd em20_79) (by omega) (by omega) (fun z79 hz79 => ?_)
                            refine hA_callV (as := [.inl z79]) (rest := []) (B' := (0, 0)) (zs_invV (T := TX2) em20_80 zl_15 rfl wd_772 wd_774 wd_6 ((congrFun xo_3 92).trans rfl) xm_15) rfl ⟨_, rfl⟩ (Nat.le_of_ble_eq_true rfl) rfl ⟨Nat.zero_le _, Nat.zero_le _⟩ (zpre_of zh_15 ⟨(by show 7 ≤ d; omega), ⟨_, _, rfl, rfl, ⟨_, _, rfl, ⟨_, rfl, show (0 : Int) ≤ z79.toInt by omega, show z79.toInt ≤ (400 : Int) by omega⟩, rfl⟩⟩, (hF_cons (lo := 0) (hi := 12) ⟨by rw [zf_ne (by decide), zf_ne (by decide), zf_ne (by decide), zf_ne (by decide), zf_ne (by decide), zf_ne (by decide)]; omega, by rw [zf_ne (by decide), zf_ne (by decide), zf_ne (by decide), zf_ne (by decide), zf_ne (by decide), zf_ne (by decide)]; omega⟩ hF_nil), fun _ => (zextp _ 2 _ rfl (by decide) (zextp _ 2 _ rfl (by decide) (zextp _ 2 _ rfl (by decide) (zextp _ 2 _ rfl (by decide) (zextp _ 2 _ rfl (by decide) (zextp _ 2 _ rfl (by decide) hInv))))))⟩) (fun r80 I80 hp80 => ?_)
                            replace hp80 := zpost_of zh_15 hp80
                            rcases zq_15 hp80 with ⟨v80_3, rfl, rfl, hv80_3e, hv80_3l, hv80_3h, hInv80⟩ | ⟨v80_3', rfl, rfl, hv80_3'e, hv80_3'l, hv80_3'h, hInv80⟩
                            · rw [zf_ne (by decide), zf_ne (by decide), zf_ne (by decide), zf_ne (by decide), zf_ne (by decide), zf_ne (by decide)] at hv80_3e
                              refine hA_aload (zs_aload_n em20_83) rfl ?_
                              refine hA_aload (zs_aload_n em20_84) rfl ?_
                              refine hA_iload (zs_iload_n em20_85) rfl ?_
                              refine hA_const (k := 2) (zs_iconst (v := 2) em20_86 (by decide +kernel)) (by decide +kernel) (fun z86 hz86 => ?_)
                              refine hA_add (zs_iadd em20_87) (by omega) (by omega) (fun z87 hz87 => ?_)
                              refine hA_callV (as := [.inl z87]) (rest := [.inr (.inl (some 12))]) (B' := (0, 0)) (zs_invV (T := TX2) em20_88 zl_270 rfl wd_784 wd_786 wd_9 ((congrFun xo_3 95).trans rfl) xm_238) rfl ⟨_, rfl⟩ (Nat.le_of_ble_eq_true rfl) rfl ⟨Nat.zero_le _, Nat.zero_le _⟩ (hpre_of rfl (show hpr_270 d [.inr (.inl (some 12)), .inl z87] (zupd (zupd (zupd (zupd (zupd (zupd (zupd I 2 v28) 2 v36) 2 v44) 2 v52) 2 v60) 2 v69) 3 v80_3) from ⟨by show 2 ≤ d; omega, z87, rfl, ⟨by omega, by omega, (zextp _ 3 _ rfl (by decide) (zextp _ 2 _ rfl (by decide) (zextp _ 2 _ rfl (by decide) (zextp _ 2 _ rfl (by decide) (zextp _ 2 _ rfl (by decide) (zextp _ 2 _ rfl (by decide) (zextp _ 2 _ rfl (by decide) hInv)))))))⟩⟩)) (fun r88 I88 hp88 => ?_)
                              replace hp88 : hpo_270 _ _ _ _ := hpost_of rfl hp88
                              replace hp88 := hp88 z87 rfl
                              obtain ⟨z88, rfl, hz88l, hz88h, rfl⟩ := hp88
                              refine hA_if (zs_ifne em20_91 (t := 98) (by decide)) (fun (c91 : ¬ z88.toInt = 0) => ?_) (fun (c91 : ¬ ¬ z88.toInt = 0) => ?_)
                              · refine hA_const (k := 0) (zs_iconst (v := 0) em20_98 (by decide +kernel)) (by decide +kernel) (fun z98 hz98 => ?_)
                                refine hA_const (k := 6) (zs_bipush (v := 6) em20_99 (by decide +kernel)) (by decide +kernel) (fun z99 hz99 => ?_)
                                refine hA_iload (zs_iload_n em20_101) rfl ?_
                                refine hA_const (k := 2) (zs_iconst (v := 2) em20_102 (by decide +kernel)) (by decide +kernel) (fun z102 hz102 => ?_)
                                refine hA_add (zs_iadd em20_103) (by omega) (by omega) (fun z103 hz103 => ?_)
                                refine hA_callV (as := [.inl z98, .inl z99, .inl z103]) (rest := []) (B' := (0, 0)) (zs_invV (T := TX2) em20_104 zl_14 rfl wd_780 wd_782 wd_8 ((congrFun xo_3 98).trans rfl) xm_14) rfl ⟨_, rfl⟩ (Nat.le_of_ble_eq_true rfl) rfl ⟨Nat.zero_le _, Nat.zero_le _⟩ (zpre_of zh_14 ⟨(by show 1 ≤ d; omega), ⟨_, _, rfl, rfl, ⟨_, _, rfl, ⟨_, rfl, show (0 : Int) ≤ z98.toInt by omega, show z98.toInt ≤ (1 : Int) by omega⟩, ⟨_, _, rfl, ⟨_, rfl, show (1 : Int) ≤ z99.toInt by omega, show z99.toInt ≤ (6 : Int) by omega⟩, ⟨_, _, rfl, ⟨_, rfl, show (0 : Int) ≤ z103.toInt by omega, show z103.toInt ≤ (400 : Int) by omega⟩, rfl⟩⟩⟩⟩, hF_nil, fun _ => (zextp _ 3 _ rfl (by decide) (zextp _ 2 _ rfl (by decide) (zextp _ 2 _ rfl (by decide) (zextp _ 2 _ rfl (by decide) (zextp _ 2 _ rfl (by decide) (zextp _ 2 _ rfl (by decide) (zextp _ 2 _ rfl (by decide) hInv)))))))⟩) (fun r104 I104 hp104 => ?_)
                                replace hp104 := zpost_of zh_14 hp104
                                obtain ⟨rfl, rfl, hInv104⟩ := zq_14 hp104
                                refine hA_aload (zs_aload_n em20_107) rfl ?_
                                refine hA_getf2 (r := 13) (zs_getf (T := TX2) (M := 10) (ci := 2) (j := 0) em20_108 rfl inX2 (by decide) wd_281 ((congrFun xo_3 12).trans rfl)) ⟨_, rfl, rfl⟩ ?_
                                refine hA_getf0 (id := 6) (zs_getf (T := TX6) (M := 15) (ci := 6) (j := 1) em20_111 rfl inX6 (by decide) wd_173 ((congrFun xo_3 112).trans rfl)) ⟨_, rfl, rfl⟩ (fun z111 hz111 => ?_)
                                rw [zf_ne (by decide), zf_ne (by decide), zf_ne (by decide), zf_ne (by decide), zf_ne (by decide), zf_ne (by decide), zf_ne (by decide)] at hz111
                                refine hA_istore (L' := [some (.inr (.inl (some 12))), some (.inl z20), some (.inl z111), none, none]) (zs_istore_n em20_114) ⟨Nat.le_of_ble_eq_true rfl, rfl⟩ rfl ?_
                                refine hA_aload (zs_aload_n em20_115) rfl ?_
                                refine hA_getf2 (r := 13) (zs_getf (T := TX2) (M := 10) (ci := 2) (j := 0) em20_116 rfl inX2 (by decide) wd_281 ((congrFun xo_3 12).trans rfl)) ⟨_, rfl, rfl⟩ ?_
                                refine hA_getf2 (r := 15) (zs_getf (T := TX6) (M := 15) (ci := 6) (j := 6) em20_119 rfl inX6 (by decide) wd_189 ((congrFun xo_3 115).trans rfl)) ⟨_, rfl, rfl⟩ ?_
                                refine hA_iload (zs_iload_n em20_122) rfl ?_
                                refine hA_aload (zs_aload_n em20_123) rfl ?_
                                refine hA_iload (zs_iload_n em20_124) rfl ?_
                                refine hA_const (k := 3) (zs_iconst (v := 3) em20_125 (by decide +kernel)) (by decide +kernel) (fun z125 hz125 => ?_)
                                refine hA_add (zs_iadd em20_126) (by omega) (by omega) (fun z126 hz126 => ?_)
                                refine hA_const (k := 0) (zs_iconst (v := 0) em20_127 (by decide +kernel)) (by decide +kernel) (fun z127 hz127 => ?_)
                                refine hA_const (k := 99) (zs_bipush (v := 99) em20_128 (by decide +kernel)) (by decide +kernel) (fun z128 hz128 => ?_)
                                refine hA_callV (as := [.inl z126, .inl z127, .inl z128]) (rest := [.inl z111, .inr (.inl (some 15))]) (B' := (0, 0)) (zs_invV (T := TX2) em20_130 zl_11 rfl wd_796 wd_798 wd_12 ((congrFun xo_3 118).trans rfl) xm_11) rfl ⟨_, rfl⟩ (Nat.le_of_ble_eq_true rfl) rfl ⟨Nat.zero_le _, Nat.zero_le _⟩ (zpre_of zh_11 ⟨(by show 6 ≤ d; omega), ⟨_, _, rfl, rfl, ⟨_, _, rfl, ⟨_, rfl, show (0 : Int) ≤ z126.toInt by omega, show z126.toInt ≤ (400 : Int) by omega⟩, ⟨_, _, rfl, ⟨_, rfl, an_lo _, an_hi _⟩, ⟨_, _, rfl, ⟨_, rfl, an_lo _, an_hi _⟩, rfl⟩⟩⟩⟩, hF_nil, fun _ => (zextp _ 3 _ rfl (by decide) (zextp _ 2 _ rfl (by decide) (zextp _ 2 _ rfl (by decide) (zextp _ 2 _ rfl (by decide) (zextp _ 2 _ rfl (by decide) (zextp _ 2 _ rfl (by decide) (zextp _ 2 _ rfl (by decide) hInv)))))))⟩) (fun r130 I130 hp130 => ?_)
                                replace hp130 := zpost_of zh_11 hp130
                                obtain ⟨z130, rfl, hz130l, hz130h, rfl, hInv130⟩ := zq_11 hp130
                                refine hA_iastH (kd := 15) (len := 7) (zs_iast zInj0 em20_133) ⟨rfl, rfl, rfl⟩ (by omega) (by show _ < ((7 : Nat) : Int); omega) (eno rfl) ?_
                                refine hA_aload (zs_aload_n em20_134) rfl ?_
                                refine hA_getf2 (r := 13) (zs_getf (T := TX2) (M := 10) (ci := 2) (j := 0) em20_135 rfl inX2 (by decide) wd_281 ((congrFun xo_3 12).trans rfl)) ⟨_, rfl, rfl⟩ ?_
                                refine hA_getf2 (r := 16) (zs_getf (T := TX6) (M := 15) (ci := 6) (j := 7) em20_138 rfl inX6 (by decide) wd_193 ((congrFun xo_3 122).trans rfl)) ⟨_, rfl, rfl⟩ ?_
                                refine hA_iload (zs_iload_n em20_141) rfl ?_
                                refine hA_aload (zs_aload_n em20_142) rfl ?_
                                refine hA_iload (zs_iload_n em20_143) rfl ?_
                                refine hA_const (k := 4) (zs_iconst (v := 4) em20_144 (by decide +kernel)) (by decide +kernel) (fun z144 hz144 => ?_)
                                refine hA_add (zs_iadd em20_145) (by omega) (by omega) (fun z145 hz145 => ?_)
                                refine hA_const (k := 0) (zs_iconst (v := 0) em20_146 (by decide +kernel)) (by decide +kernel) (fun z146 hz146 => ?_)
                                refine hA_const (k := 99) (zs_bipush (v := 99) em20_147 (by decide +kernel)) (by decide +kernel) (fun z147 hz147 => ?_)
                                refine hA_callV (as := [.inl z145, .inl z146, .inl z147]) (rest := [.inl z111, .inr (.inl (some 16))]) (B' := (0, 0)) (zs_invV (T := TX2) em20_149 zl_11 rfl wd_796 wd_798 wd_12 ((congrFun xo_3 118).trans rfl) xm_11) rfl ⟨_, rfl⟩ (Nat.le_of_ble_eq_true rfl) rfl ⟨Nat.zero_le _, Nat.zero_le _⟩ (zpre_of zh_11 ⟨(by show 6 ≤ d; omega), ⟨_, _, rfl, rfl, ⟨_, _, rfl, ⟨_, rfl, show (0 : Int) ≤ z145.toInt by omega, show z145.toInt ≤ (400 : Int) by omega⟩, ⟨_, _, rfl, ⟨_, rfl, an_lo _, an_hi _⟩, ⟨_, _, rfl, ⟨_, rfl, an_lo _, an_hi _⟩, rfl⟩⟩⟩⟩, hF_nil, fun _ => (zextp _ 3 _ rfl (by decide) (zextp _ 2 _ rfl (by decide) (zextp _ 2 _ rfl (by decide) (zextp _ 2 _ rfl (by decide) (zextp _ 2 _ rfl (by decide) (zextp _ 2 _ rfl (by decide) (zextp _ 2 _ rfl (by decide) hInv)))))))⟩) (fun r149 I149 hp149 => ?_)
                                replace hp149 := zpost_of zh_11 hp149
                                obtain ⟨z149, rfl, hz149l, hz149h, rfl, hInv149⟩ := zq_11 hp149
                                refine hA_iastH (kd := 16) (len := 7) (zs_iast zInj0 em20_152) ⟨rfl, rfl, rfl⟩ (by omega) (by show _ < ((7 : Nat) : Int); omega) (eno rfl) ?_
                                refine hA_aload (zs_aload_n em20_153) rfl ?_
                                refine hA_getf2 (r := 13) (zs_getf (T := TX2) (M := 10) (ci := 2) (j := 0) em20_154 rfl inX2 (by decide) wd_281 ((congrFun xo_3 12).trans rfl)) ⟨_, rfl, rfl⟩ ?_
                                refine hA_getf2 (r := 17) (zs_getf (T := TX6) (M := 15) (ci := 6) (j := 8) em20_157 rfl inX6 (by decide) wd_200 ((congrFun xo_3 125).trans rfl)) ⟨_, rfl, rfl⟩ ?_
                                refine hA_iload (zs_iload_n em20_160) rfl ?_
                                refine hA_aload (zs_aload_n em20_161) rfl ?_
                                refine hA_getf2 (r := 23) (zs_getf (T := TX2) (M := 10) (ci := 2) (j := 1) em20_162 rfl inX2 (by decide) wd_283 ((congrFun xo_3 21).trans rfl)) ⟨_, rfl, rfl⟩ ?_
                                refine hA_getf2 (r := 26) (zs_getf (T := TX7) (M := 3) (ci := 7) (j := 2) em20_165 rfl inX7 (by decide) wd_273 ((congrFun xo_3 102).trans rfl)) ⟨_, rfl, rfl⟩ ?_
                                refine hA_iload (zs_iload_n em20_168) rfl ?_
                                refine hA_const (k := 2) (zs_iconst (v := 2) em20_169 (by decide +kernel)) (by decide +kernel) (fun z169 hz169 => ?_)
                                refine hA_add (zs_iadd em20_170) (by omega) (by omega) (fun z170 hz170 => ?_)
                                refine hA_iald (kd := 26) (len := 401) (zs_iald em20_171) ⟨rfl, rfl, rfl⟩ (by omega) (by show _ < ((401 : Nat) : Int); omega) (fun z171 hz171 => ?_)
                                rw [zv_fld _ _ _ _ _ (by decide), zv_fld _ _ _ _ _ (by decide), zv_fld _ _ _ _ _ (by decide), zv_fld _ _ _ _ _ (by decide), zv_fld _ _ _ _ _ (by decide), zv_fld _ _ _ _ _ (by decide), zv_fld _ _ _ _ _ (by decide)] at hz171
                                refine hA_iast (kd := 17) (len := 7) (zs_iast zInj0 em20_172) ⟨rfl, rfl, rfl⟩ (by omega) (by show _ < ((7 : Nat) : Int); omega) ?_
                                refine hA_const (k := 0) (zs_iconst (v := 0) em20_173 (by decide +kernel)) (by decide +kernel) (fun z173 hz173 => ?_)
                                refine hA_istore (L' := [some (.inr (.inl (some 12))), some (.inl z20), some (.inl z111), some (.inl z173), none]) (zs_istore_n em20_174) ⟨Nat.le_of_ble_eq_true rfl, rfl⟩ rfl ?_
                                have hwd : 0 ≤ z171.toInt ∧ z171.toInt ≤ 8 := by
                                  have h1 := tokP hInv (i := z20.toInt + 2) (by omega) (by omega)
                                  have h2 : zv I 24 (z20.toInt + 2) = 2 := by rw [show z20.toInt + 2 = v36.toInt by omega]; omega
                                  have h3 := h1.2.1 h2
                                  rw [show z170.toInt = z20.toInt + 2 by omega] at hz171
                                  omega
                                exact loop _ (zupd (zupd (zupd (zupd (zupd (zupd (zupd (zupd I 2 v28) 2 v36) 2 v44) 2 v52) 2 v60) 2 v69) 3 v80_3) (zid 17 z111.toInt.toNat) z171) (fun id hl h2 h3 => ((zupd_hi2 hl).trans (((zupd_fr h3).trans (((zupd_fr h2).trans (((zupd_fr h2).trans (((zupd_fr h2).trans (((zupd_fr h2).trans (((zupd_fr h2).trans (((zupd_fr h2).trans (rfl))))))))))))))))) ⟨by rw [zf_arr _ _ _ _ _ (by decide), zf_ne (by decide), zf_same]; omega, by rw [zf_arr _ _ _ _ _ (by decide), zf_ne (by decide), zf_same]; omega⟩ ⟨by rw [zf_arr _ _ _ _ _ (by decide), zf_same]; omega, by rw [zf_arr _ _ _ _ _ (by decide), zf_same]; omega⟩ (zInv_wide (zextp _ 3 _ rfl (by decide) (zextp _ 2 _ rfl (by decide) (zextp _ 2 _ rfl (by decide) (zextp _ 2 _ rfl (by decide) (zextp _ 2 _ rfl (by decide) (zextp _ 2 _ rfl (by decide) (zextp _ 2 _ rfl (by decide) hInv))))))) (by omega) (by omega) hwd) z20 (by omega) (by omega) z111 (by omega) (by omega) (by rw [zv_at, hz171, zv_nk (by decide) (by omega) (by omega), zv_fld _ _ _ _ _ (by decide), zv_fld _ _ _ _ _ (by decide), zv_fld _ _ _ _ _ (by decide), zv_fld _ _ _ _ _ (by decide), zv_fld _ _ _ _ _ (by decide), zv_fld _ _ _ _ _ (by decide), zv_fld _ _ _ _ _ (by decide), show z170.toInt = z20.toInt + 2 by omega]) z173 (by omega) (by omega) rfl
                              · refine hA_const (k := 1) (zs_iconst (v := 1) em20_94 (by decide +kernel)) (by decide +kernel) (fun z94 hz94 => ?_)
                                refine hA_goto (zs_goto em20_95 (t := 99) (by decide)) ?_
                                refine hA_const (k := 6) (zs_bipush (v := 6) em20_99 (by decide +kernel)) (by decide +kernel) (fun z99' hz99' => ?_)
                                refine hA_iload (zs_iload_n em20_101) rfl ?_
                                refine hA_const (k := 2) (zs_iconst (v := 2) em20_102 (by decide +kernel)) (by decide +kernel) (fun z102' hz102' => ?_)
                                refine hA_add (zs_iadd em20_103) (by omega) (by omega) (fun z103' hz103' => ?_)
                                refine hA_callV (as := [.inl z94, .inl z99', .inl z103']) (rest := []) (B' := (0, 0)) (zs_invV (T := TX2) em20_104 zl_14 rfl wd_780 wd_782 wd_8 ((congrFun xo_3 98).trans rfl) xm_14) rfl ⟨_, rfl⟩ (Nat.le_of_ble_eq_true rfl) rfl ⟨Nat.zero_le _, Nat.zero_le _⟩ (zpre_of zh_14 ⟨(by show 1 ≤ d; omega), ⟨_, _, rfl, rfl, ⟨_, _, rfl, ⟨_, rfl, show (0 : Int) ≤ z94.toInt by omega, show z94.toInt ≤ (1 : Int) by omega⟩, ⟨_, _, rfl, ⟨_, rfl, show (1 : Int) ≤ z99'.toInt by omega, show z99'.toInt ≤ (6 : Int) by omega⟩, ⟨_, _, rfl, ⟨_, rfl, show (0 : Int) ≤ z103'.toInt by omega, show z103'.toInt ≤ (400 : Int) by omega⟩, rfl⟩⟩⟩⟩, hF_nil, fun _ => (zextp _ 3 _ rfl (by decide) (zextp _ 2 _ rfl (by decide) (zextp _ 2 _ rfl (by decide) (zextp _ 2 _ rfl (by decide) (zextp _ 2 _ rfl (by decide) (zextp _ 2 _ rfl (by decide) (zextp _ 2 _ rfl (by decide) hInv)))))))⟩) (fun r104 I104 hp104 => ?_)
                                replace hp104 := zpost_of zh_14 hp104
                                obtain ⟨rfl, rfl, hInv104⟩ := zq_14 hp104
                                refine hA_aload (zs_aload_n em20_107) rfl ?_
                                refine hA_getf2 (r := 13) (zs_getf (T := TX2) (M := 10) (ci := 2) (j := 0) em20_108 rfl inX2 (by decide) wd_281 ((congrFun xo_3 12).trans rfl)) ⟨_, rfl, rfl⟩ ?_
                                refine hA_getf0 (id := 6) (zs_getf (T := TX6) (M := 15) (ci := 6) (j := 1) em20_111 rfl inX6 (by decide) wd_173 ((congrFun xo_3 112).trans rfl)) ⟨_, rfl, rfl⟩ (fun z111' hz111' => ?_)
                                rw [zf_ne (by decide), zf_ne (by decide), zf_ne (by decide), zf_ne (by decide), zf_ne (by decide), zf_ne (by decide), zf_ne (by decide)] at hz111'
                                refine hA_istore (L' := [some (.inr (.inl (some 12))), some (.inl z20), some (.inl z111'), none, none]) (zs_istore_n em20_114) ⟨Nat.le_of_ble_eq_true rfl, rfl⟩ rfl ?_
                                refine hA_aload (zs_aload_n em20_115) rfl ?_
                                refine hA_getf2 (r := 13) (zs_getf (T := TX2) (M := 10) (ci := 2) (j := 0) em20_116 rfl inX2 (by decide) wd_281 ((congrFun xo_3 12).trans rfl)) ⟨_, rfl, rfl⟩ ?_
                                refine hA_getf2 (r := 15) (zs_getf (T := TX6) (M := 15) (ci := 6) (j := 6) em20_119 rfl inX6 (by decide) wd_189 ((congrFun xo_3 115).trans rfl)) ⟨_, rfl, rfl⟩ ?_
                                refine hA_iload (zs_iload_n em20_122) rfl ?_
                                refine hA_aload (zs_aload_n em20_123) rfl ?_
                                refine hA_iload (zs_iload_n em20_124) rfl ?_
                                refine hA_const (k := 3) (zs_iconst (v := 3) em20_125 (by decide +kernel)) (by decide +kernel) (fun z125' hz125' => ?_)
                                refine hA_add (zs_iadd em20_126) (by omega) (by omega) (fun z126' hz126' => ?_)
                                refine hA_const (k := 0) (zs_iconst (v := 0) em20_127 (by decide +kernel)) (by decide +kernel) (fun z127' hz127' => ?_)
                                refine hA_const (k := 99) (zs_bipush (v := 99) em20_128 (by decide +kernel)) (by decide +kernel) (fun z128' hz128' => ?_)
                                refine hA_callV (as := [.inl z126', .inl z127', .inl z128']) (rest := [.inl z111', .inr (.inl (some 15))]) (B' := (0, 0)) (zs_invV (T := TX2) em20_130 zl_11 rfl wd_796 wd_798 wd_12 ((congrFun xo_3 118).trans rfl) xm_11) rfl ⟨_, rfl⟩ (Nat.le_of_ble_eq_true rfl) rfl ⟨Nat.zero_le _, Nat.zero_le _⟩ (zpre_of zh_11 ⟨(by show 6 ≤ d; omega), ⟨_, _, rfl, rfl, ⟨_, _, rfl, ⟨_, rfl, show (0 : Int) ≤ z126'.toInt by omega, show z126'.toInt ≤ (400 : Int) by omega⟩, ⟨_, _, rfl, ⟨_, rfl, an_lo _, an_hi _⟩, ⟨_, _, rfl, ⟨_, rfl, an_lo _, an_hi _⟩, rfl⟩⟩⟩⟩, hF_nil, fun _ => (zextp _ 3 _ rfl (by decide) (zextp _ 2 _ rfl (by decide) (zextp _ 2 _ rfl (by decide) (zextp _ 2 _ rfl (by decide) (zextp _ 2 _ rfl (by decide) (zextp _ 2 _ rfl (by decide) (zextp _ 2 _ rfl (by decide) hInv)))))))⟩) (fun r130 I130 hp130 => ?_)
                                replace hp130 := zpost_of zh_11 hp130
                                obtain ⟨z130', rfl, hz130'l, hz130'h, rfl, hInv130⟩ := zq_11 hp130
                                refine hA_iastH (kd := 15) (len := 7) (zs_iast zInj0 em20_133) ⟨rfl, rfl, rfl⟩ (by omega) (by show _ < ((7 : Nat) : Int); omega) (eno rfl) ?_
                                refine hA_aload (zs_aload_n em20_134) rfl ?_
                                refine hA_getf2 (r := 13) (zs_getf (T := TX2) (M := 10) (ci := 2) (j := 0) em20_135 rfl inX2 (by decide) wd_281 ((congrFun xo_3 12).trans rfl)) ⟨_, rfl, rfl⟩ ?_
                                refine hA_getf2 (r := 16) (zs_getf (T := TX6) (M := 15) (ci := 6) (j := 7) em20_138 rfl inX6 (by decide) wd_193 ((congrFun xo_3 122).trans rfl)) ⟨_, rfl, rfl⟩ ?_
                                refine hA_iload (zs_iload_n em20_141) rfl ?_
                                refine hA_aload (zs_aload_n em20_142) rfl ?_
                                refine hA_iload (zs_iload_n em20_143) rfl ?_
                                refine hA_const (k := 4) (zs_iconst (v := 4) em20_144 (by decide +kernel)) (by decide +kernel) (fun z144' hz144' => ?_)
                                refine hA_add (zs_iadd em20_145) (by omega) (by omega) (fun z145' hz145' => ?_)
                                refine hA_const (k := 0) (zs_iconst (v := 0) em20_146 (by decide +kernel)) (by decide +kernel) (fun z146' hz146' => ?_)
                                refine hA_const (k := 99) (zs_bipush (v := 99) em20_147 (by decide +kernel)) (by decide +kernel) (fun z147' hz147' => ?_)
                                refine hA_callV (as := [.inl z145', .inl z146', .inl z147']) (rest := [.inl z111', .inr (.inl (some 16))]) (B' := (0, 0)) (zs_invV (T := TX2) em20_149 zl_11 rfl wd_796 wd_798 wd_12 ((congrFun xo_3 118).trans rfl) xm_11) rfl ⟨_, rfl⟩ (Nat.le_of_ble_eq_true rfl) rfl ⟨Nat.zero_le _, Nat.zero_le _⟩ (zpre_of zh_11 ⟨(by show 6 ≤ d; omega), ⟨_, _, rfl, rfl, ⟨_, _, rfl, ⟨_, rfl, show (0 : Int) ≤ z145'.toInt by omega, show z145'.toInt ≤ (400 : Int) by omega⟩, ⟨_, _, rfl, ⟨_, rfl, an_lo _, an_hi _⟩, ⟨_, _, rfl, ⟨_, rfl, an_lo _, an_hi _⟩, rfl⟩⟩⟩⟩, hF_nil, fun _ => (zextp _ 3 _ rfl (by decide) (zextp _ 2 _ rfl (by decide) (zextp _ 2 _ rfl (by decide) (zextp _ 2 _ rfl (by decide) (zextp _ 2 _ rfl (by decide) (zextp _ 2 _ rfl (by decide) (zextp _ 2 _ rfl (by decide) hInv)))))))⟩) (fun r149 I149 hp149 => ?_)
                                replace hp149 := zpost_of zh_11 hp149
                                obtain ⟨z149', rfl, hz149'l, hz149'h, rfl, hInv149⟩ := zq_11 hp149
                                refine hA_iastH (kd := 16) (len := 7) (zs_iast zInj0 em20_152) ⟨rfl, rfl, rfl⟩ (by omega) (by show _ < ((7 : Nat) : Int); omega) (eno rfl) ?_
                                refine hA_aload (zs_aload_n em20_153) rfl ?_
                                refine hA_getf2 (r := 13) (zs_getf (T := TX2) (M := 10) (ci := 2) (j := 0) em20_154 rfl inX2 (by decide) wd_281 ((congrFun xo_3 12).trans rfl)) ⟨_, rfl, rfl⟩ ?_
                                refine hA_getf2 (r := 17) (zs_getf (T := TX6) (M := 15) (ci := 6) (j := 8) em20_157 rfl inX6 (by decide) wd_200 ((congrFun xo_3 125).trans rfl)) ⟨_, rfl, rfl⟩ ?_
                                refine hA_iload (zs_iload_n em20_160) rfl ?_
                                refine hA_aload (zs_aload_n em20_161) rfl ?_
                                refine hA_getf2 (r := 23) (zs_getf (T := TX2) (M := 10) (ci := 2) (j := 1) em20_162 rfl inX2 (by decide) wd_283 ((congrFun xo_3 21).trans rfl)) ⟨_, rfl, rfl⟩ ?_
                                refine hA_getf2 (r := 26) (zs_getf (T := TX7) (M := 3) (ci := 7) (j := 2) em20_165 rfl inX7 (by decide) wd_273 ((congrFun xo_3 102).trans rfl)) ⟨_, rfl, rfl⟩ ?_
                                refine hA_iload (zs_iload_n em20_168) rfl ?_
                                refine hA_const (k := 2) (zs_iconst (v := 2) em20_169 (by decide +kernel)) (by decide +kernel) (fun z169' hz169' => ?_)
                                refine hA_add (zs_iadd em20_170) (by omega) (by omega) (fun z170' hz170' => ?_)
                                refine hA_iald (kd := 26) (len := 401) (zs_iald em20_171) ⟨rfl, rfl, rfl⟩ (by omega) (by show _ < ((401 : Nat) : Int); omega) (fun z171' hz171' => ?_)
                                rw [zv_fld _ _ _ _ _ (by decide), zv_fld _ _ _ _ _ (by decide), zv_fld _ _ _ _ _ (by decide), zv_fld _ _ _ _ _ (by decide), zv_fld _ _ _ _ _ (by decide), zv_fld _ _ _ _ _ (by decide), zv_fld _ _ _ _ _ (by decide)] at hz171'
                                refine hA_iast (kd := 17) (len := 7) (zs_iast zInj0 em20_172) ⟨rfl, rfl, rfl⟩ (by omega) (by show _ < ((7 : Nat) : Int); omega) ?_
                                refine hA_const (k := 0) (zs_iconst (v := 0) em20_173 (by decide +kernel)) (by decide +kernel) (fun z173' hz173' => ?_)
                                refine hA_istore (L' := [some (.inr (.inl (some 12))), some (.inl z20), some (.inl z111'), some (.inl z173'), none]) (zs_istore_n em20_174) ⟨Nat.le_of_ble_eq_true rfl, rfl⟩ rfl ?_
                                have hwd : 0 ≤ z171'.toInt ∧ z171'.toInt ≤ 8 := by
                                  have h1 := tokP hInv (i := z20.toInt + 2) (by omega) (by omega)
                                  have h2 : zv I 24 (z20.toInt + 2) = 2 := by rw [show z20.toInt + 2 = v36.toInt by omega]; omega
                                  have h3 := h1.2.1 h2
                                  rw [show z170'.toInt = z20.toInt + 2 by omega] at hz171'
                                  omega
                                exact loop _ (zupd (zupd (zupd (zupd (zupd (zupd (zupd (zupd I 2 v28) 2 v36) 2 v44) 2 v52) 2 v60) 2 v69) 3 v80_3) (zid 17 z111'.toInt.toNat) z171') (fun id hl h2 h3 => ((zupd_hi2 hl).trans (((zupd_fr h3).trans (((zupd_fr h2).trans (((zupd_fr h2).trans (((zupd_fr h2).trans (((zupd_fr h2).trans (((zupd_fr h2).trans (((zupd_fr h2).trans (rfl))))))))))))))))) ⟨by rw [zf_arr _ _ _ _ _ (by decide), zf_ne (by decide), zf_same]; omega, by rw [zf_arr _ _ _ _ _ (by decide), zf_ne (by decide), zf_same]; omega⟩ ⟨by rw [zf_arr _ _ _ _ _ (by decide), zf_same]; omega, by rw [zf_arr _ _ _ _ _ (by decide), zf_same]; omega⟩ (zInv_wide (zextp _ 3 _ rfl (by decide) (zextp _ 2 _ rfl (by decide) (zextp _ 2 _ rfl (by decide) (zextp _ 2 _ rfl (by decide) (zextp _ 2 _ rfl (by decide) (zextp _ 2 _ rfl (by decide) (zextp _ 2 _ rfl (by decide) hInv))))))) (by omega) (by omega) hwd) z20 (by omega) (by omega) z111' (by omega) (by omega) (by rw [zv_at, hz171', zv_nk (by decide) (by omega) (by omega), zv_fld _ _ _ _ _ (by decide), zv_fld _ _ _ _ _ (by decide), zv_fld _ _ _ _ _ (by decide), zv_fld _ _ _ _ _ (by decide), zv_fld _ _ _ _ _ (by decide), zv_fld _ _ _ _ _ (by decide), zv_fld _ _ _ _ _ (by decide), show z170'.toInt = z20.toInt + 2 by omega]) z173' (by omega) (by omega) rfl
                            · rw [zf_ne (by decide), zf_ne (by decide), zf_ne (by decide), zf_ne (by decide), zf_ne (by decide), zf_ne (by decide)] at hv80_3'e
                              refine hA_aload (zs_aload_n em20_83) rfl ?_
                              refine hA_aload (zs_aload_n em20_84) rfl ?_
                              refine hA_iload (zs_iload_n em20_85) rfl ?_
                              refine hA_const (k := 2) (zs_iconst (v := 2) em20_86 (by decide +kernel)) (by decide +kernel) (fun z86' hz86' => ?_)
                              refine hA_add (zs_iadd em20_87) (by omega) (by omega) (fun z87' hz87' => ?_)
                              refine hA_callV (as := [.inl z87']) (rest := [.inr (.inl (some 12))]) (B' := (0, 0)) (zs_invV (T := TX2) em20_88 zl_270 rfl wd_784 wd_786 wd_9 ((congrFun xo_3 95).trans rfl) xm_238) rfl ⟨_, rfl⟩ (Nat.le_of_ble_eq_true rfl) rfl ⟨Nat.zero_le _, Nat.zero_le _⟩ (hpre_of rfl (show hpr_270 d [.inr (.inl (some 12)), .inl z87'] (zupd (zupd (zupd (zupd (zupd (zupd (zupd I 2 v28) 2 v36) 2 v44) 2 v52) 2 v60) 2 v69) 3 v80_3') from ⟨by show 2 ≤ d; omega, z87', rfl, ⟨by omega, by omega, (zextp _ 3 _ rfl (by decide) (zextp _ 2 _ rfl (by decide) (zextp _ 2 _ rfl (by decide) (zextp _ 2 _ rfl (by decide) (zextp _ 2 _ rfl (by decide) (zextp _ 2 _ rfl (by decide) (zextp _ 2 _ rfl (by decide) hInv)))))))⟩⟩)) (fun r88 I88 hp88 => ?_)
                              replace hp88 : hpo_270 _ _ _ _ := hpost_of rfl hp88
                              replace hp88 := hp88 z87' rfl
                              obtain ⟨z88', rfl, hz88'l, hz88'h, rfl⟩ := hp88
                              refine hA_if (zs_ifne em20_91 (t := 98) (by decide)) (fun (c91' : ¬ z88'.toInt = 0) => ?_) (fun (c91' : ¬ ¬ z88'.toInt = 0) => ?_)
                              · refine hA_const (k := 0) (zs_iconst (v := 0) em20_98 (by decide +kernel)) (by decide +kernel) (fun z98' hz98' => ?_)
                                refine hA_const (k := 6) (zs_bipush (v := 6) em20_99 (by decide +kernel)) (by decide +kernel) (fun z99'' hz99'' => ?_)
                                refine hA_iload (zs_iload_n em20_101) rfl ?_
                                refine hA_const (k := 2) (zs_iconst (v := 2) em20_102 (by decide +kernel)) (by decide +kernel) (fun z102'' hz102'' => ?_)
                                refine hA_add (zs_iadd em20_103) (by omega) (by omega) (fun z103'' hz103'' => ?_)
                                refine hA_callV (as := [.inl z98', .inl z99'', .inl z103'']) (rest := []) (B' := (0, 0)) (zs_invV (T := TX2) em20_104 zl_14 rfl wd_780 wd_782 wd_8 ((congrFun xo_3 98).trans rfl) xm_14) rfl ⟨_, rfl⟩ (Nat.le_of_ble_eq_true rfl) rfl ⟨Nat.zero_le _, Nat.zero_le _⟩ (zpre_of zh_14 ⟨(by show 1 ≤ d; omega), ⟨_, _, rfl, rfl, ⟨_, _, rfl, ⟨_, rfl, show (0 : Int) ≤ z98'.toInt by omega, show z98'.toInt ≤ (1 : Int) by omega⟩, ⟨_, _, rfl, ⟨_, rfl, show (1 : Int) ≤ z99''.toInt by omega, show z99''.toInt ≤ (6 : Int) by omega⟩, ⟨_, _, rfl, ⟨_, rfl, show (0 : Int) ≤ z103''.toInt by omega, show z103''.toInt ≤ (400 : Int) by omega⟩, rfl⟩⟩⟩⟩, hF_nil, fun _ => (zextp _ 3 _ rfl (by decide) (zextp _ 2 _ rfl (by decide) (zextp _ 2 _ rfl (by decide) (zextp _ 2 _ rfl (by decide) (zextp _ 2 _ rfl (by decide) (zextp _ 2 _ rfl (by decide) (zextp _ 2 _ rfl (by decide) hInv)))))))⟩) (fun r104 I104 hp104 => ?_)
                                replace hp104 := zpost_of zh_14 hp104
                                obtain ⟨rfl, rfl, hInv104⟩ := zq_14 hp104
                                refine hA_aload (zs_aload_n em20_107) rfl ?_
                                refine hA_getf2 (r := 13) (zs_getf (T := TX2) (M := 10) (ci := 2) (j := 0) em20_108 rfl inX2 (by decide) wd_281 ((congrFun xo_3 12).trans rfl)) ⟨_, rfl, rfl⟩ ?_
                                refine hA_getf0 (id := 6) (zs_getf (T := TX6) (M := 15) (ci := 6) (j := 1) em20_111 rfl inX6 (by decide) wd_173 ((congrFun xo_3 112).trans rfl)) ⟨_, rfl, rfl⟩ (fun z111'' hz111'' => ?_)
                                rw [zf_ne (by decide), zf_ne (by decide), zf_ne (by decide), zf_ne (by decide), zf_ne (by decide), zf_ne (by decide), zf_ne (by decide)] at hz111''
                                refine hA_istore (L' := [some (.inr (.inl (some 12))), some (.inl z20), some (.inl z111''), none, none]) (zs_istore_n em20_114) ⟨Nat.le_of_ble_eq_true rfl, rfl⟩ rfl ?_
                                refine hA_aload (zs_aload_n em20_115) rfl ?_
                                refine hA_getf2 (r := 13) (zs_getf (T := TX2) (M := 10) (ci := 2) (j := 0) em20_116 rfl inX2 (by decide) wd_281 ((congrFun xo_3 12).trans rfl)) ⟨_, rfl, rfl⟩ ?_
                                refine hA_getf2 (r := 15) (zs_getf (T := TX6) (M := 15) (ci := 6) (j := 6) em20_119 rfl inX6 (by decide) wd_189 ((congrFun xo_3 115).trans rfl)) ⟨_, rfl, rfl⟩ ?_
                                refine hA_iload (zs_iload_n em20_122) rfl ?_
                                refine hA_aload (zs_aload_n em20_123) rfl ?_
                                refine hA_iload (zs_iload_n em20_124) rfl ?_
                                refine hA_const (k := 3) (zs_iconst (v := 3) em20_125 (by decide +kernel)) (by decide +kernel) (fun z125'' hz125'' => ?_)
                                refine hA_add (zs_iadd em20_126) (by omega) (by omega) (fun z126'' hz126'' => ?_)
                                refine hA_const (k := 0) (zs_iconst (v := 0) em20_127 (by decide +kernel)) (by decide +kernel) (fun z127'' hz127'' => ?_)
                                refine hA_const (k := 99) (zs_bipush (v := 99) em20_128 (by decide +kernel)) (by decide +kernel) (fun z128'' hz128'' => ?_)
                                refine hA_callV (as := [.inl z126'', .inl z127'', .inl z128'']) (rest := [.inl z111'', .inr (.inl (some 15))]) (B' := (0, 0)) (zs_invV (T := TX2) em20_130 zl_11 rfl wd_796 wd_798 wd_12 ((congrFun xo_3 118).trans rfl) xm_11) rfl ⟨_, rfl⟩ (Nat.le_of_ble_eq_true rfl) rfl ⟨Nat.zero_le _, Nat.zero_le _⟩ (zpre_of zh_11 ⟨(by show 6 ≤ d; omega), ⟨_, _, rfl, rfl, ⟨_, _, rfl, ⟨_, rfl, show (0 : Int) ≤ z126''.toInt by omega, show z126''.toInt ≤ (400 : Int) by omega⟩, ⟨_, _, rfl, ⟨_, rfl, an_lo _, an_hi _⟩, ⟨_, _, rfl, ⟨_, rfl, an_lo _, an_hi _⟩, rfl⟩⟩⟩⟩, hF_nil, fun _ => (zextp _ 3 _ rfl (by decide) (zextp _ 2 _ rfl (by decide) (zextp _ 2 _ rfl (by decide) (zextp _ 2 _ rfl (by decide) (zextp _ 2 _ rfl (by decide) (zextp _ 2 _ rfl (by decide) (zextp _ 2 _ rfl (by decide) hInv)))))))⟩) (fun r130 I130 hp130 => ?_)
                                replace hp130 := zpost_of zh_11 hp130
                                obtain ⟨z130'', rfl, hz130''l, hz130''h, rfl, hInv130⟩ := zq_11 hp130
                                refine hA_iastH (kd := 15) (len := 7) (zs_iast zInj0 em20_133) ⟨rfl, rfl, rfl⟩ (by omega) (by show _ < ((7 : Nat) : Int); omega) (eno rfl) ?_
                                refine hA_aload (zs_aload_n em20_134) rfl ?_
                                refine hA_getf2 (r := 13) (zs_getf (T := TX2) (M := 10) (ci := 2) (j := 0) em20_135 rfl inX2 (by decide) wd_281 ((congrFun xo_3 12).trans rfl)) ⟨_, rfl, rfl⟩ ?_
                                refine hA_getf2 (r := 16) (zs_getf (T := TX6) (M := 15) (ci := 6) (j := 7) em20_138 rfl inX6 (by decide) wd_193 ((congrFun xo_3 122).trans rfl)) ⟨_, rfl, rfl⟩ ?_
                                refine hA_iload (zs_iload_n em20_141) rfl ?_
                                refine hA_aload (zs_aload_n em20_142) rfl ?_
                                refine hA_iload (zs_iload_n em20_143) rfl ?_
                                refine hA_const (k := 4) (zs_iconst (v := 4) em20_144 (by decide +kernel)) (by decide +kernel) (fun z144'' hz144'' => ?_)
                                refine hA_add (zs_iadd em20_145) (by omega) (by omega) (fun z145'' hz145'' => ?_)
                                refine hA_const (k := 0) (zs_iconst (v := 0) em20_146 (by decide +kernel)) (by decide +kernel) (fun z146'' hz146'' => ?_)
                                refine hA_const (k := 99) (zs_bipush (v := 99) em20_147 (by decide +kernel)) (by decide +kernel) (fun z147'' hz147'' => ?_)
                                refine hA_callV (as := [.inl z145'', .inl z146'', .inl z147'']) (rest := [.inl z111'', .inr (.inl (some 16))]) (B' := (0, 0)) (zs_invV (T := TX2) em20_149 zl_11 rfl wd_796 wd_798 wd_12 ((congrFun xo_3 118).trans rfl) xm_11) rfl ⟨_, rfl⟩ (Nat.le_of_ble_eq_true rfl) rfl ⟨Nat.zero_le _, Nat.zero_le _⟩ (zpre_of zh_11 ⟨(by show 6 ≤ d; omega), ⟨_, _, rfl, rfl, ⟨_, _, rfl, ⟨_, rfl, show (0 : Int) ≤ z145''.toInt by omega, show z145''.toInt ≤ (400 : Int) by omega⟩, ⟨_, _, rfl, ⟨_, rfl, an_lo _, an_hi _⟩, ⟨_, _, rfl, ⟨_, rfl, an_lo _, an_hi _⟩, rfl⟩⟩⟩⟩, hF_nil, fun _ => (zextp _ 3 _ rfl (by decide) (zextp _ 2 _ rfl (by decide) (zextp _ 2 _ rfl (by decide) (zextp _ 2 _ rfl (by decide) (zextp _ 2 _ rfl (by decide) (zextp _ 2 _ rfl (by decide) (zextp _ 2 _ rfl (by decide) hInv)))))))⟩) (fun r149 I149 hp149 => ?_)
                                replace hp149 := zpost_of zh_11 hp149
                                obtain ⟨z149'', rfl, hz149''l, hz149''h, rfl, hInv149⟩ := zq_11 hp149
                                refine hA_iastH (kd := 16) (len := 7) (zs_iast zInj0 em20_152) ⟨rfl, rfl, rfl⟩ (by omega) (by show _ < ((7 : Nat) : Int); omega) (eno rfl) ?_
                                refine hA_aload (zs_aload_n em20_153) rfl ?_
                                refine hA_getf2 (r := 13) (zs_getf (T := TX2) (M := 10) (ci := 2) (j := 0) em20_154 rfl inX2 (by decide) wd_281 ((congrFun xo_3 12).trans rfl)) ⟨_, rfl, rfl⟩ ?_
                                refine hA_getf2 (r := 17) (zs_getf (T := TX6) (M := 15) (ci := 6) (j := 8) em20_157 rfl inX6 (by decide) wd_200 ((congrFun xo_3 125).trans rfl)) ⟨_, rfl, rfl⟩ ?_
                                refine hA_iload (zs_iload_n em20_160) rfl ?_
                                refine hA_aload (zs_aload_n em20_161) rfl ?_
                                refine hA_getf2 (r := 23) (zs_getf (T := TX2) (M := 10) (ci := 2) (j := 1) em20_162 rfl inX2 (by decide) wd_283 ((congrFun xo_3 21).trans rfl)) ⟨_, rfl, rfl⟩ ?_
                                refine hA_getf2 (r := 26) (zs_getf (T := TX7) (M := 3) (ci := 7) (j := 2) em20_165 rfl inX7 (by decide) wd_273 ((congrFun xo_3 102).trans rfl)) ⟨_, rfl, rfl⟩ ?_
                                refine hA_iload (zs_iload_n em20_168) rfl ?_
                                refine hA_const (k := 2) (zs_iconst (v := 2) em20_169 (by decide +kernel)) (by decide +kernel) (fun z169'' hz169'' => ?_)
                                refine hA_add (zs_iadd em20_170) (by omega) (by omega) (fun z170'' hz170'' => ?_)
                                refine hA_iald (kd := 26) (len := 401) (zs_iald em20_171) ⟨rfl, rfl, rfl⟩ (by omega) (by show _ < ((401 : Nat) : Int); omega) (fun z171'' hz171'' => ?_)
                                rw [zv_fld _ _ _ _ _ (by decide), zv_fld _ _ _ _ _ (by decide), zv_fld _ _ _ _ _ (by decide), zv_fld _ _ _ _ _ (by decide), zv_fld _ _ _ _ _ (by decide), zv_fld _ _ _ _ _ (by decide), zv_fld _ _ _ _ _ (by decide)] at hz171''
                                refine hA_iast (kd := 17) (len := 7) (zs_iast zInj0 em20_172) ⟨rfl, rfl, rfl⟩ (by omega) (by show _ < ((7 : Nat) : Int); omega) ?_
                                refine hA_const (k := 0) (zs_iconst (v := 0) em20_173 (by decide +kernel)) (by decide +kernel) (fun z173'' hz173'' => ?_)
                                refine hA_istore (L' := [some (.inr (.inl (some 12))), some (.inl z20), some (.inl z111''), some (.inl z173''), none]) (zs_istore_n em20_174) ⟨Nat.le_of_ble_eq_true rfl, rfl⟩ rfl ?_
                                have hwd : 0 ≤ z171''.toInt ∧ z171''.toInt ≤ 8 := by
                                  have h1 := tokP hInv (i := z20.toInt + 2) (by omega) (by omega)
                                  have h2 : zv I 24 (z20.toInt + 2) = 2 := by rw [show z20.toInt + 2 = v36.toInt by omega]; omega
                                  have h3 := h1.2.1 h2
                                  rw [show z170''.toInt = z20.toInt + 2 by omega] at hz171''
                                  omega
                                exact loop _ (zupd (zupd (zupd (zupd (zupd (zupd (zupd (zupd I 2 v28) 2 v36) 2 v44) 2 v52) 2 v60) 2 v69) 3 v80_3') (zid 17 z111''.toInt.toNat) z171'') (fun id hl h2 h3 => ((zupd_hi2 hl).trans (((zupd_fr h3).trans (((zupd_fr h2).trans (((zupd_fr h2).trans (((zupd_fr h2).trans (((zupd_fr h2).trans (((zupd_fr h2).trans (((zupd_fr h2).trans (rfl))))))))))))))))) ⟨by rw [zf_arr _ _ _ _ _ (by decide), zf_ne (by decide), zf_same]; omega, by rw [zf_arr _ _ _ _ _ (by decide), zf_ne (by decide), zf_same]; omega⟩ ⟨by rw [zf_arr _ _ _ _ _ (by decide), zf_same]; omega, by rw [zf_arr _ _ _ _ _ (by decide), zf_same]; omega⟩ (zInv_wide (zextp _ 3 _ rfl (by decide) (zextp _ 2 _ rfl (by decide) (zextp _ 2 _ rfl (by decide) (zextp _ 2 _ rfl (by decide) (zextp _ 2 _ rfl (by decide) (zextp _ 2 _ rfl (by decide) (zextp _ 2 _ rfl (by decide) hInv))))))) (by omega) (by omega) hwd) z20 (by omega) (by omega) z111'' (by omega) (by omega) (by rw [zv_at, hz171'', zv_nk (by decide) (by omega) (by omega), zv_fld _ _ _ _ _ (by decide), zv_fld _ _ _ _ _ (by decide), zv_fld _ _ _ _ _ (by decide), zv_fld _ _ _ _ _ (by decide), zv_fld _ _ _ _ _ (by decide), zv_fld _ _ _ _ _ (by decide), zv_fld _ _ _ _ _ (by decide), show z170''.toInt = z20.toInt + 2 by omega]) z173'' (by omega) (by omega) rfl
                              · refine hA_const (k := 1) (zs_iconst (v := 1) em20_94 (by decide +kernel)) (by decide +kernel) (fun z94' hz94' => ?_)
                                refine hA_goto (zs_goto em20_95 (t := 99) (by decide)) ?_
                                refine hA_const (k := 6) (zs_bipush (v := 6) em20_99 (by decide +kernel)) (by decide +kernel) (fun z99_3 hz99_3 => ?_)
                                refine hA_iload (zs_iload_n em20_101) rfl ?_
                                refine hA_const (k := 2) (zs_iconst (v := 2) em20_102 (by decide +kernel)) (by decide +kernel) (fun z102_3 hz102_3 => ?_)
                                refine hA_add (zs_iadd em20_103) (by omega) (by omega) (fun z103_3 hz103_3 => ?_)
                                refine hA_callV (as := [.inl z94', .inl z99_3, .inl z103_3]) (rest := []) (B' := (0, 0)) (zs_invV (T := TX2) em20_104 zl_14 rfl wd_780 wd_782 wd_8 ((congrFun xo_3 98).trans rfl) xm_14) rfl ⟨_, rfl⟩ (Nat.le_of_ble_eq_true rfl) rfl ⟨Nat.zero_le _, Nat.zero_le _⟩ (zpre_of zh_14 ⟨(by show 1 ≤ d; omega), ⟨_, _, rfl, rfl, ⟨_, _, rfl, ⟨_, rfl, show (0 : Int) ≤ z94'.toInt by omega, show z94'.toInt ≤ (1 : Int) by omega⟩, ⟨_, _, rfl, ⟨_, rfl, show (1 : Int) ≤ z99_3.toInt by omega, show z99_3.toInt ≤ (6 : Int) by omega⟩, ⟨_, _, rfl, ⟨_, rfl, show (0 : Int) ≤ z103_3.toInt by omega, show z103_3.toInt ≤ (400 : Int) by omega⟩, rfl⟩⟩⟩⟩, hF_nil, fun _ => (zextp _ 3 _ rfl (by decide) (zextp _ 2 _ rfl (by decide) (zextp _ 2 _ rfl (by decide) (zextp _ 2 _ rfl (by decide) (zextp _ 2 _ rfl (by decide) (zextp _ 2 _ rfl (by decide) (zextp _ 2 _ rfl (by decide) hInv)))))))⟩) (fun r104 I104 hp104 => ?_)
                                replace hp104 := zpost_of zh_14 hp104
                                obtain ⟨rfl, rfl, hInv104⟩ := zq_14 hp104
                                refine hA_aload (zs_aload_n em20_107) rfl ?_
                                refine hA_getf2 (r := 13) (zs_getf (T := TX2) (M := 10) (ci := 2) (j := 0) em20_108 rfl inX2 (by decide) wd_281 ((congrFun xo_3 12).trans rfl)) ⟨_, rfl, rfl⟩ ?_
                                refine hA_getf0 (id := 6) (zs_getf (T := TX6) (M := 15) (ci := 6) (j := 1) em20_111 rfl inX6 (by decide) wd_173 ((congrFun xo_3 112).trans rfl)) ⟨_, rfl, rfl⟩ (fun z111_3 hz111_3 => ?_)
                                rw [zf_ne (by decide), zf_ne (by decide), zf_ne (by decide), zf_ne (by decide), zf_ne (by decide), zf_ne (by decide), zf_ne (by decide)] at hz111_3
                                refine hA_istore (L' := [some (.inr (.inl (some 12))), some (.inl z20), some (.inl z111_3), none, none]) (zs_istore_n em20_114) ⟨Nat.le_of_ble_eq_true rfl, rfl⟩ rfl ?_
                                refine hA_aload (zs_aload_n em20_115) rfl ?_
                                refine hA_getf2 (r := 13) (zs_getf (T := TX2) (M := 10) (ci := 2) (j := 0) em20_116 rfl inX2 (by decide) wd_281 ((congrFun xo_3 12).trans rfl)) ⟨_, rfl, rfl⟩ ?_
                                refine hA_getf2 (r := 15) (zs_getf (T := TX6) (M := 15) (ci := 6) (j := 6) em20_119 rfl inX6 (by decide) wd_189 ((congrFun xo_3 115).trans rfl)) ⟨_, rfl, rfl⟩ ?_
                                refine hA_iload (zs_iload_n em20_122) rfl ?_
                                refine hA_aload (zs_aload_n em20_123) rfl ?_
                                refine hA_iload (zs_iload_n em20_124) rfl ?_
                                refine hA_const (k := 3) (zs_iconst (v := 3) em20_125 (by decide +kernel)) (by decide +kernel) (fun z125_3 hz125_3 => ?_)
                                refine hA_add (zs_iadd em20_126) (by omega) (by omega) (fun z126_3 hz126_3 => ?_)
                                refine hA_const (k := 0) (zs_iconst (v := 0) em20_127 (by decide +kernel)) (by decide +kernel) (fun z127_3 hz127_3 => ?_)
                                refine hA_const (k := 99) (zs_bipush (v := 99) em20_128 (by decide +kernel)) (by decide +kernel) (fun z128_3 hz128_3 => ?_)
                                refine hA_callV (as := [.inl z126_3, .inl z127_3, .inl z128_3]) (rest := [.inl z111_3, .inr (.inl (some 15))]) (B' := (0, 0)) (zs_invV (T := TX2) em20_130 zl_11 rfl wd_796 wd_798 wd_12 ((congrFun xo_3 118).trans rfl) xm_11) rfl ⟨_, rfl⟩ (Nat.le_of_ble_eq_true rfl) rfl ⟨Nat.zero_le _, Nat.zero_le _⟩ (zpre_of zh_11 ⟨(by show 6 ≤ d; omega), ⟨_, _, rfl, rfl, ⟨_, _, rfl, ⟨_, rfl, show (0 : Int) ≤ z126_3.toInt by omega, show z126_3.toInt ≤ (400 : Int) by omega⟩, ⟨_, _, rfl, ⟨_, rfl, an_lo _, an_hi _⟩, ⟨_, _, rfl, ⟨_, rfl, an_lo _, an_hi _⟩, rfl⟩⟩⟩⟩, hF_nil, fun _ => (zextp _ 3 _ rfl (by decide) (zextp _ 2 _ rfl (by decide) (zextp _ 2 _ rfl (by decide) (zextp _ 2 _ rfl (by decide) (zextp _ 2 _ rfl (by decide) (zextp _ 2 _ rfl (by decide) (zextp _ 2 _ rfl (by decide) hInv)))))))⟩) (fun r130 I130 hp130 => ?_)
                                replace hp130 := zpost_of zh_11 hp130
                                obtain ⟨z130_3, rfl, hz130_3l, hz130_3h, rfl, hInv130⟩ := zq_11 hp130
                                refine hA_iastH (kd := 15) (len := 7) (zs_iast zInj0 em20_133) ⟨rfl, rfl, rfl⟩ (by omega) (by show _ < ((7 : Nat) : Int); omega) (eno rfl) ?_
                                refine hA_aload (zs_aload_n em20_134) rfl ?_
                                refine hA_getf2 (r := 13) (zs_getf (T := TX2) (M := 10) (ci := 2) (j := 0) em20_135 rfl inX2 (by decide) wd_281 ((congrFun xo_3 12).trans rfl)) ⟨_, rfl, rfl⟩ ?_
                                refine hA_getf2 (r := 16) (zs_getf (T := TX6) (M := 15) (ci := 6) (j := 7) em20_138 rfl inX6 (by decide) wd_193 ((congrFun xo_3 122).trans rfl)) ⟨_, rfl, rfl⟩ ?_
                                refine hA_iload (zs_iload_n em20_141) rfl ?_
                                refine hA_aload (zs_aload_n em20_142) rfl ?_
                                refine hA_iload (zs_iload_n em20_143) rfl ?_
                                refine hA_const (k := 4) (zs_iconst (v := 4) em20_144 (by decide +kernel)) (by decide +kernel) (fun z144_3 hz144_3 => ?_)
                                refine hA_add (zs_iadd em20_145) (by omega) (by omega) (fun z145_3 hz145_3 => ?_)
                                refine hA_const (k := 0) (zs_iconst (v := 0) em20_146 (by decide +kernel)) (by decide +kernel) (fun z146_3 hz146_3 => ?_)
                                refine hA_const (k := 99) (zs_bipush (v := 99) em20_147 (by decide +kernel)) (by decide +kernel) (fun z147_3 hz147_3 => ?_)
                                refine hA_callV (as := [.inl z145_3, .inl z146_3, .inl z147_3]) (rest := [.inl z111_3, .inr (.inl (some 16))]) (B' := (0, 0)) (zs_invV (T := TX2) em20_149 zl_11 rfl wd_796 wd_798 wd_12 ((congrFun xo_3 118).trans rfl) xm_11) rfl ⟨_, rfl⟩ (Nat.le_of_ble_eq_true rfl) rfl ⟨Nat.zero_le _, Nat.zero_le _⟩ (zpre_of zh_11 ⟨(by show 6 ≤ d; omega), ⟨_, _, rfl, rfl, ⟨_, _, rfl, ⟨_, rfl, show (0 : Int) ≤ z145_3.toInt by omega, show z145_3.toInt ≤ (400 : Int) by omega⟩, ⟨_, _, rfl, ⟨_, rfl, an_lo _, an_hi _⟩, ⟨_, _, rfl, ⟨_, rfl, an_lo _, an_hi _⟩, rfl⟩⟩⟩⟩, hF_nil, fun _ => (zextp _ 3 _ rfl (by decide) (zextp _ 2 _ rfl (by decide) (zextp _ 2 _ rfl (by decide) (zextp _ 2 _ rfl (by decide) (zextp _ 2 _ rfl (by decide) (zextp _ 2 _ rfl (by decide) (zextp _ 2 _ rfl (by decide) hInv)))))))⟩) (fun r149 I149 hp149 => ?_)
                                replace hp149 := zpost_of zh_11 hp149
                                obtain ⟨z149_3, rfl, hz149_3l, hz149_3h, rfl, hInv149⟩ := zq_11 hp149
                                refine hA_iastH (kd := 16) (len := 7) (zs_iast zInj0 em20_152) ⟨rfl, rfl, rfl⟩ (by omega) (by show _ < ((7 : Nat) : Int); omega) (eno rfl) ?_
                                refine hA_aload (zs_aload_n em20_153) rfl ?_
                                refine hA_getf2 (r := 13) (zs_getf (T := TX2) (M := 10) (ci := 2) (j := 0) em20_154 rfl inX2 (by decide) wd_281 ((congrFun xo_3 12).trans rfl)) ⟨_, rfl, rfl⟩ ?_
                                refine hA_getf2 (r := 17) (zs_getf (T := TX6) (M := 15) (ci := 6) (j := 8) em20_157 rfl inX6 (by decide) wd_200 ((congrFun xo_3 125).trans rfl)) ⟨_, rfl, rfl⟩ ?_
                                refine hA_iload (zs_iload_n em20_160) rfl ?_
                                refine hA_aload (zs_aload_n em20_161) rfl ?_
                                refine hA_getf2 (r := 23) (zs_getf (T := TX2) (M := 10) (ci := 2) (j := 1) em20_162 rfl inX2 (by decide) wd_283 ((congrFun xo_3 21).trans rfl)) ⟨_, rfl, rfl⟩ ?_
                                refine hA_getf2 (r := 26) (zs_getf (T := TX7) (M := 3) (ci := 7) (j := 2) em20_165 rfl inX7 (by decide) wd_273 ((congrFun xo_3 102).trans rfl)) ⟨_, rfl, rfl⟩ ?_
                                refine hA_iload (zs_iload_n em20_168) rfl ?_
                                refine hA_const (k := 2) (zs_iconst (v := 2) em20_169 (by decide +kernel)) (by decide +kernel) (fun z169_3 hz169_3 => ?_)
                                refine hA_add (zs_iadd em20_170) (by omega) (by omega) (fun z170_3 hz170_3 => ?_)
                                refine hA_iald (kd := 26) (len := 401) (zs_iald em20_171) ⟨rfl, rfl, rfl⟩ (by omega) (by show _ < ((401 : Nat) : Int); omega) (fun z171_3 hz171_3 => ?_)
                                rw [zv_fld _ _ _ _ _ (by decide), zv_fld _ _ _ _ _ (by decide), zv_fld _ _ _ _ _ (by decide), zv_fld _ _ _ _ _ (by decide), zv_fld _ _ _ _ _ (by decide), zv_fld _ _ _ _ _ (by decide), zv_fld _ _ _ _ _ (by decide)] at hz171_3
                                refine hA_iast (kd := 17) (len := 7) (zs_iast zInj0 em20_172) ⟨rfl, rfl, rfl⟩ (by omega) (by show _ < ((7 : Nat) : Int); omega) ?_
                                refine hA_const (k := 0) (zs_iconst (v := 0) em20_173 (by decide +kernel)) (by decide +kernel) (fun z173_3 hz173_3 => ?_)
                                refine hA_istore (L' := [some (.inr (.inl (some 12))), some (.inl z20), some (.inl z111_3), some (.inl z173_3), none]) (zs_istore_n em20_174) ⟨Nat.le_of_ble_eq_true rfl, rfl⟩ rfl ?_
                                have hwd : 0 ≤ z171_3.toInt ∧ z171_3.toInt ≤ 8 := by
                                  have h1 := tokP hInv (i := z20.toInt + 2) (by omega) (by omega)
                                  have h2 : zv I 24 (z20.toInt + 2) = 2 := by rw [show z20.toInt + 2 = v36.toInt by omega]; omega
                                  have h3 := h1.2.1 h2
                                  rw [show z170_3.toInt = z20.toInt + 2 by omega] at hz171_3
                                  omega
                                exact loop _ (zupd (zupd (zupd (zupd (zupd (zupd (zupd (zupd I 2 v28) 2 v36) 2 v44) 2 v52) 2 v60) 2 v69) 3 v80_3') (zid 17 z111_3.toInt.toNat) z171_3) (fun id hl h2 h3 => ((zupd_hi2 hl).trans (((zupd_fr h3).trans (((zupd_fr h2).trans (((zupd_fr h2).trans (((zupd_fr h2).trans (((zupd_fr h2).trans (((zupd_fr h2).trans (((zupd_fr h2).trans (rfl))))))))))))))))) ⟨by rw [zf_arr _ _ _ _ _ (by decide), zf_ne (by decide), zf_same]; omega, by rw [zf_arr _ _ _ _ _ (by decide), zf_ne (by decide), zf_same]; omega⟩ ⟨by rw [zf_arr _ _ _ _ _ (by decide), zf_same]; omega, by rw [zf_arr _ _ _ _ _ (by decide), zf_same]; omega⟩ (zInv_wide (zextp _ 3 _ rfl (by decide) (zextp _ 2 _ rfl (by decide) (zextp _ 2 _ rfl (by decide) (zextp _ 2 _ rfl (by decide) (zextp _ 2 _ rfl (by decide) (zextp _ 2 _ rfl (by decide) (zextp _ 2 _ rfl (by decide) hInv))))))) (by omega) (by omega) hwd) z20 (by omega) (by omega) z111_3 (by omega) (by omega) (by rw [zv_at, hz171_3, zv_nk (by decide) (by omega) (by omega), zv_fld _ _ _ _ _ (by decide), zv_fld _ _ _ _ _ (by decide), zv_fld _ _ _ _ _ (by decide), zv_fld _ _ _ _ _ (by decide), zv_fld _ _ _ _ _ (by decide), zv_fld _ _ _ _ _ (by decide), zv_fld _ _ _ _ _ (by decide), show z170_3.toInt = z20.toInt + 2 by omega]) z173_3 (by omega) (by omega) rfl
                          · exfalso
                            omega
  · refine hA_aload (zs_aload_n em20_12) rfl ?_
    refine hA_const (k := 2) (zs_iconst (v := 2) em20_13 (by decide +kernel)) (by decide +kernel) (fun z13 hz13 => ?_)
    refine hA_callV (as := [.inl z13]) (rest := []) (B' := (0, 0)) (zs_invV (T := TX2) em20_14 zl_10 rfl wd_764 wd_766 wd_4 ((congrFun xo_3 70).trans rfl) xm_10) rfl ⟨_, rfl⟩ (Nat.le_of_ble_eq_true rfl) rfl ⟨Nat.zero_le _, Nat.zero_le _⟩ (zpre_of zh_10 ⟨(by show 1 ≤ d; omega), ⟨_, _, rfl, rfl, ⟨_, _, rfl, ⟨_, rfl, show (1 : Int) ≤ z13.toInt by omega, show z13.toInt ≤ (6 : Int) by omega⟩, rfl⟩⟩, (hF_cons (lo := 0) (hi := 400) ⟨by omega, by omega⟩ hF_nil), fun _ => hInv⟩) (fun r14 I14 hp14 => ?_)
    replace hp14 := zpost_of zh_10 hp14
    obtain ⟨z14, rfl, hz14l, hz14h, rfl, hInv14⟩ := zq_10 hp14
    refine hA_pop (zs_pop em20_17) rfl ?_
    refine hA_return ⟨rfl, em20_18⟩ ⟨Nat.le_refl _, Nat.le_refl _⟩ ?_
    exact ⟨⟨_, List.mem_cons_self, rfl, (hCh_cons (fun k hk => none_no hk) ⟨by omega, by omega⟩ (hCh_cons (fun k hk => none_no hk) ⟨by omega, by omega⟩ (hCh_cons (fun k hk => none_no hk) ⟨by omega, by omega⟩ hCh_nil))), (fun id hl hn => rfl), (fun _ h => absurd h List.not_mem_nil)⟩, (fun _ => hInv), (fun h => by cases h)⟩
