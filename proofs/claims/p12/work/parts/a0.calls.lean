set_option maxRecDepth 10000 in
set_option maxHeartbeats 4000000 in
theorem hM_77 : zOKh 77 zc_77 := by
  intro d hc as I q h hq
  obtain ⟨hd, ⟨_, _, rfl, rfl, ⟨_, _, rfl, ⟨x1, rfl, hx1, hx1b⟩, rfl⟩⟩, hF, hI⟩ := h
  have hd : 2 ≤ d + 1 := hd
  have hx1 : ((-2147483648) : Int) ≤ x1.toInt := hx1
  have hx1b : x1.toInt ≤ (2147483647 : Int) := hx1b
  have hf1 : (0 : Int) ≤ zf I 1 ∧ zf I 1 ≤ (2000 : Int) := hF _ List.mem_cons_self
  cases (show some _ = some q from hq)
  refine hmet (L := [some (.inr (.inl (some 0))), some (.inl x1)]) (by decide) (Nat.le_of_ble_eq_true rfl) hc rfl ?_
  refine hA_iload (zs_iload_n em72_0) rfl ?_
  refine hA_if (zs_iflt em72_1 (t := 12) (by decide)) (fun (c1 : x1.toInt < 0) => ?_) (fun (c1 : ¬ x1.toInt < 0) => ?_)
  · refine hA_const (k := (-1)) (zs_iconst (v := (-1)) em72_12 (by decide +kernel)) (by decide +kernel) (fun z12 hz12 => ?_)
    refine hA_ireturn ⟨rfl, em72_13⟩ ⟨Nat.le_refl _, Nat.le_refl _⟩ ?_
    exact ⟨⟨_, List.mem_cons_self, ⟨_, rfl, an_lo _, an_hi _⟩, (hCh_cons (fun k hk => none_no hk) ⟨by omega, by omega⟩ hCh_nil), (fun id hl hn => rfl), (fun _ h => absurd h List.not_mem_nil)⟩, (fun h => by cases h), (fun _ id hid => rfl)⟩
  · refine hA_iload (zs_iload_n em72_4) rfl ?_
    refine hA_aload (zs_aload_n em72_5) rfl ?_
    refine hA_getf0 (id := 1) (zs_getf (T := TX11) (M := 16) (ci := 11) (j := 6) em72_6 rfl inX11 (by decide) wd_554 ((congrFun xo_0 13).trans rfl)) ⟨_, rfl, rfl⟩ (fun z6 hz6 => ?_)
    refine hA_icmp (zs_icmple em72_9 (t := 14) (by decide)) (fun (c9 : x1.toInt ≤ z6.toInt) => ?_) (fun (c9 : ¬ x1.toInt ≤ z6.toInt) => ?_)
    · refine hA_aload (zs_aload_n em72_14) rfl ?_
      refine hA_dup (zs_dup em72_15) rfl ?_
      refine hA_getf0 (id := 1) (zs_getf (T := TX11) (M := 16) (ci := 11) (j := 6) em72_16 rfl inX11 (by decide) wd_554 ((congrFun xo_0 13).trans rfl)) ⟨_, rfl, rfl⟩ (fun z16 hz16 => ?_)
      refine hA_iload (zs_iload_n em72_19) rfl ?_
      refine hA_sub (zs_isub em72_20) (by omega) (by omega) (fun z20 hz20 => ?_)
      refine hA_puti0 (id := 1) (zs_puti zInj0 (T := TX11) (M := 16) (ty := tyX11) (ci := 11) (j := 6) (kd := 0) em72_21 rfl inX11 tyX11_ok nmX11 (by decide) wd_554 (Or.inl ⟨rfl, rfl⟩) rfl ((congrFun xo_0 13).trans rfl)) ⟨_, rfl, rfl⟩ (fun h => by cases h) ?_
      refine hA_aload (zs_aload_n em72_24) rfl ?_
      refine hA_getf0 (id := 1) (zs_getf (T := TX11) (M := 16) (ci := 11) (j := 6) em72_25 rfl inX11 (by decide) wd_554 ((congrFun xo_0 13).trans rfl)) ⟨_, rfl, rfl⟩ (fun z25 hz25 => ?_)
      rw [zf_same] at hz25
      refine hA_ireturn ⟨rfl, em72_28⟩ ⟨Nat.le_refl _, Nat.le_refl _⟩ ?_
      exact ⟨⟨_, List.mem_cons_self, ⟨_, rfl, an_lo _, an_hi _⟩, (hCh_cons (fun k hk => none_no hk) ⟨by rw [zf_same]; omega, by rw [zf_same]; omega⟩ hCh_nil), (fun id hl hn => ((zupd_fr (fun e => by subst e; exact hn _ List.mem_cons_self)).trans (rfl))), (fun _ h => absurd h List.not_mem_nil)⟩, (fun h => by cases h), (fun _ id hid => ((zupd_hi (by decide) hid).trans (rfl)))⟩
    · refine hA_const (k := (-1)) (zs_iconst (v := (-1)) em72_12 (by decide +kernel)) (by decide +kernel) (fun z12' hz12' => ?_)
      refine hA_ireturn ⟨rfl, em72_13⟩ ⟨Nat.le_refl _, Nat.le_refl _⟩ ?_
      exact ⟨⟨_, List.mem_cons_self, ⟨_, rfl, an_lo _, an_hi _⟩, (hCh_cons (fun k hk => none_no hk) ⟨by omega, by omega⟩ hCh_nil), (fun id hl hn => rfl), (fun _ h => absurd h List.not_mem_nil)⟩, (fun h => by cases h), (fun _ id hid => rfl)⟩
set_option maxRecDepth 10000 in
set_option maxHeartbeats 4000000 in
theorem hM_126 : zOKh 126 zc_126 := by
  intro d hc as I q h hq
  obtain ⟨hd, ⟨_, _, rfl, rfl, ⟨_, _, rfl, ⟨x1, rfl, hx1, hx1b⟩, rfl⟩⟩, hF, hI⟩ := h
  have hd : 2 ≤ d + 1 := hd
  have hx1 : ((-2147483648) : Int) ≤ x1.toInt := hx1
  have hx1b : x1.toInt ≤ (2147483647 : Int) := hx1b
  have hf10 : (0 : Int) ≤ zf I 10 ∧ zf I 10 ≤ (2000 : Int) := hF _ List.mem_cons_self
  cases (show some _ = some q from hq)
  refine hmet (L := [some (.inr (.inl (some 75))), some (.inl x1)]) (by decide) (Nat.le_of_ble_eq_true rfl) hc rfl ?_
  refine hA_iload (zs_iload_n em119_0) rfl ?_
  refine hA_if (zs_iflt em119_1 (t := 12) (by decide)) (fun (c1 : x1.toInt < 0) => ?_) (fun (c1 : ¬ x1.toInt < 0) => ?_)
  · refine hA_const (k := (-1)) (zs_iconst (v := (-1)) em119_12 (by decide +kernel)) (by decide +kernel) (fun z12 hz12 => ?_)
    refine hA_ireturn ⟨rfl, em119_13⟩ ⟨Nat.le_refl _, Nat.le_refl _⟩ ?_
    exact ⟨⟨_, List.mem_cons_self, ⟨_, rfl, an_lo _, an_hi _⟩, (hCh_cons (fun k hk => none_no hk) ⟨by omega, by omega⟩ hCh_nil), (fun id hl hn => rfl), (fun _ h => absurd h List.not_mem_nil)⟩, (fun h => by cases h), (fun _ id hid => rfl)⟩
  · refine hA_iload (zs_iload_n em119_4) rfl ?_
    refine hA_aload (zs_aload_n em119_5) rfl ?_
    refine hA_getf0 (id := 10) (zs_getf (T := TX12) (M := 70) (ci := 12) (j := 12) em119_6 rfl inX12 (by decide) wd_1283 ((congrFun xo_12 163).trans rfl)) ⟨_, rfl, rfl⟩ (fun z6 hz6 => ?_)
    refine hA_icmp (zs_icmple em119_9 (t := 14) (by decide)) (fun (c9 : x1.toInt ≤ z6.toInt) => ?_) (fun (c9 : ¬ x1.toInt ≤ z6.toInt) => ?_)
    · refine hA_aload (zs_aload_n em119_14) rfl ?_
      refine hA_dup (zs_dup em119_15) rfl ?_
      refine hA_getf0 (id := 10) (zs_getf (T := TX12) (M := 70) (ci := 12) (j := 12) em119_16 rfl inX12 (by decide) wd_1283 ((congrFun xo_12 163).trans rfl)) ⟨_, rfl, rfl⟩ (fun z16 hz16 => ?_)
      refine hA_iload (zs_iload_n em119_19) rfl ?_
      refine hA_sub (zs_isub em119_20) (by omega) (by omega) (fun z20 hz20 => ?_)
      refine hA_puti0 (id := 10) (zs_puti zInj0 (T := TX12) (M := 70) (ty := tyX12) (ci := 12) (j := 12) (kd := 0) em119_21 rfl inX12 tyX12_ok nmX12 (by decide) wd_1283 (Or.inl ⟨rfl, rfl⟩) rfl ((congrFun xo_12 163).trans rfl)) ⟨_, rfl, rfl⟩ (fun h => by cases h) ?_
      refine hA_aload (zs_aload_n em119_24) rfl ?_
      refine hA_getf0 (id := 10) (zs_getf (T := TX12) (M := 70) (ci := 12) (j := 12) em119_25 rfl inX12 (by decide) wd_1283 ((congrFun xo_12 163).trans rfl)) ⟨_, rfl, rfl⟩ (fun z25 hz25 => ?_)
      rw [zf_same] at hz25
      refine hA_ireturn ⟨rfl, em119_28⟩ ⟨Nat.le_refl _, Nat.le_refl _⟩ ?_
      exact ⟨⟨_, List.mem_cons_self, ⟨_, rfl, an_lo _, an_hi _⟩, (hCh_cons (fun k hk => none_no hk) ⟨by rw [zf_same]; omega, by rw [zf_same]; omega⟩ hCh_nil), (fun id hl hn => ((zupd_fr (fun e => by subst e; exact hn _ List.mem_cons_self)).trans (rfl))), (fun _ h => absurd h List.not_mem_nil)⟩, (fun h => by cases h), (fun _ id hid => ((zupd_hi (by decide) hid).trans (rfl)))⟩
    · refine hA_const (k := (-1)) (zs_iconst (v := (-1)) em119_12 (by decide +kernel)) (by decide +kernel) (fun z12' hz12' => ?_)
      refine hA_ireturn ⟨rfl, em119_13⟩ ⟨Nat.le_refl _, Nat.le_refl _⟩ ?_
      exact ⟨⟨_, List.mem_cons_self, ⟨_, rfl, an_lo _, an_hi _⟩, (hCh_cons (fun k hk => none_no hk) ⟨by omega, by omega⟩ hCh_nil), (fun id hl hn => rfl), (fun _ h => absurd h List.not_mem_nil)⟩, (fun h => by cases h), (fun _ id hid => rfl)⟩
theorem zOKa_h {j : Nat} {c : aC} (h : zOKa j c) : zOKh j c := h zpre zpost zTieH
set_option maxRecDepth 100000 in
theorem allC : ∀ (j : Nat) (c : aC), ZC j = some c → zOKh j c := (xB_n (xB_n (xB_n (xB_n (xB_n (xB_n (xB_n (xB_l hM_0) (xB_n (xB_l hM_1) (xB_l (zOKa_h zM_2)))) (xB_n (xB_n (xB_l hM_3) (xB_l (zOKa_h zM_4))) (xB_n (xB_l (zOKa_h zM_5)) (xB_l (zOKa_h zM_6))))) (xB_n (xB_n (xB_n (xB_l (zOKa_h zM_7)) (xB_l (zOKa_h zM_8))) (xB_n (xB_l (zOKa_h zM_9)) (xB_l (zOKa_h zM_10)))) (xB_n (xB_n (xB_l hM_11) (xB_l hM_12)) (xB_n (xB_l (zOKa_h zM_13)) (xB_l (zOKa_h zM_14)))))) (xB_n (xB_n (xB_n (xB_l (zOKa_h zM_15)) (xB_n (xB_l (zOKa_h zM_16)) (xB_l hM_17))) (xB_n (xB_n (xB_l hM_18) (xB_l (zOKa_h zM_19))) (xB_n (xB_l hM_20) (xB_l (zOKa_h zM_21))))) (xB_n (xB_n (xB_n (xB_l (zOKa_h zM_22)) (xB_l (zOKa_h zM_23))) (xB_n (xB_l hM_24) (xB_l (zOKa_h zM_25)))) (xB_n (xB_n (xB_l (zOKa_h zM_26)) (xB_l (zOKa_h zM_27))) (xB_n (xB_l (zOKa_h zM_28)) (xB_l (zOKa_h zM_29))))))) (xB_n (xB_n (xB_n (xB_n (xB_l (zOKa_h zM_30)) (xB_n (xB_l (zOKa_h zM_31)) (xB_l (zOKa_h zM_32)))) (xB_n (xB_n (xB_l (zOKa_h zM_33)) (xB_l (zOKa_h zM_34))) (xB_n (xB_l (zOKa_h zM_35)) (xB_l (zOKa_h zM_36))))) (xB_n (xB_n (xB_n (xB_l (zOKa_h zM_37)) (xB_l (zOKa_h zM_38))) (xB_n (xB_l (zOKa_h zM_39)) (xB_l (zOKa_h zM_40)))) (xB_n (xB_n (xB_l (zOKa_h zM_41)) (xB_l (zOKa_h zM_42))) (xB_n (xB_l (zOKa_h zM_43)) (xB_l hM_44))))) (xB_n (xB_n (xB_n (xB_n (xB_l hM_45) (xB_l hM_46)) (xB_n (xB_l hM_47) (xB_l (zOKa_h zM_48)))) (xB_n (xB_n (xB_l (zOKa_h zM_49)) (xB_l (zOKa_h zM_50))) (xB_n (xB_l (zOKa_h zM_51)) (xB_l hM_52)))) (xB_n (xB_n (xB_n (xB_l (zOKa_h zM_53)) (xB_l (zOKa_h zM_54))) (xB_n (xB_l (zOKa_h zM_55)) (xB_l (zOKa_h zM_56)))) (xB_n (xB_n (xB_l (zOKa_h zM_57)) (xB_l (zOKa_h zM_58))) (xB_n (xB_l (zOKa_h zM_59)) (xB_l (zOKa_h zM_60)))))))) (xB_n (xB_n (xB_n (xB_n (xB_n (xB_l (zOKa_h zM_61)) (xB_n (xB_l (zOKa_h zM_62)) (xB_l (zOKa_h zM_63)))) (xB_n (xB_n (xB_l (zOKa_h zM_64)) (xB_l (zOKa_h zM_65))) (xB_n (xB_l (zOKa_h zM_66)) (xB_l (zOKa_h zM_67))))) (xB_n (xB_n (xB_n (xB_l (zOKa_h zM_68)) (xB_l (zOKa_h zM_69))) (xB_n (xB_l (zOKa_h zM_70)) (xB_l (zOKa_h zM_71)))) (xB_n (xB_n (xB_l (zOKa_h zM_72)) (xB_l (zOKa_h zM_73))) (xB_n (xB_l (zOKa_h zM_74)) (xB_l (zOKa_h zM_75)))))) (xB_n (xB_n (xB_n (xB_n (xB_l (zOKa_h zM_76)) (xB_l hM_77)) (xB_n (xB_l (zOKa_h zM_78)) (xB_l (zOKa_h zM_79)))) (xB_n (xB_n (xB_l (zOKa_h zM_80)) (xB_l (zOKa_h zM_81))) (xB_n (xB_l (zOKa_h zM_82)) (xB_l (zOKa_h zM_83))))) (xB_n (xB_n (xB_n (xB_l (zOKa_h zM_84)) (xB_l (zOKa_h zM_85))) (xB_n (xB_l (zOKa_h zM_86)) (xB_l (zOKa_h zM_87)))) (xB_n (xB_n (xB_l (zOKa_h zM_88)) (xB_l (zOKa_h zM_89))) (xB_n (xB_l (zOKa_h zM_90)) (xB_l hM_91)))))) (xB_n (xB_n (xB_n (xB_n (xB_l (zOKa_h zM_92)) (xB_n (xB_l (zOKa_h zM_93)) (xB_l (zOKa_h zM_94)))) (xB_n (xB_n (xB_l (zOKa_h zM_95)) (xB_l (zOKa_h zM_96))) (xB_n (xB_l (zOKa_h zM_97)) (xB_l (zOKa_h zM_98))))) (xB_n (xB_n (xB_n (xB_l (zOKa_h zM_99)) (xB_l (zOKa_h zM_100))) (xB_n (xB_l (zOKa_h zM_101)) (xB_l (zOKa_h zM_102)))) (xB_n (xB_n (xB_l (zOKa_h zM_103)) (xB_l hM_104)) (xB_n (xB_l (zOKa_h zM_105)) (xB_l (zOKa_h zM_106)))))) (xB_n (xB_n (xB_n (xB_n (xB_l (zOKa_h zM_107)) (xB_l (zOKa_h zM_108))) (xB_n (xB_l (zOKa_h zM_109)) (xB_l (zOKa_h zM_110)))) (xB_n (xB_n (xB_l (zOKa_h zM_111)) (xB_l (zOKa_h zM_112))) (xB_n (xB_l (zOKa_h zM_113)) (xB_l (zOKa_h zM_114))))) (xB_n (xB_n (xB_n (xB_l (zOKa_h zM_115)) (xB_l (zOKa_h zM_116))) (xB_n (xB_l (zOKa_h zM_117)) (xB_l (zOKa_h zM_118)))) (xB_n (xB_n (xB_l (zOKa_h zM_119)) (xB_l (zOKa_h zM_120))) (xB_n (xB_l (zOKa_h zM_121)) (xB_l (zOKa_h zM_122))))))))) (xB_n (xB_n (xB_n (xB_n (xB_n (xB_n (xB_l (zOKa_h zM_123)) (xB_n (xB_l (zOKa_h zM_124)) (xB_l (zOKa_h zM_125)))) (xB_n (xB_n (xB_l hM_126) (xB_l (zOKa_h zM_127))) (xB_n (xB_l (zOKa_h zM_128)) (xB_l (zOKa_h zM_129))))) (xB_n (xB_n (xB_n (xB_l (zOKa_h zM_130)) (xB_l (zOKa_h zM_131))) (xB_n (xB_l (zOKa_h zM_132)) (xB_l (zOKa_h zM_133)))) (xB_n (xB_n (xB_l (zOKa_h zM_134)) (xB_l (zOKa_h zM_135))) (xB_n (xB_l (zOKa_h zM_136)) (xB_l (zOKa_h zM_137)))))) (xB_n (xB_n (xB_n (xB_l (zOKa_h zM_138)) (xB_n (xB_l (zOKa_h zM_139)) (xB_l (zOKa_h zM_140)))) (xB_n (xB_n (xB_l (zOKa_h zM_141)) (xB_l (zOKa_h zM_142))) (xB_n (xB_l (zOKa_h zM_143)) (xB_l (zOKa_h zM_144))))) (xB_n (xB_n (xB_n (xB_l (zOKa_h zM_145)) (xB_l (zOKa_h zM_146))) (xB_n (xB_l (zOKa_h zM_147)) (xB_l (zOKa_h zM_148)))) (xB_n (xB_n (xB_l (zOKa_h zM_149)) (xB_l (zOKa_h zM_150))) (xB_n (xB_l (zOKa_h zM_151)) (xB_l (zOKa_h zM_152))))))) (xB_n (xB_n (xB_n (xB_n (xB_l hM_153) (xB_n (xB_l (zOKa_h zM_154)) (xB_l (zOKa_h zM_155)))) (xB_n (xB_n (xB_l (zOKa_h zM_156)) (xB_l (zOKa_h zM_157))) (xB_n (xB_l (zOKa_h zM_158)) (xB_l (zOKa_h zM_159))))) (xB_n (xB_n (xB_n (xB_l (zOKa_h zM_160)) (xB_l (zOKa_h zM_161))) (xB_n (xB_l (zOKa_h zM_162)) (xB_l (zOKa_h zM_163)))) (xB_n (xB_n (xB_l (zOKa_h zM_164)) (xB_l (zOKa_h zM_165))) (xB_n (xB_l (zOKa_h zM_166)) (xB_l (zOKa_h zM_167)))))) (xB_n (xB_n (xB_n (xB_n (xB_l (zOKa_h zM_168)) (xB_l (zOKa_h zM_169))) (xB_n (xB_l (zOKa_h zM_170)) (xB_l (zOKa_h zM_171)))) (xB_n (xB_n (xB_l (zOKa_h zM_172)) (xB_l (zOKa_h zM_173))) (xB_n (xB_l (zOKa_h zM_174)) (xB_l (zOKa_h zM_175))))) (xB_n (xB_n (xB_n (xB_l (zOKa_h zM_176)) (xB_l (zOKa_h zM_177))) (xB_n (xB_l (zOKa_h zM_178)) (xB_l (zOKa_h zM_179)))) (xB_n (xB_n (xB_l (zOKa_h zM_180)) (xB_l (zOKa_h zM_181))) (xB_n (xB_l (zOKa_h zM_182)) (xB_l (zOKa_h zM_183)))))))) (xB_n (xB_n (xB_n (xB_n (xB_n (xB_l (zOKa_h zM_184)) (xB_n (xB_l hM_185) (xB_l (zOKa_h zM_186)))) (xB_n (xB_n (xB_l (zOKa_h zM_187)) (xB_l (zOKa_h zM_188))) (xB_n (xB_l (zOKa_h zM_189)) (xB_l (zOKa_h zM_190))))) (xB_n (xB_n (xB_n (xB_l (zOKa_h zM_191)) (xB_l (zOKa_h zM_192))) (xB_n (xB_l (zOKa_h zM_193)) (xB_l (zOKa_h zM_194)))) (xB_n (xB_n (xB_l (zOKa_h zM_195)) (xB_l (zOKa_h zM_196))) (xB_n (xB_l (zOKa_h zM_197)) (xB_l (zOKa_h zM_198)))))) (xB_n (xB_n (xB_n (xB_n (xB_l (zOKa_h zM_199)) (xB_l (zOKa_h zM_200))) (xB_n (xB_l (zOKa_h zM_201)) (xB_l (zOKa_h zM_202)))) (xB_n (xB_n (xB_l (zOKa_h zM_203)) (xB_l (zOKa_h zM_204))) (xB_n (xB_l (zOKa_h zM_205)) (xB_l (zOKa_h zM_206))))) (xB_n (xB_n (xB_n (xB_l hM_207) (xB_l hM_208)) (xB_n (xB_l hM_209) (xB_l (zOKa_h zM_210)))) (xB_n (xB_n (xB_l (zOKa_h zM_211)) (xB_l (zOKa_h zM_212))) (xB_n (xB_l (zOKa_h zM_213)) (xB_l (zOKa_h zM_214))))))) (xB_n (xB_n (xB_n (xB_n (xB_l (zOKa_h zM_215)) (xB_n (xB_l (zOKa_h zM_216)) (xB_l (zOKa_h zM_217)))) (xB_n (xB_n (xB_l (zOKa_h zM_218)) (xB_l hM_219)) (xB_n (xB_l (zOKa_h zM_220)) (xB_l hM_221)))) (xB_n (xB_n (xB_n (xB_l (zOKa_h zM_222)) (xB_l (zOKa_h zM_223))) (xB_n (xB_l (zOKa_h zM_224)) (xB_l (zOKa_h zM_225)))) (xB_n (xB_n (xB_l (zOKa_h zM_226)) (xB_l (zOKa_h zM_227))) (xB_n (xB_l (zOKa_h zM_228)) (xB_l (zOKa_h zM_229)))))) (xB_n (xB_n (xB_n (xB_n (xB_l (zOKa_h zM_230)) (xB_l (zOKa_h zM_231))) (xB_n (xB_l (zOKa_h zM_232)) (xB_l (zOKa_h zM_233)))) (xB_n (xB_n (xB_l (zOKa_h zM_234)) (xB_l (zOKa_h zM_235))) (xB_n (xB_l (zOKa_h zM_236)) (xB_l (zOKa_h zM_237))))) (xB_n (xB_n (xB_n (xB_l (zOKa_h zM_238)) (xB_l (zOKa_h zM_239))) (xB_n (xB_l (zOKa_h zM_240)) (xB_l (zOKa_h zM_241)))) (xB_n (xB_n (xB_l (zOKa_h zM_242)) (xB_l (zOKa_h zM_244))) (xB_n (xB_l (zOKa_h zM_245)) (xB_l (zOKa_h zM_279))))))))))
set_option maxRecDepth 100000 in
theorem allD : ∀ (j : Nat) (c : aC), ZC j = some c → 1 ≤ c.2.2.2.2 := (xB_n (xB_n (xB_n (xB_n (xB_n (xB_n (xB_n (xB_l (by decide)) (xB_n (xB_l (by decide)) (xB_l (by decide)))) (xB_n (xB_n (xB_l (by decide)) (xB_l (by decide))) (xB_n (xB_l (by decide)) (xB_l (by decide))))) (xB_n (xB_n (xB_n (xB_l (by decide)) (xB_l (by decide))) (xB_n (xB_l (by decide)) (xB_l (by decide)))) (xB_n (xB_n (xB_l (by decide)) (xB_l (by decide))) (xB_n (xB_l (by decide)) (xB_l (by decide)))))) (xB_n (xB_n (xB_n (xB_l (by decide)) (xB_n (xB_l (by decide)) (xB_l (by decide)))) (xB_n (xB_n (xB_l (by decide)) (xB_l (by decide))) (xB_n (xB_l (by decide)) (xB_l (by decide))))) (xB_n (xB_n (xB_n (xB_l (by decide)) (xB_l (by decide))) (xB_n (xB_l (by decide)) (xB_l (by decide)))) (xB_n (xB_n (xB_l (by decide)) (xB_l (by decide))) (xB_n (xB_l (by decide)) (xB_l (by decide))))))) (xB_n (xB_n (xB_n (xB_n (xB_l (by decide)) (xB_n (xB_l (by decide)) (xB_l (by decide)))) (xB_n (xB_n (xB_l (by decide)) (xB_l (by decide))) (xB_n (xB_l (by decide)) (xB_l (by decide))))) (xB_n (xB_n (xB_n (xB_l (by decide)) (xB_l (by decide))) (xB_n (xB_l (by decide)) (xB_l (by decide)))) (xB_n (xB_n (xB_l (by decide)) (xB_l (by decide))) (xB_n (xB_l (by decide)) (xB_l (by decide)))))) (xB_n (xB_n (xB_n (xB_n (xB_l (by decide)) (xB_l (by decide))) (xB_n (xB_l (by decide)) (xB_l (by decide)))) (xB_n (xB_n (xB_l (by decide)) (xB_l (by decide))) (xB_n (xB_l (by decide)) (xB_l (by decide))))) (xB_n (xB_n (xB_n (xB_l (by decide)) (xB_l (by decide))) (xB_n (xB_l (by decide)) (xB_l (by decide)))) (xB_n (xB_n (xB_l (by decide)) (xB_l (by decide))) (xB_n (xB_l (by decide)) (xB_l (by decide)))))))) (xB_n (xB_n (xB_n (xB_n (xB_n (xB_l (by decide)) (xB_n (xB_l (by decide)) (xB_l (by decide)))) (xB_n (xB_n (xB_l (by decide)) (xB_l (by decide))) (xB_n (xB_l (by decide)) (xB_l (by decide))))) (xB_n (xB_n (xB_n (xB_l (by decide)) (xB_l (by decide))) (xB_n (xB_l (by decide)) (xB_l (by decide)))) (xB_n (xB_n (xB_l (by decide)) (xB_l (by decide))) (xB_n (xB_l (by decide)) (xB_l (by decide)))))) (xB_n (xB_n (xB_n (xB_n (xB_l (by decide)) (xB_l (by decide))) (xB_n (xB_l (by decide)) (xB_l (by decide)))) (xB_n (xB_n (xB_l (by decide)) (xB_l (by decide))) (xB_n (xB_l (by decide)) (xB_l (by decide))))) (xB_n (xB_n (xB_n (xB_l (by decide)) (xB_l (by decide))) (xB_n (xB_l (by decide)) (xB_l (by decide)))) (xB_n (xB_n (xB_l (by decide)) (xB_l (by decide))) (xB_n (xB_l (by decide)) (xB_l (by decide))))))) (xB_n (xB_n (xB_n (xB_n (xB_l (by decide)) (xB_n (xB_l (by decide)) (xB_l (by decide)))) (xB_n (xB_n (xB_l (by decide)) (xB_l (by decide))) (xB_n (xB_l (by decide)) (xB_l (by decide))))) (xB_n (xB_n (xB_n (xB_l (by decide)) (xB_l (by decide))) (xB_n (xB_l (by decide)) (xB_l (by decide)))) (xB_n (xB_n (xB_l (by decide)) (xB_l (by decide))) (xB_n (xB_l (by decide)) (xB_l (by decide)))))) (xB_n (xB_n (xB_n (xB_n (xB_l (by decide)) (xB_l (by decide))) (xB_n (xB_l (by decide)) (xB_l (by decide)))) (xB_n (xB_n (xB_l (by decide)) (xB_l (by decide))) (xB_n (xB_l (by decide)) (xB_l (by decide))))) (xB_n (xB_n (xB_n (xB_l (by decide)) (xB_l (by decide))) (xB_n (xB_l (by decide)) (xB_l (by decide)))) (xB_n (xB_n (xB_l (by decide)) (xB_l (by decide))) (xB_n (xB_l (by decide)) (xB_l (by decide))))))))) (xB_n (xB_n (xB_n (xB_n (xB_n (xB_n (xB_l (by decide)) (xB_n (xB_l (by decide)) (xB_l (by decide)))) (xB_n (xB_n (xB_l (by decide)) (xB_l (by decide))) (xB_n (xB_l (by decide)) (xB_l (by decide))))) (xB_n (xB_n (xB_n (xB_l (by decide)) (xB_l (by decide))) (xB_n (xB_l (by decide)) (xB_l (by decide)))) (xB_n (xB_n (xB_l (by decide)) (xB_l (by decide))) (xB_n (xB_l (by decide)) (xB_l (by decide)))))) (xB_n (xB_n (xB_n (xB_l (by decide)) (xB_n (xB_l (by decide)) (xB_l (by decide)))) (xB_n (xB_n (xB_l (by decide)) (xB_l (by decide))) (xB_n (xB_l (by decide)) (xB_l (by decide))))) (xB_n (xB_n (xB_n (xB_l (by decide)) (xB_l (by decide))) (xB_n (xB_l (by decide)) (xB_l (by decide)))) (xB_n (xB_n (xB_l (by decide)) (xB_l (by decide))) (xB_n (xB_l (by decide)) (xB_l (by decide))))))) (xB_n (xB_n (xB_n (xB_n (xB_l (by decide)) (xB_n (xB_l (by decide)) (xB_l (by decide)))) (xB_n (xB_n (xB_l (by decide)) (xB_l (by decide))) (xB_n (xB_l (by decide)) (xB_l (by decide))))) (xB_n (xB_n (xB_n (xB_l (by decide)) (xB_l (by decide))) (xB_n (xB_l (by decide)) (xB_l (by decide)))) (xB_n (xB_n (xB_l (by decide)) (xB_l (by decide))) (xB_n (xB_l (by decide)) (xB_l (by decide)))))) (xB_n (xB_n (xB_n (xB_n (xB_l (by decide)) (xB_l (by decide))) (xB_n (xB_l (by decide)) (xB_l (by decide)))) (xB_n (xB_n (xB_l (by decide)) (xB_l (by decide))) (xB_n (xB_l (by decide)) (xB_l (by decide))))) (xB_n (xB_n (xB_n (xB_l (by decide)) (xB_l (by decide))) (xB_n (xB_l (by decide)) (xB_l (by decide)))) (xB_n (xB_n (xB_l (by decide)) (xB_l (by decide))) (xB_n (xB_l (by decide)) (xB_l (by decide)))))))) (xB_n (xB_n (xB_n (xB_n (xB_n (xB_l (by decide)) (xB_n (xB_l (by decide)) (xB_l (by decide)))) (xB_n (xB_n (xB_l (by decide)) (xB_l (by decide))) (xB_n (xB_l (by decide)) (xB_l (by decide))))) (xB_n (xB_n (xB_n (xB_l (by decide)) (xB_l (by decide))) (xB_n (xB_l (by decide)) (xB_l (by decide)))) (xB_n (xB_n (xB_l (by decide)) (xB_l (by decide))) (xB_n (xB_l (by decide)) (xB_l (by decide)))))) (xB_n (xB_n (xB_n (xB_n (xB_l (by decide)) (xB_l (by decide))) (xB_n (xB_l (by decide)) (xB_l (by decide)))) (xB_n (xB_n (xB_l (by decide)) (xB_l (by decide))) (xB_n (xB_l (by decide)) (xB_l (by decide))))) (xB_n (xB_n (xB_n (xB_l (by decide)) (xB_l (by decide))) (xB_n (xB_l (by decide)) (xB_l (by decide)))) (xB_n (xB_n (xB_l (by decide)) (xB_l (by decide))) (xB_n (xB_l (by decide)) (xB_l (by decide))))))) (xB_n (xB_n (xB_n (xB_n (xB_l (by decide)) (xB_n (xB_l (by decide)) (xB_l (by decide)))) (xB_n (xB_n (xB_l (by decide)) (xB_l (by decide))) (xB_n (xB_l (by decide)) (xB_l (by decide))))) (xB_n (xB_n (xB_n (xB_l (by decide)) (xB_l (by decide))) (xB_n (xB_l (by decide)) (xB_l (by decide)))) (xB_n (xB_n (xB_l (by decide)) (xB_l (by decide))) (xB_n (xB_l (by decide)) (xB_l (by decide)))))) (xB_n (xB_n (xB_n (xB_n (xB_l (by decide)) (xB_l (by decide))) (xB_n (xB_l (by decide)) (xB_l (by decide)))) (xB_n (xB_n (xB_l (by decide)) (xB_l (by decide))) (xB_n (xB_l (by decide)) (xB_l (by decide))))) (xB_n (xB_n (xB_n (xB_l (by decide)) (xB_l (by decide))) (xB_n (xB_l (by decide)) (xB_l (by decide)))) (xB_n (xB_n (xB_l (by decide)) (xB_l (by decide))) (xB_n (xB_l (by decide)) (xB_l (by decide))))))))))
theorem allX {d j : Nat} (hc : zCalls zG0 PZ zbd zpre zpost d) {as : List zV} {I : zI} {q : xP} (hp : hpre (d + 1) j as I) (hq : PZ j = some q) : zMet zG0 q (d + 1) (zbd j) as I (hpost j as I) := by
  unfold hpre at hp
  split at hp
  · exact hM_275 d hc as I q hp hq
  · exact hM_276 d hc as I q hp hq
  · exact hM_277 d hc as I q hp hq
  · exact hM_278 d hc as I q hp hq
  · exact hM_280 d hc as I q hp hq
  · exact hM_282 d hc as I q hp hq
  · exact hM_265 d hc as I q hp hq
  · exact hM_283 d hc as I q hp hq
  · exact hM_284 d hc as I q hp hq
  · exact hM_269 d hc as I q hp hq
  · exact hM_270 d hc as I q hp hq
  · exact hM_268 d hc as I q hp hq
  · exact hM_267 d hc as I q hp hq
  · exact hM_266 d hc as I q hp hq
  · exact hM_264 d hc as I q hp hq
  · exact hM_260 d hc as I q hp hq
  · exact hM_285 d hc as I q hp hq
  · exact hM_261 d hc as I q hp hq
  · exact hM_263 d hc as I q hp hq
  · exact hM_262 d hc as I q hp hq
  · exact hM_259 d hc as I q hp hq
  · exact hM_247 d hc as I q hp hq
  · exact hM_281 d hc as I q hp hq
  · exact hM_252 d hc as I q hp hq
  · exact hM_250 d hc as I q hp hq
  · exact hM_248 d hc as I q hp hq
  · exact hM_249 d hc as I q hp hq
  · exact hM_254 d hc as I q hp hq
  · exact hM_255 d hc as I q hp hq
  · exact hM_253 d hc as I q hp hq
  · exact hM_256 d hc as I q hp hq
  · exact hM_257 d hc as I q hp hq
  · exact hM_258 d hc as I q hp hq
  · exact hM_251 d hc as I q hp hq
  · exact hM_287 d hc as I q hp hq
  · exact hM_246 d hc as I q hp hq
  · exact hM_286 d hc as I q hp hq
  · exact hM_274 d hc as I q hp hq
  · exact hM_271 d hc as I q hp hq
  · exact hM_272 d hc as I q hp hq
  · exact hM_273 d hc as I q hp hq
  · exact hM_288 d hc as I q hp hq
  · exact hp.elim
theorem allX0 {j : Nat} {as : List zV} {I : zI} (hp : hpre 0 j as I) : False := by
  unfold hpre at hp
  split at hp
  · have hp : hpr_275 0 as I := hp
    exact absurd hp.1 (by decide)
  · have hp : hpr_276 0 as I := hp
    exact absurd hp.1 (by decide)
  · have hp : hpr_277 0 as I := hp
    exact absurd hp.1 (by decide)
  · have hp : hpr_278 0 as I := hp
    exact absurd hp.1 (by decide)
  · have hp : hpr_280 0 as I := hp
    exact absurd hp.1 (by decide)
  · have hp : hpr_282 0 as I := hp
    exact absurd hp.1 (by decide)
  · have hp : hpr_265 0 as I := hp
    exact absurd hp.1 (by decide)
  · have hp : hpr_283 0 as I := hp
    exact absurd hp.1 (by decide)
  · have hp : hpr_284 0 as I := hp
    exact absurd hp.1 (by decide)
  · have hp : hpr_269 0 as I := hp
    exact absurd hp.1 (by decide)
  · have hp : hpr_270 0 as I := hp
    exact absurd hp.1 (by decide)
  · have hp : hpr_268 0 as I := hp
    obtain ⟨_, rfl, hd, -⟩ := hp
    omega
  · have hp : hpr_267 0 as I := hp
    obtain ⟨_, rfl, hd, -⟩ := hp
    omega
  · have hp : hpr_266 0 as I := hp
    obtain ⟨_, rfl, hd, -⟩ := hp
    omega
  · have hp : hpr_264 0 as I := hp
    exact absurd hp.1 (by decide)
  · have hp : hpr_260 0 as I := hp
    exact absurd hp.1 (by decide)
  · have hp : hpr_285 0 as I := hp
    exact absurd hp.1 (by decide)
  · have hp : hpr_261 0 as I := hp
    exact absurd hp.1 (by decide)
  · have hp : hpr_263 0 as I := hp
    exact absurd hp.1 (by decide)
  · have hp : hpr_262 0 as I := hp
    exact absurd hp.1 (by decide)
  · have hp : hpr_259 0 as I := hp
    exact absurd hp.1 (by decide)
  · have hp : hpr_247 0 as I := hp
    exact absurd hp.1 (by decide)
  · have hp : hpr_281 0 as I := hp
    exact absurd hp.1 (by decide)
  · have hp : hpr_252 0 as I := hp
    exact absurd hp.1 (by decide)
  · have hp : hpr_250 0 as I := hp
    exact absurd hp.1 (by decide)
  · have hp : hpr_248 0 as I := hp
    exact absurd hp.1 (by decide)
  · have hp : hpr_249 0 as I := hp
    exact absurd hp.1 (by decide)
  · have hp : hpr_254 0 as I := hp
    exact absurd hp.1 (by decide)
  · have hp : hpr_255 0 as I := hp
    exact absurd hp.1 (by decide)
  · have hp : hpr_253 0 as I := hp
    exact absurd hp.1 (by decide)
  · have hp : hpr_256 0 as I := hp
    exact absurd hp.1 (by decide)
  · have hp : hpr_257 0 as I := hp
    exact absurd hp.1 (by decide)
  · have hp : hpr_258 0 as I := hp
    exact absurd hp.1 (by decide)
  · have hp : hpr_251 0 as I := hp
    exact absurd hp.1 (by decide)
  · have hp : hpr_287 0 as I := hp
    exact absurd hp.1 (by decide)
  · have hp : hpr_246 0 as I := hp
    exact absurd hp.1 (by decide)
  · have hp : hpr_286 0 as I := hp
    exact absurd hp.1 (by decide)
  · have hp : hpr_274 0 as I := hp
    exact absurd hp.1 (by decide)
  · have hp : hpr_271 0 as I := hp
    exact absurd hp.1 (by decide)
  · have hp : hpr_272 0 as I := hp
    exact absurd hp.1 (by decide)
  · have hp : hpr_273 0 as I := hp
    exact absurd hp.1 (by decide)
  · have hp : hpr_288 0 as I := hp
    exact absurd hp.1 (by decide)
  · exact hp
theorem calls_ok : ∀ d, zCalls zG0 PZ zbd zpre zpost d
  | 0 => fun j as I q hp hq => by
    unfold zpre at hp
    cases hz : ZC j with
    | some c =>
      rw [hz] at hp
      have h1 := allD j c hz
      have h2 : c.2.2.2.2 ≤ 0 := hp.1
      omega
    | none =>
      rw [hz] at hp
      exact (allX0 hp).elim
  | d + 1 => fun j as I q hp hq => by
    unfold zpre at hp
    cases hz : ZC j with
    | some c =>
      rw [hz] at hp
      have h := allC j c hz d (calls_ok d) as I q hp hq
      have e : zpost j as I = fun r I' => aPost zInv c as I r I' := by
        funext r I'
        unfold zpost
        rw [hz]
      rw [e]
      exact h
    | none =>
      rw [hz] at hp
      have h := allX (calls_ok d) hp hq
      have e : zpost j as I = hpost j as I := by
        funext r I'
        unfold zpost
        rw [hz]
      rw [e]
      exact h
