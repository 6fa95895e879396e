set_option maxRecDepth 10000 in
set_option maxHeartbeats 4000000 in
theorem kc_number {wd : Int32} {e : Int} {lw : Int → kLw} {S : kSt} {μ μ' : xM} {r : Option zV} (h0 : Ex gx xq_19 [.inr (.inl (some 12)), .inl wd] μ r μ') (ha0 : 0 ≤ cA μ) (ha : cA μ ≤ e) (ht : cTV μ e) (hn : nmI e μ) (hO : hOK μ) (hs : (pTell (cK μ) (cH μ) (cU μ) (cA μ)).2 = 0) (hC : sC 13 S μ) (hk : wd.toInt = cK μ (cA μ)) (hk34 : 134 ≤ cK μ (cA μ) ∧ cK μ (cA μ) ≤ 136) : sC 13 (kStep (cK μ) (cT μ) (cV μ) lw (cA μ) S) μ' := by
  obtain ⟨n, h⟩ := tx_in (L := [some (.inr (.inl (some 12))), some (.inl wd), none]) h0 rfl
  have hG0 : pE μ μ := pE_rf
  have hT0 := ht
  have h400 := ht.1
  have e1i : (1 : Int32).toInt = 1 := by decide
  have e2i : (2 : Int32).toInt = 2 := by decide
  have e3i : (3 : Int32).toInt = 3 := by decide
  have e4i : (4 : Int32).toInt = 4 := by decide
  replace h := tx_aload_n (p' := 1) h em19_0 rfl rfl
  replace h := tx_getf (c := 2) (j := 3) (p' := 4) h em19_1 ((congrFun xo_3 40).trans rfl) rfl rfl (by decide) rfl
  replace h := tx_istore_n (p' := 5) h em19_4 rfl
  replace h : eT xq_19 _ 5 [some (.inr (.inl (some 12))), some (.inl wd), some (.inl (μ.1 12 3))] [] μ r μ' := h
  replace h := tx_aload_n (p' := 6) h em19_5 rfl rfl
  replace h := tx_iload_n (p' := 7) h em19_6 rfl rfl
  obtain ⟨r7, μ7, hE7, h⟩ := tx_invV (na := 2) (mn := 9) (as := [.inr (.inl (some 12)), .inl wd]) (rest := []) (p' := 10) h em19_7 ((congrFun xo_3 89).trans rfl) xm_9 rfl rfl
  have hS7 := sE_w (μ := μ) (by decide +kernel) (hf_9_0 hE7 (hEn0 (by decide)) hO).2 hO
  obtain ⟨hg7, ⟨rfl, a7l, a7e, a7x, a74, a75⟩ | ⟨rfl, p7, f7, a7x, a7f, a74, a75⟩⟩ := st_acc (e := e) (k0 := (cK μ (cA μ))) hE7 (by omega) (by omega) hT0 hk (by omega)
  · have hG7 := pE_tr hG0 hg7
    have hT7 := pE_TV hG7 ht
    replace h : eT xq_19 _ 10 [some (.inr (.inl (some 12))), some (.inl wd), some (.inl (μ.1 12 3))] [.inl (1 : Int32)] μ7 r μ' := h
    rcases tx_if (t := 30) (p' := 13) h em19_10 (by decide) rfl with ⟨c10, h⟩ | ⟨c10, h⟩
    · replace c10 : (1 : Int) = (0 : Int) := c10
      exfalso
      omega
    · replace c10 : ¬ (1 : Int) = (0 : Int) := c10
      replace h := tx_aload_n (p' := 14) h em19_13 rfl rfl
      replace h := tx_iconst (v := 3) (p' := 15) h em19_14 (by decide +kernel) rfl
      obtain ⟨r15, μ15, hE15, h⟩ := tx_invV (na := 2) (mn := 9) (as := [.inr (.inl (some 12)), .inl (3 : Int32)]) (rest := []) (p' := 18) h em19_15 ((congrFun xo_3 89).trans rfl) xm_9 rfl rfl
      have hS15 := sE_w (μ := μ7) (by decide +kernel) (hf_9_0 hE15 (hEn0 (by decide)) hS7.1).2 hS7.1
      obtain ⟨hg15, ⟨rfl, a15l, a15e, a15x, a154, a155⟩ | ⟨rfl, p15, f15, a15x, a15f, a154, a155⟩⟩ := st_acc (e := e) (k0 := 3) hE15 (by omega) (by omega) hT7 (by decide) (by decide)
      · have hG15 := pE_tr hG7 hg15
        have hT15 := pE_TV hG15 ht
        rw [pE_Kf hG7] at a15x
        replace h : eT xq_19 _ 18 [some (.inr (.inl (some 12))), some (.inl wd), some (.inl (μ.1 12 3))] [.inl (1 : Int32)] μ15 r μ' := h
        rcases tx_if (t := 30) (p' := 21) h em19_18 (by decide) rfl with ⟨c18, h⟩ | ⟨c18, h⟩
        · replace c18 : (1 : Int) = (0 : Int) := c18
          exfalso
          omega
        · replace c18 : ¬ (1 : Int) = (0 : Int) := c18
          replace h := tx_aload_n (p' := 22) h em19_21 rfl rfl
          replace h := tx_bipush (v := 59) (p' := 24) h em19_22 (by decide +kernel) rfl
          obtain ⟨r24, μ24, hE24, h⟩ := tx_invV (na := 2) (mn := 9) (as := [.inr (.inl (some 12)), .inl (59 : Int32)]) (rest := []) (p' := 27) h em19_24 ((congrFun xo_3 89).trans rfl) xm_9 rfl rfl
          have hS24 := sE_w (μ := μ15) (by decide +kernel) (hf_9_0 hE24 (hEn0 (by decide)) hS15.1).2 hS15.1
          obtain ⟨hg24, ⟨rfl, a24l, a24e, a24x, a244, a245⟩ | ⟨rfl, p24, f24, a24x, a24f, a244, a245⟩⟩ := st_acc (e := e) (k0 := 59) hE24 (by omega) (by omega) hT15 (by decide) (by decide)
          · have hG24 := pE_tr hG15 hg24
            have hT24 := pE_TV hG24 ht
            rw [pE_Kf hG15] at a24x
            replace h : eT xq_19 _ 27 [some (.inr (.inl (some 12))), some (.inl wd), some (.inl (μ.1 12 3))] [.inl (1 : Int32)] μ24 r μ' := h
            rcases tx_if (t := 31) (p' := 30) h em19_27 (by decide) rfl with ⟨c27, h⟩ | ⟨c27, h⟩
            · replace c27 : ¬ (1 : Int) = (0 : Int) := c27
              replace h := tx_iload_n (p' := 32) h em19_31 rfl rfl
              replace h := tx_sipush (v := 134) (p' := 35) h em19_32 (by decide +kernel) rfl
              rcases tx_icmp (t := 58) (p' := 38) h em19_35 (by decide) rfl with ⟨c35, h⟩ | ⟨c35, h⟩
              · replace c35 : ¬ wd.toInt = 134 := c35
                replace h := tx_iload_n (p' := 59) h em19_58 rfl rfl
                replace h := tx_sipush (v := 135) (p' := 62) h em19_59 (by decide +kernel) rfl
                rcases tx_icmp (t := 85) (p' := 65) h em19_62 (by decide) rfl with ⟨c62, h⟩ | ⟨c62, h⟩
                · replace c62 : ¬ wd.toInt = 135 := c62
                  replace h := tx_aload_n (p' := 86) h em19_85 rfl rfl
                  replace h := tx_getc (c := 2) (j := 0) (p' := 89) h em19_86 ((congrFun xo_3 12).trans rfl) rfl rfl rfl
                  replace h := tx_aload_n (p' := 90) h em19_89 rfl rfl
                  replace h := tx_iload_n (p' := 91) h em19_90 rfl rfl
                  replace h := tx_iconst (v := 1) (p' := 92) h em19_91 (by decide +kernel) rfl
                  replace h := tx_iadd (p' := 93) h em19_92 rfl
                  replace h := tx_iconst (v := 0) (p' := 94) h em19_93 (by decide +kernel) rfl
                  replace h := tx_sipush (v := 9999) (p' := 97) h em19_94 (by decide +kernel) rfl
                  obtain ⟨r97, μ97, hE97, h⟩ := tx_invV (na := 4) (mn := 11) (as := [.inr (.inl (some 12)), .inl ((μ.1 12 3) + (1 : Int32)), .inl (0 : Int32), .inl (9999 : Int32)]) (rest := [.inr (.inl (some 13))]) (p' := 100) h em19_97 ((congrFun xo_3 118).trans rfl) xm_11 rfl rfl
                  have hS97 := sE_w (μ := μ24) (by decide +kernel) (hf_11_0 hE97 (hEn0 (by decide)) hS24.1).2 hS24.1
                  obtain ⟨k7, e7⟩ := pAcc_v a7x
                  obtain ⟨k15, e15⟩ := pAcc_v a15x
                  obtain ⟨k24, e24⟩ := pAcc_v a24x
                  have o1 : ((μ.1 12 3) + 1).toInt = cA μ + 1 := by unfold cA at *; rw [an_add (by rw [e1i]; omega) (by rw [e1i]; omega), e1i]
                  have hk3 : cK μ (cA μ + 1) = 3 := by rw [← e7]; exact k15
                  obtain ⟨iv, rfl, hv⟩ := int_v hE97 hT24 (by omega) (by omega) (by rw [pE_Kf hG24, o1]; exact hk3)
                  rw [gE_V (gE_p hG24), o1] at hv
                  replace h : eT xq_19 _ 100 [some (.inr (.inl (some 12))), some (.inl wd), some (.inl (μ.1 12 3))] [.inl iv, .inr (.inl (some 13))] μ97 r μ' := h
                  replace h := tx_putf (a := 13) (c := 6) (j := 3) (p' := 103) h em19_100 ((congrFun xo_3 140).trans rfl) rfl
                  obtain ⟨rfl, hμ⟩ := tx_return h em19_103
                  rw [hμ]
                  have hK : cK μ (cA μ) = 136 := by omega
                  unfold kStep
                  rw [if_neg (by omega), if_neg (by omega), if_neg (by omega), if_neg (by omega), if_pos (by omega)]
                  exact sC_num (by decide) (sE_C (sE_tr hS7 (sE_tr hS15 (sE_tr hS24 (hS97)))) hC) rfl rfl (rfl) (rfl) (hv.symm)
                · replace c62 : ¬ ¬ wd.toInt = 135 := c62
                  replace h := tx_aload_n (p' := 66) h em19_65 rfl rfl
                  replace h := tx_getc (c := 2) (j := 0) (p' := 69) h em19_66 ((congrFun xo_3 12).trans rfl) rfl rfl rfl
                  replace h := tx_aload_n (p' := 70) h em19_69 rfl rfl
                  replace h := tx_iload_n (p' := 71) h em19_70 rfl rfl
                  replace h := tx_iconst (v := 1) (p' := 72) h em19_71 (by decide +kernel) rfl
                  replace h := tx_iadd (p' := 73) h em19_72 rfl
                  replace h := tx_iconst (v := 0) (p' := 74) h em19_73 (by decide +kernel) rfl
                  replace h := tx_bipush (v := 100) (p' := 76) h em19_74 (by decide +kernel) rfl
                  obtain ⟨r76, μ76, hE76, h⟩ := tx_invV (na := 4) (mn := 11) (as := [.inr (.inl (some 12)), .inl ((μ.1 12 3) + (1 : Int32)), .inl (0 : Int32), .inl (100 : Int32)]) (rest := [.inr (.inl (some 13))]) (p' := 79) h em19_76 ((congrFun xo_3 118).trans rfl) xm_11 rfl rfl
                  have hS76 := sE_w (μ := μ24) (by decide +kernel) (hf_11_0 hE76 (hEn0 (by decide)) hS24.1).2 hS24.1
                  obtain ⟨k7, e7⟩ := pAcc_v a7x
                  obtain ⟨k15, e15⟩ := pAcc_v a15x
                  obtain ⟨k24, e24⟩ := pAcc_v a24x
                  have o1 : ((μ.1 12 3) + 1).toInt = cA μ + 1 := by unfold cA at *; rw [an_add (by rw [e1i]; omega) (by rw [e1i]; omega), e1i]
                  have hk3 : cK μ (cA μ + 1) = 3 := by rw [← e7]; exact k15
                  obtain ⟨iv, rfl, hv⟩ := int_v hE76 hT24 (by omega) (by omega) (by rw [pE_Kf hG24, o1]; exact hk3)
                  rw [gE_V (gE_p hG24), o1] at hv
                  replace h : eT xq_19 _ 79 [some (.inr (.inl (some 12))), some (.inl wd), some (.inl (μ.1 12 3))] [.inl iv, .inr (.inl (some 13))] μ76 r μ' := h
                  replace h := tx_putf (a := 13) (c := 6) (j := 2) (p' := 82) h em19_79 ((congrFun xo_3 137).trans rfl) rfl
                  replace h := tx_goto (t := 103) h em19_82 (by decide)
                  obtain ⟨rfl, hμ⟩ := tx_return h em19_103
                  rw [hμ]
                  have hK : cK μ (cA μ) = 135 := by omega
                  unfold kStep
                  rw [if_neg (by omega), if_neg (by omega), if_neg (by omega), if_pos (by omega)]
                  exact sC_num (by decide) (sE_C (sE_tr hS7 (sE_tr hS15 (sE_tr hS24 (hS76)))) hC) rfl rfl (rfl) (hv.symm) (rfl)
              · replace c35 : ¬ ¬ wd.toInt = 134 := c35
                replace h := tx_aload_n (p' := 39) h em19_38 rfl rfl
                replace h := tx_getc (c := 2) (j := 0) (p' := 42) h em19_39 ((congrFun xo_3 12).trans rfl) rfl rfl rfl
                replace h := tx_aload_n (p' := 43) h em19_42 rfl rfl
                replace h := tx_iload_n (p' := 44) h em19_43 rfl rfl
                replace h := tx_iconst (v := 1) (p' := 45) h em19_44 (by decide +kernel) rfl
                replace h := tx_iadd (p' := 46) h em19_45 rfl
                replace h := tx_iconst (v := 1) (p' := 47) h em19_46 (by decide +kernel) rfl
                replace h := tx_bipush (v := 99) (p' := 49) h em19_47 (by decide +kernel) rfl
                obtain ⟨r49, μ49, hE49, h⟩ := tx_invV (na := 4) (mn := 11) (as := [.inr (.inl (some 12)), .inl ((μ.1 12 3) + (1 : Int32)), .inl (1 : Int32), .inl (99 : Int32)]) (rest := [.inr (.inl (some 13))]) (p' := 52) h em19_49 ((congrFun xo_3 118).trans rfl) xm_11 rfl rfl
                have hS49 := sE_w (μ := μ24) (by decide +kernel) (hf_11_0 hE49 (hEn0 (by decide)) hS24.1).2 hS24.1
                obtain ⟨k7, e7⟩ := pAcc_v a7x
                obtain ⟨k15, e15⟩ := pAcc_v a15x
                obtain ⟨k24, e24⟩ := pAcc_v a24x
                have o1 : ((μ.1 12 3) + 1).toInt = cA μ + 1 := by unfold cA at *; rw [an_add (by rw [e1i]; omega) (by rw [e1i]; omega), e1i]
                have hk3 : cK μ (cA μ + 1) = 3 := by rw [← e7]; exact k15
                obtain ⟨iv, rfl, hv⟩ := int_v hE49 hT24 (by omega) (by omega) (by rw [pE_Kf hG24, o1]; exact hk3)
                rw [gE_V (gE_p hG24), o1] at hv
                replace h : eT xq_19 _ 52 [some (.inr (.inl (some 12))), some (.inl wd), some (.inl (μ.1 12 3))] [.inl iv, .inr (.inl (some 13))] μ49 r μ' := h
                replace h := tx_putf (a := 13) (c := 6) (j := 4) (p' := 55) h em19_52 ((congrFun xo_3 134).trans rfl) rfl
                replace h := tx_goto (t := 103) h em19_55 (by decide)
                obtain ⟨rfl, hμ⟩ := tx_return h em19_103
                rw [hμ]
                have hK : cK μ (cA μ) = 134 := by omega
                unfold kStep
                rw [if_neg (by omega), if_neg (by omega), if_pos (by omega)]
                exact sC_num (by decide) (sE_C (sE_tr hS7 (sE_tr hS15 (sE_tr hS24 (hS49)))) hC) rfl rfl (hv.symm) (rfl) (rfl)
            · replace c27 : ¬ ¬ (1 : Int) = (0 : Int) := c27
              exfalso
              omega
          · have hG24 := pE_tr hG15 hg24
            have hT24 := pE_TV hG24 ht
            rw [pE_Kf hG15] at a24x
            rw [pE_P hG15] at a245
            replace h : eT xq_19 _ 27 [some (.inr (.inl (some 12))), some (.inl wd), some (.inl (μ.1 12 3))] [.inl (0 : Int32)] μ24 r μ' := h
            rcases tx_if (t := 31) (p' := 30) h em19_27 (by decide) rfl with ⟨c27_1, h⟩ | ⟨c27_1, h⟩
            · replace c27_1 : ¬ (0 : Int) = (0 : Int) := c27_1
              exfalso
              omega
            · replace c27_1 : ¬ ¬ (0 : Int) = (0 : Int) := c27_1
              obtain ⟨rfl, hμ⟩ := tx_return h em19_30
              exact absurd (pTell_0 ((pTell_n (by omega)).trans (((pSeq_y a7x).trans (pSeq_y a15x)).trans (a24x))) hs) a24f
      · have hG15 := pE_tr hG7 hg15
        have hT15 := pE_TV hG15 ht
        rw [pE_Kf hG7] at a15x
        rw [pE_P hG7] at a155
        replace h : eT xq_19 _ 18 [some (.inr (.inl (some 12))), some (.inl wd), some (.inl (μ.1 12 3))] [.inl (0 : Int32)] μ15 r μ' := h
        rcases tx_if (t := 30) (p' := 21) h em19_18 (by decide) rfl with ⟨c18_1, h⟩ | ⟨c18_1, h⟩
        · replace c18_1 : (0 : Int) = (0 : Int) := c18_1
          obtain ⟨rfl, hμ⟩ := tx_return h em19_30
          exact absurd (pTell_0 ((pTell_n (by omega)).trans ((pSeq_y a7x).trans (pSeq_n a15x a15f))) hs) a15f
        · replace c18_1 : ¬ (0 : Int) = (0 : Int) := c18_1
          exfalso
          omega
  · have hG7 := pE_tr hG0 hg7
    have hT7 := pE_TV hG7 ht
    replace h : eT xq_19 _ 10 [some (.inr (.inl (some 12))), some (.inl wd), some (.inl (μ.1 12 3))] [.inl (0 : Int32)] μ7 r μ' := h
    rcases tx_if (t := 30) (p' := 13) h em19_10 (by decide) rfl with ⟨c10_1, h⟩ | ⟨c10_1, h⟩
    · replace c10_1 : (0 : Int) = (0 : Int) := c10_1
      obtain ⟨rfl, hμ⟩ := tx_return h em19_30
      exact absurd (pTell_0 ((pTell_n (by omega)).trans (pSeq_n a7x a7f)) hs) a7f
    · replace c10_1 : ¬ (0 : Int) = (0 : Int) := c10_1
      exfalso
      omega
/-- the row of a house's pieces behind i letters -/
def hRw (μ ω : xM) (l : List Int) : Prop := ∀ h x : Nat, h < 5 → x < 8 → (ω.1 14 (8 * h + x)).toInt = (μ.1 14 (8 * h + x)).toInt + (if (h : Int) = cH μ then kCt l x else 0)
/-- behind the loop -/
def hEn_ (μ μ' : xM) (l : List Int) : Prop := hOK μ' ∧ (μ'.1 13 0).toInt = cH μ + 1 ∧ (∀ j, j ≠ 0 → μ'.1 13 j = μ.1 13 j) ∧ (∀ k j, 15 ≤ k → k ≤ 22 → μ'.1 k j = μ.1 k j) ∧ hRw μ μ' l
theorem kc_house_f {K vl : Int → Int} {lt : Int → List Int} {lw : Int → kLw} {a : Int} {S : kSt} {μ μ' : xM} (hk : K a = 128) (h4 : cH μ ≤ 4) (hC : sC 13 S μ) (h : hEn_ μ μ' (lt (a + 2))) : sC 13 (kStep K lt vl lw a S) μ' := by
  obtain ⟨g0, g1, g2, g3, g4⟩ := h
  obtain ⟨⟨a1, a2, a3, a4, a5⟩, b, d, e⟩ := hC
  unfold kStep
  rw [if_pos hk]
  have hH : cH μ = (S.1.length : Int) := a1
  refine ⟨⟨?_, ?_, ?_, ?_, ?_⟩, fun h l x y => ?_, fun w hw => ?_, fun w l x y => ?_⟩
  · rw [g1, hH]; show _ = (((S.1 ++ [lt (a + 2)]).length : Nat) : Int); rw [List.length_append]; rfl
  · rw [g2 1 (by decide)]; exact a2
  · rw [g2 4 (by decide)]; exact a3
  · rw [g2 2 (by decide)]; exact a4
  · rw [g2 3 (by decide)]; exact a5
  · rw [g4 h l x y, b h l x y]
    show _ = kCt ((S.1 ++ [lt (a + 2)]).getD h []) l
    rw [kGd]
    by_cases q : h < S.1.length
    · rw [if_pos q, if_neg (by omega)]; omega
    · rw [if_neg q]
      have e0 : S.1.getD h [] = [] := by rw [List.getD_eq_getElem?_getD, List.getElem?_eq_none (by omega)]; rfl
      rw [e0, kCt_0]
      by_cases q2 : h = S.1.length
      · rw [if_pos q2, if_pos (by omega)]; omega
      · rw [if_neg q2, if_neg (by omega), kCt_0]; rfl
  · rw [g3 _ _ (by decide) (by decide), g3 _ _ (by decide) (by decide), g3 _ _ (by decide) (by decide)]
    obtain ⟨d1, d2, d3, d4⟩ := d w hw
    exact ⟨d1, d2, d3, fun i hi => by rw [g3 _ _ (by decide) (by decide)]; exact d4 i hi⟩
  · rw [g3 _ _ (by decide) (by decide)]; exact e w l x y
set_option maxRecDepth 10000 in
set_option maxHeartbeats 4000000 in
theorem kc_house {e : Int} {lw : Int → kLw} {S : kSt} {μ μ' : xM} {r : Option zV} (h0 : Ex gx xq_17 [.inr (.inl (some 12))] μ r μ') (ha0 : 0 ≤ cA μ) (ha : cA μ ≤ e) (ht : cTV μ e) (hn : nmI e μ) (hO : hOK μ) (hs : (pTell (cK μ) (cH μ) (cU μ) (cA μ)).2 = 0) (hC : sC 13 S μ) (hkk : cK μ (cA μ) = 128) (hH4 : cH μ ≤ 4) : sC 13 (kStep (cK μ) (cT μ) (cV μ) lw (cA μ) S) μ' := by
  obtain ⟨n, h⟩ := tx_in (L := [some (.inr (.inl (some 12))), none, none, none]) h0 rfl
  have hG0 : pE μ μ := pE_rf
  have hT0 := ht
  have h400 := ht.1
  have e1i : (1 : Int32).toInt = 1 := by decide
  have e2i : (2 : Int32).toInt = 2 := by decide
  have e3i : (3 : Int32).toInt = 3 := by decide
  have e4i : (4 : Int32).toInt = 4 := by decide
  have o1 : ((μ.1 12 3) + 1).toInt = cA μ + 1 := by unfold cA at *; rw [an_add (by rw [e1i]; omega) (by rw [e1i]; omega), e1i]
  have o2 : ((μ.1 12 3) + 2).toInt = cA μ + 2 := by unfold cA at *; rw [an_add (by rw [e2i]; omega) (by rw [e2i]; omega), e2i]
  have loop : cK μ (cA μ + 2) = 2 → cA μ + 2 ≤ e → (∀ x : Nat, x < 8 → (μ.1 14 (8 * (cH μ).toNat + x)).toInt = 0) → ∀ (n : Nat) (i : Int32) (ω : xM) {o : Option zV}, eT xq_17 n 92 [some (.inr (.inl (some 12))), some (.inl (μ.1 12 3)), some (.inl i), o] [] ω r μ' → gE μ ω → hOK ω → 0 ≤ i.toInt → i.toInt ≤ cS μ (cA μ + 2) → ω.1 13 0 = μ.1 13 0 → (∀ j, j ≠ 0 → ω.1 13 j = μ.1 13 j) → (∀ k j, 15 ≤ k → k ≤ 22 → ω.1 k j = μ.1 k j) → hRw μ ω ((List.range i.toInt.toNat).map (fun i => cB μ (cA μ + 2) i - 97)) → hEn_ μ μ' (cT μ (cA μ + 2)) := by
    intro hk2 ho2 hB0 n
    induction n using Nat.strongRecOn with
    | ind n ih =>
    intro i ω o h hGω hOω hi0 hiS w0 w1 w2 w3
    have hq5 := hn.1
    have hq4 : cH μ ≤ 4 := hH4
    replace h := tx_iload_n (p' := 93) h em17_92 rfl rfl
    replace h := tx_aload_n (p' := 94) h em17_93 rfl rfl
    replace h := tx_getc (c := 2) (j := 1) (p' := 97) h em17_94 ((congrFun xo_3 21).trans rfl) rfl rfl rfl
    replace h := tx_getc (c := 7) (j := 2) (p' := 100) h em17_97 ((congrFun xo_3 102).trans rfl) rfl rfl rfl
    replace h := tx_iload_n (p' := 101) h em17_100 rfl rfl
    replace h := tx_iconst (v := 2) (p' := 102) h em17_101 (by decide +kernel) rfl
    replace h := tx_iadd (p' := 103) h em17_102 rfl
    obtain ⟨hb103, h⟩ := tx_iald (len := 401) (p' := 104) h em17_103 rfl rfl
    replace hb103 : (0 : Int) ≤ ((μ.1 12 3) + (2 : Int32)).toInt ∧ ((μ.1 12 3) + (2 : Int32)).toInt < 401 := hb103
    have hTω := gE_TV hGω ht
    have hx26 : (ω.1 26 ((μ.1 12 3) + 2).toInt.toNat).toInt = cS μ (cA μ + 2) := by rw [o2]; show cS ω (cA μ + 2) = _; rw [gE_S hGω]
    have h8 := (ht.2.2 (cA μ + 2) (by omega) (by omega)).2.2 hk2
    rcases tx_icmp (t := 156) (p' := 107) h em17_104 (by decide) rfl with ⟨c104, h⟩ | ⟨c104, h⟩
    · replace c104 : (ω.1 26 ((μ.1 12 3) + (2 : Int32)).toInt.toNat).toInt ≤ i.toInt := c104
      replace h := tx_aload_n (p' := 157) h em17_156 rfl rfl
      replace h := tx_getc (c := 2) (j := 0) (p' := 160) h em17_157 ((congrFun xo_3 12).trans rfl) rfl rfl rfl
      replace h := tx_dup (p' := 161) h em17_160 rfl
      replace h := tx_getf (c := 6) (j := 0) (p' := 164) h em17_161 ((congrFun xo_3 86).trans rfl) rfl rfl (by decide) rfl
      replace h := tx_iconst (v := 1) (p' := 165) h em17_164 (by decide +kernel) rfl
      replace h := tx_iadd (p' := 166) h em17_165 rfl
      replace h := tx_putf (a := 13) (c := 6) (j := 0) (p' := 169) h em17_166 ((congrFun xo_3 86).trans rfl) rfl
      obtain ⟨rfl, hμ⟩ := tx_return h em17_169
      have eH : (ω.1 13 0).toInt = cH μ := by rw [w0]; rfl
      have ev : (ω.1 13 0 + 1).toInt = cH μ + 1 := by rw [an_add (by rw [e1i]; omega) (by rw [e1i]; omega), e1i, eH]
      rw [hμ]
      refine ⟨hOω, by rw [xpi_at]; exact ev, fun j hj => (xpi_ne (fun q => hj q.2)).trans (w1 j hj), fun k j a b => (xpi_ne (fun q => by omega)).trans (w2 k j a b), fun h' x hh hx => ?_⟩
      rw [xpi_ne (fun q => by omega), w3 h' x hh hx]
      have eL : cT μ (cA μ + 2) = (List.range i.toInt.toNat).map (fun i => cB μ (cA μ + 2) i - 97) := by
        unfold cT
        rw [show (cS μ (cA μ + 2)).toNat = i.toInt.toNat by omega]
      rw [eL]
    · replace c104 : ¬ (ω.1 26 ((μ.1 12 3) + (2 : Int32)).toInt.toNat).toInt ≤ i.toInt := c104
      replace h := tx_aload_n (p' := 108) h em17_107 rfl rfl
      replace h := tx_iload_n (p' := 109) h em17_108 rfl rfl
      replace h := tx_iconst (v := 2) (p' := 110) h em17_109 (by decide +kernel) rfl
      replace h := tx_iadd (p' := 111) h em17_110 rfl
      replace h := tx_iload_n (p' := 112) h em17_111 rfl rfl
      obtain ⟨r112, μ112, hE112, h⟩ := tx_invV (na := 3) (mn := 237) (as := [.inr (.inl (some 12)), .inl ((μ.1 12 3) + (2 : Int32)), .inl i]) (rest := []) (p' := 115) h em17_112 ((congrFun xo_3 105).trans rfl) xm_237 rfl rfl
      obtain ⟨lv, rfl, hlv, hm⟩ := ex_letterOf hE112 hTω (by omega) (by omega) (by rw [gE_K hGω, o2]; exact hk2) (by omega) (by unfold cS; omega)
      rw [hm] at h
      rw [o2, gE_B hGω] at hlv
      replace h : eT xq_17 _ 115 [some (.inr (.inl (some 12))), some (.inl (μ.1 12 3)), some (.inl i), o] [.inl lv] ω r μ' := h
      replace h := tx_istore_n (p' := 116) h em17_115 rfl
      replace h : eT xq_17 _ 116 [some (.inr (.inl (some 12))), some (.inl (μ.1 12 3)), some (.inl i), some (.inl lv)] [] ω r μ' := h
      replace h := tx_iload_n (p' := 117) h em17_116 rfl rfl
      rcases tx_if (t := 150) (p' := 120) h em17_117 (by decide) rfl with ⟨c117, h⟩ | ⟨c117, h⟩
      · replace c117 : lv.toInt < 0 := c117
        replace h := tx_iinc (v := 1) (p' := 153) h em17_150 (by decide +kernel) rfl rfl
        replace h : eT xq_17 _ 153 [some (.inr (.inl (some 12))), some (.inl (μ.1 12 3)), some (.inl (i + 1)), some (.inl lv)] [] ω r μ' := h
        obtain ⟨n2, hn2, h⟩ := tx_gotoS (t := 92) h em17_153 (by decide)
        have hi1 : (i + 1).toInt = i.toInt + 1 := by rw [an_add (by rw [e1i]; omega) (by rw [e1i]; omega), e1i]
        have hn1 : (i + 1).toInt.toNat = i.toInt.toNat + 1 := by omega
        refine ih n2 hn2 _ _ h hGω hOω (by omega) (by rw [hi1]; omega) w0 w1 w2 (fun h' x hh hx => ?_)
        rw [w3 h' x hh hx, hn1, kCt_s]
        by_cases q : (h' : Int) = cH μ
        · rw [if_pos q, if_pos q, if_neg (by omega)]; omega
        · rw [if_neg q, if_neg q]
      · replace c117 : ¬ lv.toInt < 0 := c117
        replace h := tx_iload_n (p' := 121) h em17_120 rfl rfl
        replace h := tx_bipush (v := 8) (p' := 123) h em17_121 (by decide +kernel) rfl
        rcases tx_icmp (t := 150) (p' := 126) h em17_123 (by decide) rfl with ⟨c123, h⟩ | ⟨c123, h⟩
        · replace c123 : 8 ≤ lv.toInt := c123
          replace h := tx_iinc (v := 1) (p' := 153) h em17_150 (by decide +kernel) rfl rfl
          replace h : eT xq_17 _ 153 [some (.inr (.inl (some 12))), some (.inl (μ.1 12 3)), some (.inl (i + 1)), some (.inl lv)] [] ω r μ' := h
          obtain ⟨n2, hn2, h⟩ := tx_gotoS (t := 92) h em17_153 (by decide)
          have hi1 : (i + 1).toInt = i.toInt + 1 := by rw [an_add (by rw [e1i]; omega) (by rw [e1i]; omega), e1i]
          have hn1 : (i + 1).toInt.toNat = i.toInt.toNat + 1 := by omega
          refine ih n2 hn2 _ _ h hGω hOω (by omega) (by rw [hi1]; omega) w0 w1 w2 (fun h' x hh hx => ?_)
          rw [w3 h' x hh hx, hn1, kCt_s]
          by_cases q : (h' : Int) = cH μ
          · rw [if_pos q, if_pos q, if_neg (by omega)]; omega
          · rw [if_neg q, if_neg q]
        · replace c123 : ¬ 8 ≤ lv.toInt := c123
          replace h := tx_aload_n (p' := 127) h em17_126 rfl rfl
          replace h := tx_getc (c := 2) (j := 0) (p' := 130) h em17_127 ((congrFun xo_3 12).trans rfl) rfl rfl rfl
          replace h := tx_getc (c := 6) (j := 5) (p' := 133) h em17_130 ((congrFun xo_3 109).trans rfl) rfl rfl rfl
          replace h := tx_aload_n (p' := 134) h em17_133 rfl rfl
          replace h := tx_getc (c := 2) (j := 0) (p' := 137) h em17_134 ((congrFun xo_3 12).trans rfl) rfl rfl rfl
          replace h := tx_getf (c := 6) (j := 0) (p' := 140) h em17_137 ((congrFun xo_3 86).trans rfl) rfl rfl (by decide) rfl
          replace h := tx_bipush (v := 8) (p' := 142) h em17_140 (by decide +kernel) rfl
          replace h := tx_imul (p' := 143) h em17_142 rfl
          replace h := tx_iload_n (p' := 144) h em17_143 rfl rfl
          replace h := tx_iadd (p' := 145) h em17_144 rfl
          replace h := tx_dup2 (p' := 146) h em17_145 rfl
          obtain ⟨hb146, h⟩ := tx_iald (len := 40) (p' := 147) h em17_146 rfl rfl
          replace hb146 : (0 : Int) ≤ (((ω.1 13 0) * (8 : Int32)) + lv).toInt ∧ (((ω.1 13 0) * (8 : Int32)) + lv).toInt < 40 := hb146
          replace h := tx_iconst (v := 1) (p' := 148) h em17_147 (by decide +kernel) rfl
          replace h := tx_iadd (p' := 149) h em17_148 rfl
          obtain ⟨hb149, h⟩ := tx_iast (len := 40) (p' := 150) h em17_149 rfl rfl
          replace hb149 : (0 : Int) ≤ (((ω.1 13 0) * (8 : Int32)) + lv).toInt ∧ (((ω.1 13 0) * (8 : Int32)) + lv).toInt < 40 := hb149
          replace h := tx_iinc (v := 1) (p' := 153) h em17_150 (by decide +kernel) rfl rfl
          replace h : eT xq_17 _ 153 [some (.inr (.inl (some 12))), some (.inl (μ.1 12 3)), some (.inl (i + 1)), some (.inl lv)] [] (xpi ω 14 (((ω.1 13 0) * (8 : Int32)) + lv).toInt.toNat ((ω.1 14 (((ω.1 13 0) * (8 : Int32)) + lv).toInt.toNat) + (1 : Int32))) r μ' := h
          obtain ⟨n2, hn2, h⟩ := tx_gotoS (t := 92) h em17_153 (by decide)
          have hi1 : (i + 1).toInt = i.toInt + 1 := by rw [an_add (by rw [e1i]; omega) (by rw [e1i]; omega), e1i]
          have hn1 : (i + 1).toInt.toNat = i.toInt.toNat + 1 := by omega
          have e8 : (8 : Int32).toInt = 8 := by decide
          have eH : (ω.1 13 0).toInt = cH μ := by rw [w0]; rfl
          have em : ((ω.1 13 0) * (8 : Int32)).toInt = cH μ * 8 := by rw [an_mul (by rw [eH, e8]; omega) (by rw [eH, e8]; omega), eH, e8]
          have ea : ((ω.1 13 0) * (8 : Int32) + lv).toInt = cH μ * 8 + lv.toInt := by rw [an_add (by rw [em]; omega) (by rw [em]; omega), em]
          have ei : ((ω.1 13 0) * (8 : Int32) + lv).toInt.toNat = 8 * (cH μ).toNat + lv.toInt.toNat := by rw [ea]; omega
          have eo := w3 (cH μ).toNat lv.toInt.toNat (by omega) (by omega)
          rw [if_pos (by omega), hB0 lv.toInt.toNat (by omega)] at eo
          have hb := kCt_nn (l := (List.range i.toInt.toNat).map (fun i => cB μ (cA μ + 2) i - 97)) (x := ((lv.toInt.toNat : Nat) : Int))
          rw [List.length_map, List.length_range] at hb
          have ev : (ω.1 14 (8 * (cH μ).toNat + lv.toInt.toNat) + 1).toInt = (ω.1 14 (8 * (cH μ).toNat + lv.toInt.toNat)).toInt + 1 := by rw [an_add (by rw [e1i, eo]; omega) (by rw [e1i, eo]; omega), e1i]
          rw [ei] at h
          refine ih n2 hn2 _ _ h (gE_i hGω (by decide)) hOω (by omega) (by rw [hi1]; omega) ((xpi_ne (fun q => absurd q.1 (by decide))).trans w0) (fun j hj => (xpi_ne (fun q => absurd q.1 (by decide))).trans (w1 j hj)) (fun k j a b => (xpi_ne (fun q => by omega)).trans (w2 k j a b)) (fun h' x hh hx => ?_)
          rw [hn1, kCt_s]
          by_cases q : h' = (cH μ).toNat ∧ x = lv.toInt.toNat
          · obtain ⟨rfl, rfl⟩ := q
            rw [xpi_at, ev, w3 _ _ hh hx, if_pos (by omega), if_pos (by omega), if_pos (by omega)]
            omega
          · rw [xpi_ne (fun z => q (by omega)), w3 h' x hh hx]
            by_cases q2 : (h' : Int) = cH μ
            · rw [if_pos q2, if_pos q2, if_neg (fun z => q (by omega))]; omega
            · rw [if_neg q2, if_neg q2]
  replace h := tx_aload_n (p' := 1) h em17_0 rfl rfl
  replace h := tx_getc (c := 2) (j := 0) (p' := 4) h em17_1 ((congrFun xo_3 12).trans rfl) rfl rfl rfl
  replace h := tx_getf (c := 6) (j := 0) (p' := 7) h em17_4 ((congrFun xo_3 86).trans rfl) rfl rfl (by decide) rfl
  replace h := tx_iconst (v := 5) (p' := 8) h em17_7 (by decide +kernel) rfl
  rcases tx_icmp (t := 18) (p' := 11) h em17_8 (by decide) rfl with ⟨c8, h⟩ | ⟨c8, h⟩
  · replace c8 : (μ.1 13 0).toInt < 5 := c8
    replace h := tx_aload_n (p' := 19) h em17_18 rfl rfl
    replace h := tx_getf (c := 2) (j := 3) (p' := 22) h em17_19 ((congrFun xo_3 40).trans rfl) rfl rfl (by decide) rfl
    replace h := tx_istore_n (p' := 23) h em17_22 rfl
    replace h : eT xq_17 _ 23 [some (.inr (.inl (some 12))), some (.inl (μ.1 12 3)), none, none] [] μ r μ' := h
    replace h := tx_aload_n (p' := 24) h em17_23 rfl rfl
    replace h := tx_sipush (v := 128) (p' := 27) h em17_24 (by decide +kernel) rfl
    obtain ⟨r27, μ27, hE27, h⟩ := tx_invV (na := 2) (mn := 9) (as := [.inr (.inl (some 12)), .inl (128 : Int32)]) (rest := []) (p' := 30) h em17_27 ((congrFun xo_3 89).trans rfl) xm_9 rfl rfl
    have hS27 := sE_w (μ := μ) (by decide +kernel) (hf_9_0 hE27 (hEn0 (by decide)) hO).2 hO
    obtain ⟨hg27, ⟨rfl, a27l, a27e, a27x, a274, a275⟩ | ⟨rfl, p27, f27, a27x, a27f, a274, a275⟩⟩ := st_acc (e := e) (k0 := 128) hE27 (by omega) (by omega) hT0 (by decide) (by decide)
    · have hG27 := pE_tr hG0 hg27
      have hT27 := pE_TV hG27 ht
      replace h : eT xq_17 _ 30 [some (.inr (.inl (some 12))), some (.inl (μ.1 12 3)), none, none] [.inl (1 : Int32)] μ27 r μ' := h
      rcases tx_if (t := 58) (p' := 33) h em17_30 (by decide) rfl with ⟨c30, h⟩ | ⟨c30, h⟩
      · replace c30 : (1 : Int) = (0 : Int) := c30
        exfalso
        omega
      · replace c30 : ¬ (1 : Int) = (0 : Int) := c30
        replace h := tx_aload_n (p' := 34) h em17_33 rfl rfl
        replace h := tx_iconst (v := 2) (p' := 35) h em17_34 (by decide +kernel) rfl
        obtain ⟨r35, μ35, hE35, h⟩ := tx_invV (na := 2) (mn := 9) (as := [.inr (.inl (some 12)), .inl (2 : Int32)]) (rest := []) (p' := 38) h em17_35 ((congrFun xo_3 89).trans rfl) xm_9 rfl rfl
        have hS35 := sE_w (μ := μ27) (by decide +kernel) (hf_9_0 hE35 (hEn0 (by decide)) hS27.1).2 hS27.1
        obtain ⟨hg35, ⟨rfl, a35l, a35e, a35x, a354, a355⟩ | ⟨rfl, p35, f35, a35x, a35f, a354, a355⟩⟩ := st_acc (e := e) (k0 := 2) hE35 (by omega) (by omega) hT27 (by decide) (by decide)
        · have hG35 := pE_tr hG27 hg35
          have hT35 := pE_TV hG35 ht
          rw [pE_Kf hG27] at a35x
          replace h : eT xq_17 _ 38 [some (.inr (.inl (some 12))), some (.inl (μ.1 12 3)), none, none] [.inl (1 : Int32)] μ35 r μ' := h
          rcases tx_if (t := 58) (p' := 41) h em17_38 (by decide) rfl with ⟨c38, h⟩ | ⟨c38, h⟩
          · replace c38 : (1 : Int) = (0 : Int) := c38
            exfalso
            omega
          · replace c38 : ¬ (1 : Int) = (0 : Int) := c38
            replace h := tx_aload_n (p' := 42) h em17_41 rfl rfl
            replace h := tx_iconst (v := 2) (p' := 43) h em17_42 (by decide +kernel) rfl
            obtain ⟨r43, μ43, hE43, h⟩ := tx_invV (na := 2) (mn := 9) (as := [.inr (.inl (some 12)), .inl (2 : Int32)]) (rest := []) (p' := 46) h em17_43 ((congrFun xo_3 89).trans rfl) xm_9 rfl rfl
            have hS43 := sE_w (μ := μ35) (by decide +kernel) (hf_9_0 hE43 (hEn0 (by decide)) hS35.1).2 hS35.1
            obtain ⟨hg43, ⟨rfl, a43l, a43e, a43x, a434, a435⟩ | ⟨rfl, p43, f43, a43x, a43f, a434, a435⟩⟩ := st_acc (e := e) (k0 := 2) hE43 (by omega) (by omega) hT35 (by decide) (by decide)
            · have hG43 := pE_tr hG35 hg43
              have hT43 := pE_TV hG43 ht
              rw [pE_Kf hG35] at a43x
              replace h : eT xq_17 _ 46 [some (.inr (.inl (some 12))), some (.inl (μ.1 12 3)), none, none] [.inl (1 : Int32)] μ43 r μ' := h
              rcases tx_if (t := 58) (p' := 49) h em17_46 (by decide) rfl with ⟨c46, h⟩ | ⟨c46, h⟩
              · replace c46 : (1 : Int) = (0 : Int) := c46
                exfalso
                omega
              · replace c46 : ¬ (1 : Int) = (0 : Int) := c46
                replace h := tx_aload_n (p' := 50) h em17_49 rfl rfl
                replace h := tx_bipush (v := 59) (p' := 52) h em17_50 (by decide +kernel) rfl
                obtain ⟨r52, μ52, hE52, h⟩ := tx_invV (na := 2) (mn := 9) (as := [.inr (.inl (some 12)), .inl (59 : Int32)]) (rest := []) (p' := 55) h em17_52 ((congrFun xo_3 89).trans rfl) xm_9 rfl rfl
                have hS52 := sE_w (μ := μ43) (by decide +kernel) (hf_9_0 hE52 (hEn0 (by decide)) hS43.1).2 hS43.1
                obtain ⟨hg52, ⟨rfl, a52l, a52e, a52x, a524, a525⟩ | ⟨rfl, p52, f52, a52x, a52f, a524, a525⟩⟩ := st_acc (e := e) (k0 := 59) hE52 (by omega) (by omega) hT43 (by decide) (by decide)
                · have hG52 := pE_tr hG43 hg52
                  have hT52 := pE_TV hG52 ht
                  rw [pE_Kf hG43] at a52x
                  replace h : eT xq_17 _ 55 [some (.inr (.inl (some 12))), some (.inl (μ.1 12 3)), none, none] [.inl (1 : Int32)] μ52 r μ' := h
                  rcases tx_if (t := 59) (p' := 58) h em17_55 (by decide) rfl with ⟨c55, h⟩ | ⟨c55, h⟩
                  · replace c55 : ¬ (1 : Int) = (0 : Int) := c55
                    replace h := tx_aload_n (p' := 60) h em17_59 rfl rfl
                    replace h := tx_iload_n (p' := 61) h em17_60 rfl rfl
                    replace h := tx_iconst (v := 1) (p' := 62) h em17_61 (by decide +kernel) rfl
                    replace h := tx_iadd (p' := 63) h em17_62 rfl
                    obtain ⟨r63, μ63, hE63, h⟩ := tx_invV (na := 2) (mn := 15) (as := [.inr (.inl (some 12)), .inl ((μ.1 12 3) + (1 : Int32))]) (rest := []) (p' := 66) h em17_63 ((congrFun xo_3 92).trans rfl) xm_15 rfl rfl
                    have hS63 := sE_w (μ := μ52) (by decide +kernel) (hf_15_0 hE63 (hEn0 (by decide)) hS52.1).2 hS52.1
                    obtain ⟨k27, e27⟩ := pAcc_v a27x
                    obtain ⟨k35, e35⟩ := pAcc_v a35x
                    obtain ⟨k43, e43⟩ := pAcc_v a43x
                    obtain ⟨k52, e52⟩ := pAcc_v a52x
                    have hk1 : cK μ (cA μ + 1) = 2 := by rw [← e27]; exact k35
                    have hk2 : cK μ (cA μ + 2) = 2 := by rw [show cA μ + 2 = cA μ35 by omega]; exact k43
                    have n9 : μ52.1 12 9 = μ.1 12 9 := hG52.2.1 9 (by decide) (by decide) (by decide)
                    have n27 : ∀ j, μ52.1 27 j = μ.1 27 j := fun j => hG52.1 27 j (by decide) (by decide) (by decide) (by decide)
                    have hnx := nmI_cg (gE_p hG52) (hG52.2.2.1 0 (by decide)) (hG52.2.2.1 1 (by decide)) n9 n27 hn
                    have eH : cH μ52 = cH μ := by unfold cH; rw [hG52.2.2.1 0 (by decide)]
                    have eU : cU μ52 = cU μ := by unfold cU; rw [hG52.2.2.1 1 (by decide)]
                    obtain ⟨rfl, q1, q2, q3, q4, q5, q6, q7⟩ := name_ok hE63 hT52 (by omega) (by omega) (by rw [pE_Kf hG52, o1]; exact hk1) hnx (by have a2 := hn.2.1.2; have a1 : cH μ ≤ 4 := (by unfold cH; omega); rw [eH, eU]; omega)
                    have hGn := gE_tr (gE_p hG52) q1
                    replace h : eT xq_17 _ 66 [some (.inr (.inl (some 12))), some (.inl (μ.1 12 3)), none, none] [] μ63 r μ' := h
                    replace h := tx_aload_n (p' := 67) h em17_66 rfl rfl
                    replace h := tx_aload_n (p' := 68) h em17_67 rfl rfl
                    replace h := tx_iload_n (p' := 69) h em17_68 rfl rfl
                    replace h := tx_iconst (v := 2) (p' := 70) h em17_69 (by decide +kernel) rfl
                    replace h := tx_iadd (p' := 71) h em17_70 rfl
                    obtain ⟨r71, μ71, hE71, h⟩ := tx_invV (na := 2) (mn := 238) (as := [.inr (.inl (some 12)), .inl ((μ.1 12 3) + (2 : Int32))]) (rest := [.inr (.inl (some 12))]) (p' := 74) h em17_71 ((congrFun xo_3 95).trans rfl) xm_238 rfl rfl
                    rcases ex_areLetters hE71 (gE_TV hGn ht) (by omega) (by omega) (by rw [gE_K hGn, o2]; exact hk2) with ⟨rfl, hl, hm⟩ | ⟨rfl, hl, hm⟩
                    · rw [hm] at h
                      replace h : eT xq_17 _ 74 [some (.inr (.inl (some 12))), some (.inl (μ.1 12 3)), none, none] [.inl (1 : Int32), .inr (.inl (some 12))] μ63 r μ' := h
                      rcases tx_if (t := 81) (p' := 77) h em17_74 (by decide) rfl with ⟨c74, h⟩ | ⟨c74, h⟩
                      · replace c74 : ¬ (1 : Int) = (0 : Int) := c74
                        replace h := tx_iconst (v := 0) (p' := 82) h em17_81 (by decide +kernel) rfl
                        replace h := tx_bipush (v := 6) (p' := 84) h em17_82 (by decide +kernel) rfl
                        replace h := tx_iload_n (p' := 85) h em17_84 rfl rfl
                        replace h := tx_iconst (v := 2) (p' := 86) h em17_85 (by decide +kernel) rfl
                        replace h := tx_iadd (p' := 87) h em17_86 rfl
                        obtain ⟨r87, μ87, hE87, h⟩ := tx_invV (na := 4) (mn := 14) (as := [.inr (.inl (some 12)), .inl (0 : Int32), .inl (6 : Int32), .inl ((μ.1 12 3) + (2 : Int32))]) (rest := []) (p' := 90) h em17_87 ((congrFun xo_3 98).trans rfl) xm_14 rfl rfl
                        have hS87 := sE_w (μ := μ63) (by decide +kernel) (hf_14_0 hE87 (hEn0 (by decide)) hS63.1).2 hS63.1
                        obtain ⟨rfl, hgl, hwl⟩ := note_ok (b := ¬ cL μ63 ((μ.1 12 3) + 2).toInt) hE87 (by exact ⟨fun q => absurd (by decide) q, fun q => absurd hl q⟩)
                        replace h : eT xq_17 _ 90 [some (.inr (.inl (some 12))), some (.inl (μ.1 12 3)), none, none] [] μ87 r μ' := h
                        replace h := tx_iconst (v := 0) (p' := 91) h em17_90 (by decide +kernel) rfl
                        replace h := tx_istore_n (p' := 92) h em17_91 rfl
                        replace h : eT xq_17 _ 92 [some (.inr (.inl (some 12))), some (.inl (μ.1 12 3)), some (.inl (0 : Int32)), none] [] μ87 r μ' := h
                        have hS9 : sE μ μ87 := sE_tr hS27 (sE_tr hS35 (sE_tr hS43 (sE_tr hS52 (sE_tr hS63 (hS87)))))
                        have hq4 : cH μ ≤ 4 := by unfold cH; omega
                        obtain ⟨⟨a1, a2, a3, a4, a5⟩, hb, hd9, he9⟩ := id hC
                        have hB0 : ∀ x : Nat, x < 8 → (μ.1 14 (8 * (cH μ).toNat + x)).toInt = 0 := fun x hx => by
                          rw [hb (cH μ).toNat x (by have := hn.1; omega) hx]
                          have eH : cH μ = (S.1.length : Int) := a1
                          have e0 : S.1.getD (cH μ).toNat [] = [] := by rw [List.getD_eq_getElem?_getD, List.getElem?_eq_none (by omega)]; rfl
                          rw [e0]; exact kCt_0
                        refine kc_house_f hkk hq4 hC (loop hk2 (by omega) hB0 _ _ _ h (gE_tr hGn (gE_n hgl)) hS9.1 (by decide) ?_ (hS9.2 13 0 (by decide) (by decide)) (fun j _ => hS9.2 13 j (by decide) (by decide)) (fun k j a b => hS9.2 k j (by omega) (by omega)) (fun h' x hh hx => ?_))
                        · show (0 : Int) ≤ _
                          have h8 := (ht.2.2 (cA μ + 2) (by omega) (by omega)).2.2 hk2
                          omega
                        · rw [hS9.2 14 _ (by decide) (by decide)]
                          show _ = _ + (if _ then kCt [] _ else 0)
                          rw [kCt_0]
                          split <;> omega
                      · replace c74 : ¬ ¬ (1 : Int) = (0 : Int) := c74
                        exfalso
                        omega
                    · rw [hm] at h
                      replace h : eT xq_17 _ 74 [some (.inr (.inl (some 12))), some (.inl (μ.1 12 3)), none, none] [.inl (0 : Int32), .inr (.inl (some 12))] μ63 r μ' := h
                      rcases tx_if (t := 81) (p' := 77) h em17_74 (by decide) rfl with ⟨c74_1, h⟩ | ⟨c74_1, h⟩
                      · replace c74_1 : ¬ (0 : Int) = (0 : Int) := c74_1
                        exfalso
                        omega
                      · replace c74_1 : ¬ ¬ (0 : Int) = (0 : Int) := c74_1
                        replace h := tx_iconst (v := 1) (p' := 78) h em17_77 (by decide +kernel) rfl
                        replace h := tx_goto (t := 82) h em17_78 (by decide)
                        replace h := tx_bipush (v := 6) (p' := 84) h em17_82 (by decide +kernel) rfl
                        replace h := tx_iload_n (p' := 85) h em17_84 rfl rfl
                        replace h := tx_iconst (v := 2) (p' := 86) h em17_85 (by decide +kernel) rfl
                        replace h := tx_iadd (p' := 87) h em17_86 rfl
                        obtain ⟨r87_1, μ87_1, hE87_1, h⟩ := tx_invV (na := 4) (mn := 14) (as := [.inr (.inl (some 12)), .inl (1 : Int32), .inl (6 : Int32), .inl ((μ.1 12 3) + (2 : Int32))]) (rest := []) (p' := 90) h em17_87 ((congrFun xo_3 98).trans rfl) xm_14 rfl rfl
                        have hS87_1 := sE_w (μ := μ63) (by decide +kernel) (hf_14_0 hE87_1 (hEn0 (by decide)) hS63.1).2 hS63.1
                        obtain ⟨rfl, hgl, hwl⟩ := note_ok (b := ¬ cL μ63 ((μ.1 12 3) + 2).toInt) hE87_1 (by exact ⟨fun _ => hl, fun _ => by decide⟩)
                        replace h : eT xq_17 _ 90 [some (.inr (.inl (some 12))), some (.inl (μ.1 12 3)), none, none] [] μ87_1 r μ' := h
                        replace h := tx_iconst (v := 0) (p' := 91) h em17_90 (by decide +kernel) rfl
                        replace h := tx_istore_n (p' := 92) h em17_91 rfl
                        replace h : eT xq_17 _ 92 [some (.inr (.inl (some 12))), some (.inl (μ.1 12 3)), some (.inl (0 : Int32)), none] [] μ87_1 r μ' := h
                        have hS9 : sE μ μ87_1 := sE_tr hS27 (sE_tr hS35 (sE_tr hS43 (sE_tr hS52 (sE_tr hS63 (hS87_1)))))
                        have hq4 : cH μ ≤ 4 := by unfold cH; omega
                        obtain ⟨⟨a1, a2, a3, a4, a5⟩, hb, hd9, he9⟩ := id hC
                        have hB0 : ∀ x : Nat, x < 8 → (μ.1 14 (8 * (cH μ).toNat + x)).toInt = 0 := fun x hx => by
                          rw [hb (cH μ).toNat x (by have := hn.1; omega) hx]
                          have eH : cH μ = (S.1.length : Int) := a1
                          have e0 : S.1.getD (cH μ).toNat [] = [] := by rw [List.getD_eq_getElem?_getD, List.getElem?_eq_none (by omega)]; rfl
                          rw [e0]; exact kCt_0
                        refine kc_house_f hkk hq4 hC (loop hk2 (by omega) hB0 _ _ _ h (gE_tr hGn (gE_n hgl)) hS9.1 (by decide) ?_ (hS9.2 13 0 (by decide) (by decide)) (fun j _ => hS9.2 13 j (by decide) (by decide)) (fun k j a b => hS9.2 k j (by omega) (by omega)) (fun h' x hh hx => ?_))
                        · show (0 : Int) ≤ _
                          have h8 := (ht.2.2 (cA μ + 2) (by omega) (by omega)).2.2 hk2
                          omega
                        · rw [hS9.2 14 _ (by decide) (by decide)]
                          show _ = _ + (if _ then kCt [] _ else 0)
                          rw [kCt_0]
                          split <;> omega
                  · replace c55 : ¬ ¬ (1 : Int) = (0 : Int) := c55
                    exfalso
                    omega
                · have hG52 := pE_tr hG43 hg52
                  have hT52 := pE_TV hG52 ht
                  rw [pE_Kf hG43] at a52x
                  rw [pE_P hG43] at a525
                  replace h : eT xq_17 _ 55 [some (.inr (.inl (some 12))), some (.inl (μ.1 12 3)), none, none] [.inl (0 : Int32)] μ52 r μ' := h
                  rcases tx_if (t := 59) (p' := 58) h em17_55 (by decide) rfl with ⟨c55_1, h⟩ | ⟨c55_1, h⟩
                  · replace c55_1 : ¬ (0 : Int) = (0 : Int) := c55_1
                    exfalso
                    omega
                  · replace c55_1 : ¬ ¬ (0 : Int) = (0 : Int) := c55_1
                    obtain ⟨rfl, hμ⟩ := tx_return h em17_58
                    exact absurd (pTell_0 ((pTell_h hkk (by unfold cH; omega)).trans ((((pSeq_y a27x).trans (pSeq_y a35x)).trans (pSeq_y a43x)).trans (a52x))) hs) a52f
            · have hG43 := pE_tr hG35 hg43
              have hT43 := pE_TV hG43 ht
              rw [pE_Kf hG35] at a43x
              rw [pE_P hG35] at a435
              replace h : eT xq_17 _ 46 [some (.inr (.inl (some 12))), some (.inl (μ.1 12 3)), none, none] [.inl (0 : Int32)] μ43 r μ' := h
              rcases tx_if (t := 58) (p' := 49) h em17_46 (by decide) rfl with ⟨c46_1, h⟩ | ⟨c46_1, h⟩
              · replace c46_1 : (0 : Int) = (0 : Int) := c46_1
                obtain ⟨rfl, hμ⟩ := tx_return h em17_58
                exact absurd (pTell_0 ((pTell_h hkk (by unfold cH; omega)).trans (((pSeq_y a27x).trans (pSeq_y a35x)).trans (pSeq_n a43x a43f))) hs) a43f
              · replace c46_1 : ¬ (0 : Int) = (0 : Int) := c46_1
                exfalso
                omega
        · have hG35 := pE_tr hG27 hg35
          have hT35 := pE_TV hG35 ht
          rw [pE_Kf hG27] at a35x
          rw [pE_P hG27] at a355
          replace h : eT xq_17 _ 38 [some (.inr (.inl (some 12))), some (.inl (μ.1 12 3)), none, none] [.inl (0 : Int32)] μ35 r μ' := h
          rcases tx_if (t := 58) (p' := 41) h em17_38 (by decide) rfl with ⟨c38_1, h⟩ | ⟨c38_1, h⟩
          · replace c38_1 : (0 : Int) = (0 : Int) := c38_1
            obtain ⟨rfl, hμ⟩ := tx_return h em17_58
            exact absurd (pTell_0 ((pTell_h hkk (by unfold cH; omega)).trans ((pSeq_y a27x).trans (pSeq_n a35x a35f))) hs) a35f
          · replace c38_1 : ¬ (0 : Int) = (0 : Int) := c38_1
            exfalso
            omega
    · have hG27 := pE_tr hG0 hg27
      have hT27 := pE_TV hG27 ht
      replace h : eT xq_17 _ 30 [some (.inr (.inl (some 12))), some (.inl (μ.1 12 3)), none, none] [.inl (0 : Int32)] μ27 r μ' := h
      rcases tx_if (t := 58) (p' := 33) h em17_30 (by decide) rfl with ⟨c30_1, h⟩ | ⟨c30_1, h⟩
      · replace c30_1 : (0 : Int) = (0 : Int) := c30_1
        obtain ⟨rfl, hμ⟩ := tx_return h em17_58
        exact absurd (pTell_0 ((pTell_h hkk (by unfold cH; omega)).trans (pSeq_n a27x a27f)) hs) a27f
      · replace c30_1 : ¬ (0 : Int) = (0 : Int) := c30_1
        exfalso
        omega
  · replace c8 : ¬ (μ.1 13 0).toInt < 5 := c8
    replace h := tx_aload_n (p' := 12) h em17_11 rfl rfl
    replace h := tx_iconst (v := 2) (p' := 13) h em17_12 (by decide +kernel) rfl
    obtain ⟨r13, μ13, hE13, h⟩ := tx_invV (na := 2) (mn := 10) (as := [.inr (.inl (some 12)), .inl (2 : Int32)]) (rest := []) (p' := 16) h em17_13 ((congrFun xo_3 70).trans rfl) xm_10 rfl rfl
    obtain ⟨rfl, hm13⟩ := ex_fail hE13 (by have := ht.1; omega)
    replace h : eT xq_17 _ 16 [some (.inr (.inl (some 12))), none, none, none] [.inl (0 : Int32)] μ13 r μ' := h
    replace h := tx_pop (p' := 17) h em17_16 rfl
    obtain ⟨rfl, hμ⟩ := tx_return h em17_17
    exfalso
    unfold cH at hH4
    omega
