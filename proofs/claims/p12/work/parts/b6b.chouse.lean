/-- counts and names behind a house or a verse told: ν behind its tokens, ν1 behind its name, ω at the end -/
theorem name_end {μ ν ν1 ω : xM} {e : Int} {t v : Int32} {d : Nat} (hp : pE μ ν) (hn : nmI e μ) (ht : t.toInt = cA μ + 1) (h3 : ∀ j, ν1.1 13 j = ν.1 13 j) (h4 : cN ν1 = cN ν ++ [t.toInt]) (h5 : (ν1.1 12 9).toInt = (ν.1 12 9).toInt + 1) (h6 : ∀ i : Nat, i < cNn ν1 → 0 ≤ (ν1.1 27 i).toInt ∧ (ν1.1 27 i).toInt ≤ e ∧ cK ν (ν1.1 27 i).toInt = 2) (hg : gE μ ω) (w9 : ω.1 12 9 = ν1.1 12 9) (w13 : ∀ j, ω.1 13 j = ν1.1 13 j) (w27 : ∀ j, ω.1 27 j = ν1.1 27 j) (hd : (d = 0 ∧ cH μ ≤ 4) ∨ (d = 1 ∧ cU μ ≤ 6)) (hv : v.toInt = (μ.1 13 d).toInt + 1) : nmI e (xpi ω 13 d v) ∧ cN (xpi ω 13 d v) = cN μ ++ [cA μ + 1] ∧ cH (xpi ω 13 d v) = (if d = 0 then cH μ + 1 else cH μ) ∧ cU (xpi ω 13 d v) = (if d = 1 then cU μ + 1 else cU μ) := by
  have n13 : ∀ j, j ≠ 14 → ω.1 13 j = μ.1 13 j := fun j a => (w13 j).trans ((h3 j).trans (hp.2.2.1 j a))
  have n9 : ν.1 12 9 = μ.1 12 9 := hp.2.1 9 (by decide) (by decide) (by decide)
  have n27 : ∀ j, ν.1 27 j = μ.1 27 j := fun j => hp.1 27 j (by decide) (by decide) (by decide) (by decide)
  have f9 : (xpi ω 13 d v).1 12 9 = ν1.1 12 9 := (xpi_ne (fun q => absurd q.1 (by decide))).trans w9
  have f27 : ∀ j, (xpi ω 13 d v).1 27 j = ν1.1 27 j := fun j => (xpi_ne (fun q => absurd q.1 (by decide))).trans (w27 j)
  have eH : cH (xpi ω 13 d v) = (if d = 0 then cH μ + 1 else cH μ) := by
    unfold cH
    by_cases e0 : d = 0
    · subst e0; rw [xpi_at, hv, if_pos rfl]
    · rw [xpi_ne (fun q => e0 q.2.symm), n13 0 (by decide), if_neg e0]
  have eU : cU (xpi ω 13 d v) = (if d = 1 then cU μ + 1 else cU μ) := by
    unfold cU
    by_cases e0 : d = 1
    · subst e0; rw [xpi_at, hv, if_pos rfl]
    · rw [xpi_ne (fun q => e0 q.2.symm), n13 1 (by decide), if_neg e0]
  have eN : cN (xpi ω 13 d v) = cN μ ++ [cA μ + 1] := by
    rw [cN_cg f9 f27, h4, cN_cg n9 n27, ht]
  refine ⟨?_, eN, eH, eU⟩
  obtain ⟨⟨a1, a2⟩, ⟨a3, a4⟩, a5, a6⟩ := hn
  have eC : cNn (xpi ω 13 d v) = cNn ν1 := by unfold cNn; rw [f9]
  refine ⟨?_, ?_, ?_, fun i hi => ?_⟩
  · rw [eH]; split <;> omega
  · rw [eU]; split <;> omega
  · rw [eH, eU, f9, h5, n9, a5]
    rcases hd with ⟨rfl, -⟩ | ⟨rfl, -⟩
    · rw [if_pos rfl, if_neg (by decide)]; omega
    · rw [if_neg (by decide), if_pos rfl]; omega
  · rw [f27, gE_K (gE_i hg (by decide)), ← pE_Kf hp]
    exact h6 i (by omega)
set_option maxRecDepth 10000 in
set_option maxHeartbeats 4000000 in
theorem ex_house {e : Int} {μ μ' : xM} {r : Option zV} (h0 : Ex gx xq_17 [.inr (.inl (some 12))] μ r μ') (ha0 : 0 ≤ cA μ) (ha : cA μ ≤ e) (ht : cTV μ e) (hn : nmI e μ) (hkk : cK μ (cA μ) = 128) : r = none ∧ oT e μ μ' := by
  obtain ⟨n, h⟩ := tx_in (L := [some (.inr (.inl (some 12))), none, none, none]) h0 rfl
  have hG0 : pE μ μ := pE_rf
  have hT0 := ht
  have h400 := ht.1
  have e1i : (1 : Int32).toInt = 1 := by decide
  have e2i : (2 : Int32).toInt = 2 := by decide
  have e3i : (3 : Int32).toInt = 3 := by decide
  have e4i : (4 : Int32).toInt = 4 := by decide
  have o1 : ((μ.1 12 3) + 1).toInt = cA μ + 1 := by unfold cA at *; rw [an_add (by rw [e1i]; omega) (by rw [e1i]; omega), e1i]
  have o2 : ((μ.1 12 3) + 2).toInt = cA μ + 2 := by unfold cA at *; rw [an_add (by rw [e2i]; omega) (by rw [e2i]; omega), e2i]
  have loop : ∀ (n : Nat) (i : Int32) (ω : xM) {o : Option zV}, eT xq_17 n 92 [some (.inr (.inl (some 12))), some (.inl (μ.1 12 3)), some (.inl i), o] [] ω r μ' → gE μ ω → 0 ≤ i.toInt → cK μ (cA μ + 2) = 2 → cA μ + 2 ≤ e → ∃ ω', r = none ∧ (∀ k j, k ≠ 14 → ω'.1 k j = ω.1 k j) ∧ ω'.2 = ω.2 ∧ μ' = xpi ω' 13 0 ((ω.1 13 0) + 1) := by
    intro n
    induction n using Nat.strongRecOn with
    | ind n ih =>
    intro i ω o h hGω hi0 hk2 ho2
    replace h := tx_iload_n (p' := 93) h em17_92 rfl rfl
    replace h := tx_aload_n (p' := 94) h em17_93 rfl rfl
    replace h := tx_getc (c := 2) (j := 1) (p' := 97) h em17_94 ((congrFun xo_3 21).trans rfl) rfl rfl rfl
    replace h := tx_getc (c := 7) (j := 2) (p' := 100) h em17_97 ((congrFun xo_3 102).trans rfl) rfl rfl rfl
    replace h := tx_iload_n (p' := 101) h em17_100 rfl rfl
    replace h := tx_iconst (v := 2) (p' := 102) h em17_101 (by decide +kernel) rfl
    replace h := tx_iadd (p' := 103) h em17_102 rfl
    obtain ⟨hb103, h⟩ := tx_iald (len := 401) (p' := 104) h em17_103 rfl rfl
    replace hb103 : 0 ≤ ((μ.1 12 3) + (2 : Int32)).toInt ∧ ((μ.1 12 3) + (2 : Int32)).toInt < 401 := hb103
    rcases tx_icmp (t := 156) (p' := 107) h em17_104 (by decide) rfl with ⟨c104, h⟩ | ⟨c104, h⟩
    · replace c104 : (ω.1 26 ((μ.1 12 3) + (2 : Int32)).toInt.toNat).toInt ≤ i.toInt := c104
      replace h := tx_aload_n (p' := 157) h em17_156 rfl rfl
      replace h := tx_getc (c := 2) (j := 0) (p' := 160) h em17_157 ((congrFun xo_3 12).trans rfl) rfl rfl rfl
      replace h := tx_dup (p' := 161) h em17_160 rfl
      replace h := tx_getf (c := 6) (j := 0) (p' := 164) h em17_161 ((congrFun xo_3 86).trans rfl) rfl rfl (by decide) rfl
      replace h := tx_iconst (v := 1) (p' := 165) h em17_164 (by decide +kernel) rfl
      replace h := tx_iadd (p' := 166) h em17_165 rfl
      replace h := tx_putf (a := 13) (c := 6) (j := 0) (p' := 169) h em17_166 ((congrFun xo_3 86).trans rfl) rfl
      obtain ⟨rfl, hμ⟩ := tx_return h em17_169
      exact ⟨ω, rfl, fun _ _ _ => rfl, rfl, hμ⟩
    · replace c104 : ¬ (ω.1 26 ((μ.1 12 3) + (2 : Int32)).toInt.toNat).toInt ≤ i.toInt := c104
      have hTω := gE_TV hGω ht
      have h8 := (hTω.2.2 (cA μ + 2) (by omega) (by omega)).2.2 (by rw [gE_K hGω]; exact hk2)
      have h8b : (ω.1 26 ((μ.1 12 3) + 2).toInt.toNat).toInt ≤ 8 := by rw [o2]; exact h8.2.1
      replace h := tx_aload_n (p' := 108) h em17_107 rfl rfl
      replace h := tx_iload_n (p' := 109) h em17_108 rfl rfl
      replace h := tx_iconst (v := 2) (p' := 110) h em17_109 (by decide +kernel) rfl
      replace h := tx_iadd (p' := 111) h em17_110 rfl
      replace h := tx_iload_n (p' := 112) h em17_111 rfl rfl
      obtain ⟨r112, μ112, hE112, h⟩ := tx_invV (na := 3) (mn := 237) (as := [.inr (.inl (some 12)), .inl ((μ.1 12 3) + (2 : Int32)), .inl i]) (rest := []) (p' := 115) h em17_112 ((congrFun xo_3 105).trans rfl) xm_237 rfl rfl
      obtain ⟨lv, rfl, hlv, hm⟩ := ex_letterOf hE112 hTω (by omega) (by omega) (by rw [gE_K hGω, o2]; exact hk2) (by omega) (by unfold cS; omega)
      rw [hm] at h
      replace h : eT xq_17 _ 115 [some (.inr (.inl (some 12))), some (.inl (μ.1 12 3)), some (.inl i), o] [.inl lv] ω r μ' := h
      replace h := tx_istore_n (p' := 116) h em17_115 rfl
      replace h : eT xq_17 _ 116 [some (.inr (.inl (some 12))), some (.inl (μ.1 12 3)), some (.inl i), some (.inl lv)] [] ω r μ' := h
      replace h := tx_iload_n (p' := 117) h em17_116 rfl rfl
      rcases tx_if (t := 150) (p' := 120) h em17_117 (by decide) rfl with ⟨c117, h⟩ | ⟨c117, h⟩
      · replace c117 : lv.toInt < 0 := c117
        replace h := tx_iinc (v := 1) (p' := 153) h em17_150 (by decide +kernel) rfl rfl
        replace h : eT xq_17 _ 153 [some (.inr (.inl (some 12))), some (.inl (μ.1 12 3)), some (.inl (i + 1)), some (.inl lv)] [] ω r μ' := h
        obtain ⟨n2, hn2, h⟩ := tx_gotoS (t := 92) h em17_153 (by decide)
        have hi1 : (i + 1).toInt = i.toInt + 1 := by rw [an_add (by rw [e1i]; omega) (by rw [e1i]; omega), e1i]
        obtain ⟨ω1, v0, v1, v2, v4⟩ := ih n2 hn2 _ _ h hGω (by rw [hi1]; omega) hk2 ho2
        exact ⟨ω1, v0, fun k j hk => v1 k j hk, v2, v4⟩
      · replace c117 : ¬ lv.toInt < 0 := c117
        replace h := tx_iload_n (p' := 121) h em17_120 rfl rfl
        replace h := tx_bipush (v := 8) (p' := 123) h em17_121 (by decide +kernel) rfl
        rcases tx_icmp (t := 150) (p' := 126) h em17_123 (by decide) rfl with ⟨c123, h⟩ | ⟨c123, h⟩
        · replace c123 : 8 ≤ lv.toInt := c123
          replace h := tx_iinc (v := 1) (p' := 153) h em17_150 (by decide +kernel) rfl rfl
          replace h : eT xq_17 _ 153 [some (.inr (.inl (some 12))), some (.inl (μ.1 12 3)), some (.inl (i + 1)), some (.inl lv)] [] ω r μ' := h
          obtain ⟨n2, hn2, h⟩ := tx_gotoS (t := 92) h em17_153 (by decide)
          have hi1 : (i + 1).toInt = i.toInt + 1 := by rw [an_add (by rw [e1i]; omega) (by rw [e1i]; omega), e1i]
          obtain ⟨ω1, v0, v1, v2, v4⟩ := ih n2 hn2 _ _ h hGω (by rw [hi1]; omega) hk2 ho2
          exact ⟨ω1, v0, fun k j hk => v1 k j hk, v2, v4⟩
        · replace c123 : ¬ 8 ≤ lv.toInt := c123
          replace h := tx_aload_n (p' := 127) h em17_126 rfl rfl
          replace h := tx_getc (c := 2) (j := 0) (p' := 130) h em17_127 ((congrFun xo_3 12).trans rfl) rfl rfl rfl
          replace h := tx_getc (c := 6) (j := 5) (p' := 133) h em17_130 ((congrFun xo_3 109).trans rfl) rfl rfl rfl
          replace h := tx_aload_n (p' := 134) h em17_133 rfl rfl
          replace h := tx_getc (c := 2) (j := 0) (p' := 137) h em17_134 ((congrFun xo_3 12).trans rfl) rfl rfl rfl
          replace h := tx_getf (c := 6) (j := 0) (p' := 140) h em17_137 ((congrFun xo_3 86).trans rfl) rfl rfl (by decide) rfl
          replace h := tx_bipush (v := 8) (p' := 142) h em17_140 (by decide +kernel) rfl
          replace h := tx_imul (p' := 143) h em17_142 rfl
          replace h := tx_iload_n (p' := 144) h em17_143 rfl rfl
          replace h := tx_iadd (p' := 145) h em17_144 rfl
          replace h := tx_dup2 (p' := 146) h em17_145 rfl
          obtain ⟨hb146, h⟩ := tx_iald (len := 40) (p' := 147) h em17_146 rfl rfl
          replace hb146 : 0 ≤ (((ω.1 13 0) * (8 : Int32)) + lv).toInt ∧ (((ω.1 13 0) * (8 : Int32)) + lv).toInt < 40 := hb146
          replace h := tx_iconst (v := 1) (p' := 148) h em17_147 (by decide +kernel) rfl
          replace h := tx_iadd (p' := 149) h em17_148 rfl
          obtain ⟨hb149, h⟩ := tx_iast (len := 40) (p' := 150) h em17_149 rfl rfl
          replace hb149 : 0 ≤ (((ω.1 13 0) * (8 : Int32)) + lv).toInt ∧ (((ω.1 13 0) * (8 : Int32)) + lv).toInt < 40 := hb149
          replace h := tx_iinc (v := 1) (p' := 153) h em17_150 (by decide +kernel) rfl rfl
          replace h : eT xq_17 _ 153 [some (.inr (.inl (some 12))), some (.inl (μ.1 12 3)), some (.inl (i + 1)), some (.inl lv)] [] (xpi ω 14 (((ω.1 13 0) * (8 : Int32)) + lv).toInt.toNat ((ω.1 14 (((ω.1 13 0) * (8 : Int32)) + lv).toInt.toNat) + (1 : Int32))) r μ' := h
          obtain ⟨n2, hn2, h⟩ := tx_gotoS (t := 92) h em17_153 (by decide)
          have hi1 : (i + 1).toInt = i.toInt + 1 := by rw [an_add (by rw [e1i]; omega) (by rw [e1i]; omega), e1i]
          obtain ⟨ω1, v0, v1, v2, v4⟩ := ih n2 hn2 _ _ h (gE_i hGω (by decide)) (by rw [hi1]; omega) hk2 ho2
          exact ⟨ω1, v0, fun k j hk => (v1 k j hk).trans (xpi_ne (fun q => hk q.1)), v2, v4.trans (by rw [xpi_ne (fun q => absurd q.1 (by decide))])⟩
  replace h := tx_aload_n (p' := 1) h em17_0 rfl rfl
  replace h := tx_getc (c := 2) (j := 0) (p' := 4) h em17_1 ((congrFun xo_3 12).trans rfl) rfl rfl rfl
  replace h := tx_getf (c := 6) (j := 0) (p' := 7) h em17_4 ((congrFun xo_3 86).trans rfl) rfl rfl (by decide) rfl
  replace h := tx_iconst (v := 5) (p' := 8) h em17_7 (by decide +kernel) rfl
  rcases tx_icmp (t := 18) (p' := 11) h em17_8 (by decide) rfl with ⟨c8, h⟩ | ⟨c8, h⟩
  · replace c8 : (μ.1 13 0).toInt < 5 := c8
    replace h := tx_aload_n (p' := 19) h em17_18 rfl rfl
    replace h := tx_getf (c := 2) (j := 3) (p' := 22) h em17_19 ((congrFun xo_3 40).trans rfl) rfl rfl (by decide) rfl
    replace h := tx_istore_n (p' := 23) h em17_22 rfl
    replace h : eT xq_17 _ 23 [some (.inr (.inl (some 12))), some (.inl (μ.1 12 3)), none, none] [] μ r μ' := h
    replace h := tx_aload_n (p' := 24) h em17_23 rfl rfl
    replace h := tx_sipush (v := 128) (p' := 27) h em17_24 (by decide +kernel) rfl
    obtain ⟨r27, μ27, hE27, h⟩ := tx_invV (na := 2) (mn := 9) (as := [.inr (.inl (some 12)), .inl (128 : Int32)]) (rest := []) (p' := 30) h em17_27 ((congrFun xo_3 89).trans rfl) xm_9 rfl rfl
    obtain ⟨hg27, ⟨rfl, a27l, a27e, a27x, a274, a275⟩ | ⟨rfl, p27, f27, a27x, a27f, a274, a275⟩⟩ := st_acc (e := e) (k0 := 128) hE27 (by omega) (by omega) hT0 (by decide) (by decide)
    · have hG27 := pE_tr hG0 hg27
      have hT27 := pE_TV hG27 ht
      replace h : eT xq_17 _ 30 [some (.inr (.inl (some 12))), some (.inl (μ.1 12 3)), none, none] [.inl (1 : Int32)] μ27 r μ' := h
      rcases tx_if (t := 58) (p' := 33) h em17_30 (by decide) rfl with ⟨c30, h⟩ | ⟨c30, h⟩
      · replace c30 : (1 : Int) = (0 : Int) := c30
        exfalso
        omega
      · replace c30 : ¬ (1 : Int) = (0 : Int) := c30
        replace h := tx_aload_n (p' := 34) h em17_33 rfl rfl
        replace h := tx_iconst (v := 2) (p' := 35) h em17_34 (by decide +kernel) rfl
        obtain ⟨r35, μ35, hE35, h⟩ := tx_invV (na := 2) (mn := 9) (as := [.inr (.inl (some 12)), .inl (2 : Int32)]) (rest := []) (p' := 38) h em17_35 ((congrFun xo_3 89).trans rfl) xm_9 rfl rfl
        obtain ⟨hg35, ⟨rfl, a35l, a35e, a35x, a354, a355⟩ | ⟨rfl, p35, f35, a35x, a35f, a354, a355⟩⟩ := st_acc (e := e) (k0 := 2) hE35 (by omega) (by omega) hT27 (by decide) (by decide)
        · have hG35 := pE_tr hG27 hg35
          have hT35 := pE_TV hG35 ht
          rw [pE_Kf hG27] at a35x
          replace h : eT xq_17 _ 38 [some (.inr (.inl (some 12))), some (.inl (μ.1 12 3)), none, none] [.inl (1 : Int32)] μ35 r μ' := h
          rcases tx_if (t := 58) (p' := 41) h em17_38 (by decide) rfl with ⟨c38, h⟩ | ⟨c38, h⟩
          · replace c38 : (1 : Int) = (0 : Int) := c38
            exfalso
            omega
          · replace c38 : ¬ (1 : Int) = (0 : Int) := c38
            replace h := tx_aload_n (p' := 42) h em17_41 rfl rfl
            replace h := tx_iconst (v := 2) (p' := 43) h em17_42 (by decide +kernel) rfl
            obtain ⟨r43, μ43, hE43, h⟩ := tx_invV (na := 2) (mn := 9) (as := [.inr (.inl (some 12)), .inl (2 : Int32)]) (rest := []) (p' := 46) h em17_43 ((congrFun xo_3 89).trans rfl) xm_9 rfl rfl
            obtain ⟨hg43, ⟨rfl, a43l, a43e, a43x, a434, a435⟩ | ⟨rfl, p43, f43, a43x, a43f, a434, a435⟩⟩ := st_acc (e := e) (k0 := 2) hE43 (by omega) (by omega) hT35 (by decide) (by decide)
            · have hG43 := pE_tr hG35 hg43
              have hT43 := pE_TV hG43 ht
              rw [pE_Kf hG35] at a43x
              replace h : eT xq_17 _ 46 [some (.inr (.inl (some 12))), some (.inl (μ.1 12 3)), none, none] [.inl (1 : Int32)] μ43 r μ' := h
              rcases tx_if (t := 58) (p' := 49) h em17_46 (by decide) rfl with ⟨c46, h⟩ | ⟨c46, h⟩
              · replace c46 : (1 : Int) = (0 : Int) := c46
                exfalso
                omega
              · replace c46 : ¬ (1 : Int) = (0 : Int) := c46
                replace h := tx_aload_n (p' := 50) h em17_49 rfl rfl
                replace h := tx_bipush (v := 59) (p' := 52) h em17_50 (by decide +kernel) rfl
                obtain ⟨r52, μ52, hE52, h⟩ := tx_invV (na := 2) (mn := 9) (as := [.inr (.inl (some 12)), .inl (59 : Int32)]) (rest := []) (p' := 55) h em17_52 ((congrFun xo_3 89).trans rfl) xm_9 rfl rfl
                obtain ⟨hg52, ⟨rfl, a52l, a52e, a52x, a524, a525⟩ | ⟨rfl, p52, f52, a52x, a52f, a524, a525⟩⟩ := st_acc (e := e) (k0 := 59) hE52 (by omega) (by omega) hT43 (by decide) (by decide)
                · have hG52 := pE_tr hG43 hg52
                  have hT52 := pE_TV hG52 ht
                  rw [pE_Kf hG43] at a52x
                  replace h : eT xq_17 _ 55 [some (.inr (.inl (some 12))), some (.inl (μ.1 12 3)), none, none] [.inl (1 : Int32)] μ52 r μ' := h
                  rcases tx_if (t := 59) (p' := 58) h em17_55 (by decide) rfl with ⟨c55, h⟩ | ⟨c55, h⟩
                  · replace c55 : ¬ (1 : Int) = (0 : Int) := c55
                    replace h := tx_aload_n (p' := 60) h em17_59 rfl rfl
                    replace h := tx_iload_n (p' := 61) h em17_60 rfl rfl
                    replace h := tx_iconst (v := 1) (p' := 62) h em17_61 (by decide +kernel) rfl
                    replace h := tx_iadd (p' := 63) h em17_62 rfl
                    obtain ⟨r63, μ63, hE63, h⟩ := tx_invV (na := 2) (mn := 15) (as := [.inr (.inl (some 12)), .inl ((μ.1 12 3) + (1 : Int32))]) (rest := []) (p' := 66) h em17_63 ((congrFun xo_3 92).trans rfl) xm_15 rfl rfl
                    obtain ⟨k27, e27⟩ := pAcc_v a27x
                    obtain ⟨k35, e35⟩ := pAcc_v a35x
                    obtain ⟨k43, e43⟩ := pAcc_v a43x
                    obtain ⟨k52, e52⟩ := pAcc_v a52x
                    have hk1 : cK μ (cA μ + 1) = 2 := by rw [← e27]; exact k35
                    have hk2 : cK μ (cA μ + 2) = 2 := by rw [show cA μ + 2 = cA μ35 by omega]; exact k43
                    have n9 : μ52.1 12 9 = μ.1 12 9 := hG52.2.1 9 (by decide) (by decide) (by decide)
                    have n27 : ∀ j, μ52.1 27 j = μ.1 27 j := fun j => hG52.1 27 j (by decide) (by decide) (by decide) (by decide)
                    have hnx := nmI_cg (gE_p hG52) (hG52.2.2.1 0 (by decide)) (hG52.2.2.1 1 (by decide)) n9 n27 hn
                    have eH : cH μ52 = cH μ := by unfold cH; rw [hG52.2.2.1 0 (by decide)]
                    have eU : cU μ52 = cU μ := by unfold cU; rw [hG52.2.2.1 1 (by decide)]
                    obtain ⟨rfl, q1, q2, q3, q4, q5, q6, q7⟩ := name_ok hE63 hT52 (by omega) (by omega) (by rw [pE_Kf hG52, o1]; exact hk1) hnx (by have a2 := hn.2.1.2; have a1 : cH μ ≤ 4 := (by unfold cH; omega); rw [eH, eU]; omega)
                    have hGn := gE_tr (gE_p hG52) q1
                    replace h : eT xq_17 _ 66 [some (.inr (.inl (some 12))), some (.inl (μ.1 12 3)), none, none] [] μ63 r μ' := h
                    replace h := tx_aload_n (p' := 67) h em17_66 rfl rfl
                    replace h := tx_aload_n (p' := 68) h em17_67 rfl rfl
                    replace h := tx_iload_n (p' := 69) h em17_68 rfl rfl
                    replace h := tx_iconst (v := 2) (p' := 70) h em17_69 (by decide +kernel) rfl
                    replace h := tx_iadd (p' := 71) h em17_70 rfl
                    obtain ⟨r71, μ71, hE71, h⟩ := tx_invV (na := 2) (mn := 238) (as := [.inr (.inl (some 12)), .inl ((μ.1 12 3) + (2 : Int32))]) (rest := [.inr (.inl (some 12))]) (p' := 74) h em17_71 ((congrFun xo_3 95).trans rfl) xm_238 rfl rfl
                    rcases ex_areLetters hE71 (gE_TV hGn ht) (by omega) (by omega) (by rw [gE_K hGn, o2]; exact hk2) with ⟨rfl, hl, hm⟩ | ⟨rfl, hl, hm⟩
                    · rw [hm] at h
                      replace h : eT xq_17 _ 74 [some (.inr (.inl (some 12))), some (.inl (μ.1 12 3)), none, none] [.inl (1 : Int32), .inr (.inl (some 12))] μ63 r μ' := h
                      rcases tx_if (t := 81) (p' := 77) h em17_74 (by decide) rfl with ⟨c74, h⟩ | ⟨c74, h⟩
                      · replace c74 : ¬ (1 : Int) = (0 : Int) := c74
                        replace h := tx_iconst (v := 0) (p' := 82) h em17_81 (by decide +kernel) rfl
                        replace h := tx_bipush (v := 6) (p' := 84) h em17_82 (by decide +kernel) rfl
                        replace h := tx_iload_n (p' := 85) h em17_84 rfl rfl
                        replace h := tx_iconst (v := 2) (p' := 86) h em17_85 (by decide +kernel) rfl
                        replace h := tx_iadd (p' := 87) h em17_86 rfl
                        obtain ⟨r87, μ87, hE87, h⟩ := tx_invV (na := 4) (mn := 14) (as := [.inr (.inl (some 12)), .inl (0 : Int32), .inl (6 : Int32), .inl ((μ.1 12 3) + (2 : Int32))]) (rest := []) (p' := 90) h em17_87 ((congrFun xo_3 98).trans rfl) xm_14 rfl rfl
                        obtain ⟨rfl, hgl, hwl⟩ := note_ok (b := ¬ cL μ63 ((μ.1 12 3) + 2).toInt) hE87 (by exact ⟨fun q => absurd (by decide) q, fun q => absurd hl q⟩)
                        replace h : eT xq_17 _ 90 [some (.inr (.inl (some 12))), some (.inl (μ.1 12 3)), none, none] [] μ87 r μ' := h
                        replace h := tx_iconst (v := 0) (p' := 91) h em17_90 (by decide +kernel) rfl
                        replace h := tx_istore_n (p' := 92) h em17_91 rfl
                        replace h : eT xq_17 _ 92 [some (.inr (.inl (some 12))), some (.inl (μ.1 12 3)), some (.inl (0 : Int32)), none] [] μ87 r μ' := h
                        obtain ⟨ω, rfl, w1, w2, hμ⟩ := loop _ _ _ h (gE_tr hGn (gE_n hgl)) (by decide) hk2 (by omega)
                        have hgg : gE μ ω := gE_tr (gE_tr hGn (gE_n hgl)) ⟨fun k j a _ => w1 k j (by omega), w2⟩
                        have c12 : ∀ j, j ≠ 6 → j ≠ 7 → ω.1 12 j = μ63.1 12 j := fun j a b => (w1 12 j (by decide)).trans (hgl.2.1 j a b)
                        have c13 : ∀ j, ω.1 13 j = μ63.1 13 j := fun j => (w1 13 j (by decide)).trans (hgl.1 13 j (by decide))
                        have c27 : ∀ j, ω.1 27 j = μ63.1 27 j := fun j => (w1 27 j (by decide)).trans (hgl.1 27 j (by decide))
                        have e13 : μ87.1 13 0 = μ.1 13 0 := (hgl.1 13 0 (by decide)).trans ((q3 0).trans (hG52.2.2.1 0 (by decide)))
                        have hw0 : cW μ52 = cW μ := by unfold cW; rw [hG52.2.1 6 (by decide) (by decide) (by decide), hG52.2.1 7 (by decide) (by decide) (by decide)]
                        rw [e13] at hμ
                        subst hμ
                        have hnb := hn.1
                        have hv : ((μ.1 13 0) + 1).toInt = (μ.1 13 0).toInt + 1 := by unfold cH at hnb; rw [an_add (by rw [e1i]; omega) (by rw [e1i]; omega), e1i]
                        obtain ⟨g1, g2, g3, g4⟩ := name_end (d := 0) hG52 hn o1 q3 q5 q6 q7 hgg (c12 9 (by decide) (by decide)) c13 c27 (Or.inl ⟨rfl, by unfold cH; omega⟩) hv
                        have hca : cA (xpi ω 13 0 ((μ.1 13 0) + 1)) = cA μ52 := by unfold cA; rw [xpi_ne (fun q => absurd q.1 (by decide)), c12 3 (by decide) (by decide), q2 3 (by decide) (by decide) (by decide)]
                        refine ⟨rfl, oT_s (gE_i hgg (by decide)) ((pTell_h hkk (by unfold cH; omega)).trans ((((pSeq_y a27x).trans (pSeq_y a35x)).trans (pSeq_y a43x)).trans (a52x))) (by omega) (by omega) hca ?_ ?_ ⟨g1, ?_, ?_, ?_, ?_⟩⟩
                        · rw [xpi_ne (fun q => absurd q.1 (by decide)), c12 4 (by decide) (by decide), q2 4 (by decide) (by decide) (by decide)]
                          rw [a524, a434, a354, a274]
                        · rw [xpi_ne (fun q => absurd q.1 (by decide)), c12 5 (by decide) (by decide), q2 5 (by decide) (by decide) (by decide)]
                          rw [a525, a435, a355, a275]
                        · have ew : cW (xpi ω 13 0 ((μ.1 13 0) + 1)) = cW μ87 := by unfold cW; rw [xpi_ne (fun q => absurd q.1 (by decide)), xpi_ne (fun q => absurd q.1 (by decide)), w1 12 6 (by decide), w1 12 7 (by decide)]
                          have hcm : cm μ52 = cm μ := by unfold cm; rw [gE_M (gE_p hG52)]
                          rw [ew, hwl, q4, hw0, hcm, cN_cg n9 n27, gE_P hGn, gE_P (gE_p hG52), gE_L hGn, bl2_not, o1, o2]
                          unfold pLater
                          rw [if_pos hkk]
                          rfl
                        · rw [g3, if_pos rfl, if_pos hkk]
                        · rw [g4, if_neg (by decide), if_neg (by omega)]
                        · rw [g2, if_pos (Or.inl hkk)]
                      · replace c74 : ¬ ¬ (1 : Int) = (0 : Int) := c74
                        exfalso
                        omega
                    · rw [hm] at h
                      replace h : eT xq_17 _ 74 [some (.inr (.inl (some 12))), some (.inl (μ.1 12 3)), none, none] [.inl (0 : Int32), .inr (.inl (some 12))] μ63 r μ' := h
                      rcases tx_if (t := 81) (p' := 77) h em17_74 (by decide) rfl with ⟨c74_1, h⟩ | ⟨c74_1, h⟩
                      · replace c74_1 : ¬ (0 : Int) = (0 : Int) := c74_1
                        exfalso
                        omega
                      · replace c74_1 : ¬ ¬ (0 : Int) = (0 : Int) := c74_1
                        replace h := tx_iconst (v := 1) (p' := 78) h em17_77 (by decide +kernel) rfl
                        replace h := tx_goto (t := 82) h em17_78 (by decide)
                        replace h := tx_bipush (v := 6) (p' := 84) h em17_82 (by decide +kernel) rfl
                        replace h := tx_iload_n (p' := 85) h em17_84 rfl rfl
                        replace h := tx_iconst (v := 2) (p' := 86) h em17_85 (by decide +kernel) rfl
                        replace h := tx_iadd (p' := 87) h em17_86 rfl
                        obtain ⟨r87_1, μ87_1, hE87_1, h⟩ := tx_invV (na := 4) (mn := 14) (as := [.inr (.inl (some 12)), .inl (1 : Int32), .inl (6 : Int32), .inl ((μ.1 12 3) + (2 : Int32))]) (rest := []) (p' := 90) h em17_87 ((congrFun xo_3 98).trans rfl) xm_14 rfl rfl
                        obtain ⟨rfl, hgl, hwl⟩ := note_ok (b := ¬ cL μ63 ((μ.1 12 3) + 2).toInt) hE87_1 (by exact ⟨fun _ => hl, fun _ => by decide⟩)
                        replace h : eT xq_17 _ 90 [some (.inr (.inl (some 12))), some (.inl (μ.1 12 3)), none, none] [] μ87_1 r μ' := h
                        replace h := tx_iconst (v := 0) (p' := 91) h em17_90 (by decide +kernel) rfl
                        replace h := tx_istore_n (p' := 92) h em17_91 rfl
                        replace h : eT xq_17 _ 92 [some (.inr (.inl (some 12))), some (.inl (μ.1 12 3)), some (.inl (0 : Int32)), none] [] μ87_1 r μ' := h
                        obtain ⟨ω, rfl, w1, w2, hμ⟩ := loop _ _ _ h (gE_tr hGn (gE_n hgl)) (by decide) hk2 (by omega)
                        have hgg : gE μ ω := gE_tr (gE_tr hGn (gE_n hgl)) ⟨fun k j a _ => w1 k j (by omega), w2⟩
                        have c12 : ∀ j, j ≠ 6 → j ≠ 7 → ω.1 12 j = μ63.1 12 j := fun j a b => (w1 12 j (by decide)).trans (hgl.2.1 j a b)
                        have c13 : ∀ j, ω.1 13 j = μ63.1 13 j := fun j => (w1 13 j (by decide)).trans (hgl.1 13 j (by decide))
                        have c27 : ∀ j, ω.1 27 j = μ63.1 27 j := fun j => (w1 27 j (by decide)).trans (hgl.1 27 j (by decide))
                        have e13 : μ87_1.1 13 0 = μ.1 13 0 := (hgl.1 13 0 (by decide)).trans ((q3 0).trans (hG52.2.2.1 0 (by decide)))
                        have hw0 : cW μ52 = cW μ := by unfold cW; rw [hG52.2.1 6 (by decide) (by decide) (by decide), hG52.2.1 7 (by decide) (by decide) (by decide)]
                        rw [e13] at hμ
                        subst hμ
                        have hnb := hn.1
                        have hv : ((μ.1 13 0) + 1).toInt = (μ.1 13 0).toInt + 1 := by unfold cH at hnb; rw [an_add (by rw [e1i]; omega) (by rw [e1i]; omega), e1i]
                        obtain ⟨g1, g2, g3, g4⟩ := name_end (d := 0) hG52 hn o1 q3 q5 q6 q7 hgg (c12 9 (by decide) (by decide)) c13 c27 (Or.inl ⟨rfl, by unfold cH; omega⟩) hv
                        have hca : cA (xpi ω 13 0 ((μ.1 13 0) + 1)) = cA μ52 := by unfold cA; rw [xpi_ne (fun q => absurd q.1 (by decide)), c12 3 (by decide) (by decide), q2 3 (by decide) (by decide) (by decide)]
                        refine ⟨rfl, oT_s (gE_i hgg (by decide)) ((pTell_h hkk (by unfold cH; omega)).trans ((((pSeq_y a27x).trans (pSeq_y a35x)).trans (pSeq_y a43x)).trans (a52x))) (by omega) (by omega) hca ?_ ?_ ⟨g1, ?_, ?_, ?_, ?_⟩⟩
                        · rw [xpi_ne (fun q => absurd q.1 (by decide)), c12 4 (by decide) (by decide), q2 4 (by decide) (by decide) (by decide)]
                          rw [a524, a434, a354, a274]
                        · rw [xpi_ne (fun q => absurd q.1 (by decide)), c12 5 (by decide) (by decide), q2 5 (by decide) (by decide) (by decide)]
                          rw [a525, a435, a355, a275]
                        · have ew : cW (xpi ω 13 0 ((μ.1 13 0) + 1)) = cW μ87_1 := by unfold cW; rw [xpi_ne (fun q => absurd q.1 (by decide)), xpi_ne (fun q => absurd q.1 (by decide)), w1 12 6 (by decide), w1 12 7 (by decide)]
                          have hcm : cm μ52 = cm μ := by unfold cm; rw [gE_M (gE_p hG52)]
                          rw [ew, hwl, q4, hw0, hcm, cN_cg n9 n27, gE_P hGn, gE_P (gE_p hG52), gE_L hGn, bl2_not, o1, o2]
                          unfold pLater
                          rw [if_pos hkk]
                          rfl
                        · rw [g3, if_pos rfl, if_pos hkk]
                        · rw [g4, if_neg (by decide), if_neg (by omega)]
                        · rw [g2, if_pos (Or.inl hkk)]
                  · replace c55 : ¬ ¬ (1 : Int) = (0 : Int) := c55
                    exfalso
                    omega
                · have hG52 := pE_tr hG43 hg52
                  have hT52 := pE_TV hG52 ht
                  rw [pE_Kf hG43] at a52x
                  rw [pE_P hG43] at a525
                  replace h : eT xq_17 _ 55 [some (.inr (.inl (some 12))), some (.inl (μ.1 12 3)), none, none] [.inl (0 : Int32)] μ52 r μ' := h
                  rcases tx_if (t := 59) (p' := 58) h em17_55 (by decide) rfl with ⟨c55_1, h⟩ | ⟨c55_1, h⟩
                  · replace c55_1 : ¬ (0 : Int) = (0 : Int) := c55_1
                    exfalso
                    omega
                  · replace c55_1 : ¬ ¬ (0 : Int) = (0 : Int) := c55_1
                    obtain ⟨rfl, hμ⟩ := tx_return h em17_58
                    refine ⟨rfl, ?_⟩
                    rw [hμ]
                    exact oT_f (gE_p hG52) ((pTell_h hkk (by unfold cH; omega)).trans ((((pSeq_y a27x).trans (pSeq_y a35x)).trans (pSeq_y a43x)).trans (a52x))) a52f a524 a525
            · have hG43 := pE_tr hG35 hg43
              have hT43 := pE_TV hG43 ht
              rw [pE_Kf hG35] at a43x
              rw [pE_P hG35] at a435
              replace h : eT xq_17 _ 46 [some (.inr (.inl (some 12))), some (.inl (μ.1 12 3)), none, none] [.inl (0 : Int32)] μ43 r μ' := h
              rcases tx_if (t := 58) (p' := 49) h em17_46 (by decide) rfl with ⟨c46_1, h⟩ | ⟨c46_1, h⟩
              · replace c46_1 : (0 : Int) = (0 : Int) := c46_1
                obtain ⟨rfl, hμ⟩ := tx_return h em17_58
                refine ⟨rfl, ?_⟩
                rw [hμ]
                exact oT_f (gE_p hG43) ((pTell_h hkk (by unfold cH; omega)).trans (((pSeq_y a27x).trans (pSeq_y a35x)).trans (pSeq_n a43x a43f))) a43f a434 a435
              · replace c46_1 : ¬ (0 : Int) = (0 : Int) := c46_1
                exfalso
                omega
        · have hG35 := pE_tr hG27 hg35
          have hT35 := pE_TV hG35 ht
          rw [pE_Kf hG27] at a35x
          rw [pE_P hG27] at a355
          replace h : eT xq_17 _ 38 [some (.inr (.inl (some 12))), some (.inl (μ.1 12 3)), none, none] [.inl (0 : Int32)] μ35 r μ' := h
          rcases tx_if (t := 58) (p' := 41) h em17_38 (by decide) rfl with ⟨c38_1, h⟩ | ⟨c38_1, h⟩
          · replace c38_1 : (0 : Int) = (0 : Int) := c38_1
            obtain ⟨rfl, hμ⟩ := tx_return h em17_58
            refine ⟨rfl, ?_⟩
            rw [hμ]
            exact oT_f (gE_p hG35) ((pTell_h hkk (by unfold cH; omega)).trans ((pSeq_y a27x).trans (pSeq_n a35x a35f))) a35f a354 a355
          · replace c38_1 : ¬ (0 : Int) = (0 : Int) := c38_1
            exfalso
            omega
    · have hG27 := pE_tr hG0 hg27
      have hT27 := pE_TV hG27 ht
      replace h : eT xq_17 _ 30 [some (.inr (.inl (some 12))), some (.inl (μ.1 12 3)), none, none] [.inl (0 : Int32)] μ27 r μ' := h
      rcases tx_if (t := 58) (p' := 33) h em17_30 (by decide) rfl with ⟨c30_1, h⟩ | ⟨c30_1, h⟩
      · replace c30_1 : (0 : Int) = (0 : Int) := c30_1
        obtain ⟨rfl, hμ⟩ := tx_return h em17_58
        refine ⟨rfl, ?_⟩
        rw [hμ]
        exact oT_f (gE_p hG27) ((pTell_h hkk (by unfold cH; omega)).trans (pSeq_n a27x a27f)) a27f a274 a275
      · replace c30_1 : ¬ (0 : Int) = (0 : Int) := c30_1
        exfalso
        omega
  · replace c8 : ¬ (μ.1 13 0).toInt < 5 := c8
    replace h := tx_aload_n (p' := 12) h em17_11 rfl rfl
    replace h := tx_iconst (v := 2) (p' := 13) h em17_12 (by decide +kernel) rfl
    obtain ⟨r13, μ13, hE13, h⟩ := tx_invV (na := 2) (mn := 10) (as := [.inr (.inl (some 12)), .inl (2 : Int32)]) (rest := []) (p' := 16) h em17_13 ((congrFun xo_3 70).trans rfl) xm_10 rfl rfl
    obtain ⟨rfl, hm13⟩ := ex_fail hE13 (by have := ht.1; omega)
    replace h : eT xq_17 _ 16 [some (.inr (.inl (some 12))), none, none, none] [.inl (0 : Int32)] μ13 r μ' := h
    replace h := tx_pop (p' := 17) h em17_16 rfl
    obtain ⟨rfl, hμ⟩ := tx_return h em17_17
    rw [hμ, hm13]
    exact ⟨rfl, oT_f (gE_p (pE_F pE_rf)) (pTell_hf hkk (by unfold cH; omega)) (by decide) rfl rfl⟩
