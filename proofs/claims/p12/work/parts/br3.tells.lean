/-! ===== what a law of the reference tells ===== -/
def pE9 (ω0 μ' : xM) : Prop := (∀ k j, k ≠ 106 → ¬ (k = 75 ∧ j = 58) → μ'.1 k j = ω0.1 k j) ∧ μ'.2 = ω0.2
theorem pE9_rf {μ : xM} : pE9 μ μ := ⟨fun _ _ _ _ => rfl, rfl⟩
theorem pE9_tr {μ ν ω : xM} (h1 : pE9 μ ν) (h2 : pE9 ν ω) : pE9 μ ω := ⟨fun k j a b => (h2.1 k j a b).trans (h1.1 k j a b), h2.2.trans h1.2⟩
def pEa (ω0 μ' : xM) : Prop := (∀ k j, k ≠ 106 → μ'.1 k j = ω0.1 k j) ∧ μ'.2 = ω0.2
theorem pEa_9 {μ ν : xM} (h : pEa μ ν) : pE9 μ ν := ⟨fun k j a _ => h.1 k j a, h.2⟩
theorem pEa_i {ω0 ω : xM} {j : Nat} {v : Int32} (h : pEa ω0 ω) : pEa ω0 (xpi ω 106 j v) := ⟨fun k i hk => (xpi_ne (fun q => hk q.1)).trans (h.1 k i hk), h.2⟩
def pK (ω0 ω : xM) (st : List Int32) (t : Int32) : Prop := pEa ω0 ω ∧ t.toInt = st.length ∧ ∀ i : Nat, i < st.length → ω.1 106 (st.length - 1 - i) = st.getD i 0
theorem pK_push {ω0 ω : xM} {st : List Int32} {t t1 v : Int32} (h : pK ω0 ω st t) (ht : t1.toInt = t.toInt + 1) : pK ω0 (xpi ω 106 t.toInt.toNat v) (v :: st) t1 := by
  obtain ⟨a, b, d⟩ := h
  refine ⟨pEa_i a, by rw [ht, b]; rfl, fun i hi => ?_⟩
  rw [List.length_cons] at hi ⊢
  cases i with
  | zero => rw [show st.length + 1 - 1 - 0 = t.toInt.toNat by omega, xpi_at]; rfl
  | succ i =>
    rw [xpi_ne (fun q => by omega), show st.length + 1 - 1 - (i + 1) = st.length - 1 - i by omega]
    exact d i (by omega)
theorem pK_0 {ω0 ω : xM} {st : List Int32} {x t : Int32} (h : pK ω0 ω (x :: st) t) : ω.1 106 st.length = x := h.2.2 0 (Nat.succ_pos _)
def rAt (ω : xM) (p : Nat) (C : List kOp) : Prop := ∀ i : Nat, i < C.length → (ω.1 101 (p + i)).toInt = (C.getD i (0, 0)).1 ∧ (ω.1 102 (p + i)).toInt = (C.getD i (0, 0)).2
theorem rAt_h {ω : xM} {p : Nat} {o : kOp} {C : List kOp} (h : rAt ω p (o :: C)) : (ω.1 101 p).toInt = o.1 ∧ (ω.1 102 p).toInt = o.2 := h 0 (Nat.succ_pos _)
theorem rAt_t {ω : xM} {p : Nat} {o : kOp} {C : List kOp} (h : rAt ω p (o :: C)) : rAt ω (p + 1) C := fun i hi => by
  have q := h (i + 1) (by rw [List.length_cons]; omega)
  rw [show p + (i + 1) = p + 1 + i by omega] at q
  exact q
abbrev xq_232 : xP := (⟨"CapitalCaseModel", "termOf", "(II)I"⟩, prog_14_method_39_code, 8, (some .int))
set_option maxRecDepth 10000 in
set_option maxHeartbeats 4000000 in
theorem tr_push0 {n : Nat} {f y t c : Int32} {o5 o6 o7 : Option zV} {ω μ' : xM} {r : Option zV} (h : eT xq_232 n 5 [some (.inr (.inl (some 75))), some (.inl f), some (.inl y), some (.inl t), some (.inl c), o5, o6, o7] [] ω r μ') (hc : c.toInt < y.toInt) (ht0 : 0 ≤ t.toInt) (ht4 : t.toInt ≤ 1000) (ho : (ω.1 101 c.toInt.toNat).toInt = 0) : t.toInt < 400 ∧ ∃ n' o5' o6' o7', eT xq_232 n' 5 [some (.inr (.inl (some 75))), some (.inl f), some (.inl y), some (.inl (t + 1)), some (.inl (c + 1)), o5', o6', o7'] [] (xpi ω 106 t.toInt.toNat (ω.1 102 c.toInt.toNat)) r μ' := by
  have e1i : (1 : Int32).toInt = 1 := by decide
  replace h := tx_iload (p' := 7) h em232_5 rfl rfl
  replace h := tx_iload_n (p' := 8) h em232_7 rfl rfl
  rcases tx_icmp (t := 165) (p' := 11) h em232_8 (by decide) rfl with ⟨c8, h⟩ | ⟨c8, h⟩
  · replace c8 : y.toInt ≤ c.toInt := c8
    replace h := tx_aload_n (p' := 166) h em232_165 rfl rfl
    replace h := tx_getc (c := 12) (j := 57) (p' := 169) h em232_166 ((congrFun xo_12 110).trans rfl) rfl rfl rfl
    replace h := tx_iconst (v := 0) (p' := 170) h em232_169 (by decide +kernel) rfl
    obtain ⟨hb170, h⟩ := tx_iald (len := 400) (p' := 171) h em232_170 rfl rfl
    replace hb170 : (0 : Int) ≤ 0 ∧ (0 : Int) < 400 := hb170
    replace h : eT xq_232 _ 171 [some (.inr (.inl (some 75))), some (.inl f), some (.inl y), some (.inl t), some (.inl c), o5, o6, o7] [.inl (ω.1 106 0)] ω r μ' := h
    obtain ⟨rfl, hμ⟩ := tx_ireturn h em232_171
    exfalso
    omega
  · replace c8 : ¬ y.toInt ≤ c.toInt := c8
    replace h := tx_aload_n (p' := 12) h em232_11 rfl rfl
    replace h := tx_getc (c := 12) (j := 50) (p' := 15) h em232_12 ((congrFun xo_12 95).trans rfl) rfl rfl rfl
    replace h := tx_iload (p' := 17) h em232_15 rfl rfl
    obtain ⟨hb17, h⟩ := tx_iald (len := 840) (p' := 18) h em232_17 rfl rfl
    replace hb17 : (0 : Int) ≤ c.toInt ∧ c.toInt < 840 := hb17
    replace h := tx_istore (p' := 20) h em232_18 rfl
    replace h : eT xq_232 _ 20 [some (.inr (.inl (some 75))), some (.inl f), some (.inl y), some (.inl t), some (.inl c), some (.inl (ω.1 101 c.toInt.toNat)), o6, o7] [] ω r μ' := h
    replace h := tx_iload (p' := 22) h em232_20 rfl rfl
    replace h := tx_iconst (v := 2) (p' := 23) h em232_22 (by decide +kernel) rfl
    rcases tx_icmp (t := 65) (p' := 26) h em232_23 (by decide) rfl with ⟨c23, h⟩ | ⟨c23, h⟩
    · replace c23 : 2 ≤ (ω.1 101 c.toInt.toNat).toInt := c23
      replace h := tx_iinc (v := (-1)) (p' := 68) h em232_65 (by decide +kernel) rfl rfl
      replace h : eT xq_232 _ 68 [some (.inr (.inl (some 75))), some (.inl f), some (.inl y), some (.inl (t + (-1))), some (.inl c), some (.inl (ω.1 101 c.toInt.toNat)), o6, o7] [] ω r μ' := h
      have et1 : (t + -1).toInt = t.toInt - 1 := ka1 (by omega)
      obtain ⟨t1, ht1⟩ : ∃ z, z = t + -1 := ⟨_, rfl⟩
      rw [← ht1] at et1 h
      clear ht1
      have et2 : (t1 - (1 : Int32)).toInt = t.toInt - 2 := by rw [an_sub (by rw [e1i]; omega) (by rw [e1i]; omega), e1i]; omega
      replace h := tx_aload_n (p' := 69) h em232_68 rfl rfl
      replace h := tx_getc (c := 12) (j := 57) (p' := 72) h em232_69 ((congrFun xo_12 110).trans rfl) rfl rfl rfl
      replace h := tx_iload_n (p' := 73) h em232_72 rfl rfl
      replace h := tx_iconst (v := 1) (p' := 74) h em232_73 (by decide +kernel) rfl
      replace h := tx_isub (p' := 75) h em232_74 rfl
      obtain ⟨hb75, h⟩ := tx_iald (len := 400) (p' := 76) h em232_75 rfl rfl
      replace hb75 : (0 : Int) ≤ (t1 - (1 : Int32)).toInt ∧ (t1 - (1 : Int32)).toInt < 400 := hb75
      replace h := tx_istore (p' := 78) h em232_76 rfl
      replace h : eT xq_232 _ 78 [some (.inr (.inl (some 75))), some (.inl f), some (.inl y), some (.inl t1), some (.inl c), some (.inl (ω.1 101 c.toInt.toNat)), some (.inl (ω.1 106 (t1 - (1 : Int32)).toInt.toNat)), o7] [] ω r μ' := h
      replace h := tx_aload_n (p' := 79) h em232_78 rfl rfl
      replace h := tx_getc (c := 12) (j := 57) (p' := 82) h em232_79 ((congrFun xo_12 110).trans rfl) rfl rfl rfl
      replace h := tx_iload_n (p' := 83) h em232_82 rfl rfl
      obtain ⟨hb83, h⟩ := tx_iald (len := 400) (p' := 84) h em232_83 rfl rfl
      replace hb83 : (0 : Int) ≤ t1.toInt ∧ t1.toInt < 400 := hb83
      replace h := tx_istore (p' := 86) h em232_84 rfl
      replace h : eT xq_232 _ 86 [some (.inr (.inl (some 75))), some (.inl f), some (.inl y), some (.inl t1), some (.inl c), some (.inl (ω.1 101 c.toInt.toNat)), some (.inl (ω.1 106 (t1 - (1 : Int32)).toInt.toNat)), some (.inl (ω.1 106 t1.toInt.toNat))] [] ω r μ' := h
      replace h := tx_iload (p' := 88) h em232_86 rfl rfl
      replace h := tx_iconst (v := 5) (p' := 89) h em232_88 (by decide +kernel) rfl
      rcases tx_icmp (t := 104) (p' := 92) h em232_89 (by decide) rfl with ⟨c89, h⟩ | ⟨c89, h⟩
      · replace c89 : ¬ (ω.1 101 c.toInt.toNat).toInt = 5 := c89
        replace h := tx_aload_n (p' := 105) h em232_104 rfl rfl
        replace h := tx_getc (c := 12) (j := 57) (p' := 108) h em232_105 ((congrFun xo_12 110).trans rfl) rfl rfl rfl
        replace h := tx_iload_n (p' := 109) h em232_108 rfl rfl
        replace h := tx_iconst (v := 1) (p' := 110) h em232_109 (by decide +kernel) rfl
        replace h := tx_isub (p' := 111) h em232_110 rfl
        replace h := tx_iload (p' := 113) h em232_111 rfl rfl
        replace h := tx_iconst (v := 2) (p' := 114) h em232_113 (by decide +kernel) rfl
        rcases tx_icmp (t := 125) (p' := 117) h em232_114 (by decide) rfl with ⟨c114, h⟩ | ⟨c114, h⟩
        · replace c114 : ¬ (ω.1 101 c.toInt.toNat).toInt = 2 := c114
          replace h := tx_iload (p' := 127) h em232_125 rfl rfl
          replace h := tx_iconst (v := 3) (p' := 128) h em232_127 (by decide +kernel) rfl
          rcases tx_icmp (t := 139) (p' := 131) h em232_128 (by decide) rfl with ⟨c128, h⟩ | ⟨c128, h⟩
          · replace c128 : ¬ (ω.1 101 c.toInt.toNat).toInt = 3 := c128
            replace h := tx_iload (p' := 141) h em232_139 rfl rfl
            replace h := tx_iconst (v := 4) (p' := 142) h em232_141 (by decide +kernel) rfl
            rcases tx_icmp (t := 153) (p' := 145) h em232_142 (by decide) rfl with ⟨c142, h⟩ | ⟨c142, h⟩
            · replace c142 : ¬ (ω.1 101 c.toInt.toNat).toInt = 4 := c142
              replace h := tx_iload (p' := 155) h em232_153 rfl rfl
              replace h := tx_iload (p' := 157) h em232_155 rfl rfl
              obtain ⟨hz157, h⟩ := tx_idiv (p' := 158) h em232_157 rfl
              obtain ⟨hb158, h⟩ := tx_iast (len := 400) (p' := 159) h em232_158 rfl rfl
              replace hb158 : (0 : Int) ≤ (t1 - (1 : Int32)).toInt ∧ (t1 - (1 : Int32)).toInt < 400 := hb158
              replace h := tx_iinc (v := 1) (p' := 162) h em232_159 (by decide +kernel) rfl rfl
              replace h : eT xq_232 _ 162 [some (.inr (.inl (some 75))), some (.inl f), some (.inl y), some (.inl t1), some (.inl (c + 1)), some (.inl (ω.1 101 c.toInt.toNat)), some (.inl (ω.1 106 (t1 - (1 : Int32)).toInt.toNat)), some (.inl (ω.1 106 t1.toInt.toNat))] [] (xpi ω 106 (t1 - (1 : Int32)).toInt.toNat ((ω.1 106 (t1 - (1 : Int32)).toInt.toNat) / (ω.1 106 t1.toInt.toNat))) r μ' := h
              obtain ⟨n2, hn2, h⟩ := tx_gotoS (t := 5) h em232_162 (by decide)
              exfalso
              omega
            · replace c142 : ¬ ¬ (ω.1 101 c.toInt.toNat).toInt = 4 := c142
              replace h := tx_iload (p' := 147) h em232_145 rfl rfl
              replace h := tx_iload (p' := 149) h em232_147 rfl rfl
              replace h := tx_imul (p' := 150) h em232_149 rfl
              replace h := tx_goto (t := 158) h em232_150 (by decide)
              obtain ⟨hb158_1, h⟩ := tx_iast (len := 400) (p' := 159) h em232_158 rfl rfl
              replace hb158_1 : (0 : Int) ≤ (t1 - (1 : Int32)).toInt ∧ (t1 - (1 : Int32)).toInt < 400 := hb158_1
              replace h := tx_iinc (v := 1) (p' := 162) h em232_159 (by decide +kernel) rfl rfl
              replace h : eT xq_232 _ 162 [some (.inr (.inl (some 75))), some (.inl f), some (.inl y), some (.inl t1), some (.inl (c + 1)), some (.inl (ω.1 101 c.toInt.toNat)), some (.inl (ω.1 106 (t1 - (1 : Int32)).toInt.toNat)), some (.inl (ω.1 106 t1.toInt.toNat))] [] (xpi ω 106 (t1 - (1 : Int32)).toInt.toNat ((ω.1 106 (t1 - (1 : Int32)).toInt.toNat) * (ω.1 106 t1.toInt.toNat))) r μ' := h
              obtain ⟨n2, hn2, h⟩ := tx_gotoS (t := 5) h em232_162 (by decide)
              exfalso
              omega
          · replace c128 : ¬ ¬ (ω.1 101 c.toInt.toNat).toInt = 3 := c128
            replace h := tx_iload (p' := 133) h em232_131 rfl rfl
            replace h := tx_iload (p' := 135) h em232_133 rfl rfl
            replace h := tx_isub (p' := 136) h em232_135 rfl
            replace h := tx_goto (t := 158) h em232_136 (by decide)
            obtain ⟨hb158_2, h⟩ := tx_iast (len := 400) (p' := 159) h em232_158 rfl rfl
            replace hb158_2 : (0 : Int) ≤ (t1 - (1 : Int32)).toInt ∧ (t1 - (1 : Int32)).toInt < 400 := hb158_2
            replace h := tx_iinc (v := 1) (p' := 162) h em232_159 (by decide +kernel) rfl rfl
            replace h : eT xq_232 _ 162 [some (.inr (.inl (some 75))), some (.inl f), some (.inl y), some (.inl t1), some (.inl (c + 1)), some (.inl (ω.1 101 c.toInt.toNat)), some (.inl (ω.1 106 (t1 - (1 : Int32)).toInt.toNat)), some (.inl (ω.1 106 t1.toInt.toNat))] [] (xpi ω 106 (t1 - (1 : Int32)).toInt.toNat ((ω.1 106 (t1 - (1 : Int32)).toInt.toNat) - (ω.1 106 t1.toInt.toNat))) r μ' := h
            obtain ⟨n2, hn2, h⟩ := tx_gotoS (t := 5) h em232_162 (by decide)
            exfalso
            omega
        · replace c114 : ¬ ¬ (ω.1 101 c.toInt.toNat).toInt = 2 := c114
          replace h := tx_iload (p' := 119) h em232_117 rfl rfl
          replace h := tx_iload (p' := 121) h em232_119 rfl rfl
          replace h := tx_iadd (p' := 122) h em232_121 rfl
          replace h := tx_goto (t := 158) h em232_122 (by decide)
          obtain ⟨hb158_3, h⟩ := tx_iast (len := 400) (p' := 159) h em232_158 rfl rfl
          replace hb158_3 : (0 : Int) ≤ (t1 - (1 : Int32)).toInt ∧ (t1 - (1 : Int32)).toInt < 400 := hb158_3
          replace h := tx_iinc (v := 1) (p' := 162) h em232_159 (by decide +kernel) rfl rfl
          replace h : eT xq_232 _ 162 [some (.inr (.inl (some 75))), some (.inl f), some (.inl y), some (.inl t1), some (.inl (c + 1)), some (.inl (ω.1 101 c.toInt.toNat)), some (.inl (ω.1 106 (t1 - (1 : Int32)).toInt.toNat)), some (.inl (ω.1 106 t1.toInt.toNat))] [] (xpi ω 106 (t1 - (1 : Int32)).toInt.toNat ((ω.1 106 (t1 - (1 : Int32)).toInt.toNat) + (ω.1 106 t1.toInt.toNat))) r μ' := h
          obtain ⟨n2, hn2, h⟩ := tx_gotoS (t := 5) h em232_162 (by decide)
          exfalso
          omega
      · replace c89 : ¬ ¬ (ω.1 101 c.toInt.toNat).toInt = 5 := c89
        replace h := tx_iload (p' := 94) h em232_92 rfl rfl
        rcases tx_if (t := 104) (p' := 97) h em232_94 (by decide) rfl with ⟨c94, h⟩ | ⟨c94, h⟩
        · replace c94 : ¬ (ω.1 106 t1.toInt.toNat).toInt = 0 := c94
          replace h := tx_aload_n (p' := 105) h em232_104 rfl rfl
          replace h := tx_getc (c := 12) (j := 57) (p' := 108) h em232_105 ((congrFun xo_12 110).trans rfl) rfl rfl rfl
          replace h := tx_iload_n (p' := 109) h em232_108 rfl rfl
          replace h := tx_iconst (v := 1) (p' := 110) h em232_109 (by decide +kernel) rfl
          replace h := tx_isub (p' := 111) h em232_110 rfl
          replace h := tx_iload (p' := 113) h em232_111 rfl rfl
          replace h := tx_iconst (v := 2) (p' := 114) h em232_113 (by decide +kernel) rfl
          rcases tx_icmp (t := 125) (p' := 117) h em232_114 (by decide) rfl with ⟨c114_1, h⟩ | ⟨c114_1, h⟩
          · replace c114_1 : ¬ (ω.1 101 c.toInt.toNat).toInt = 2 := c114_1
            replace h := tx_iload (p' := 127) h em232_125 rfl rfl
            replace h := tx_iconst (v := 3) (p' := 128) h em232_127 (by decide +kernel) rfl
            rcases tx_icmp (t := 139) (p' := 131) h em232_128 (by decide) rfl with ⟨c128_1, h⟩ | ⟨c128_1, h⟩
            · replace c128_1 : ¬ (ω.1 101 c.toInt.toNat).toInt = 3 := c128_1
              replace h := tx_iload (p' := 141) h em232_139 rfl rfl
              replace h := tx_iconst (v := 4) (p' := 142) h em232_141 (by decide +kernel) rfl
              rcases tx_icmp (t := 153) (p' := 145) h em232_142 (by decide) rfl with ⟨c142_1, h⟩ | ⟨c142_1, h⟩
              · replace c142_1 : ¬ (ω.1 101 c.toInt.toNat).toInt = 4 := c142_1
                replace h := tx_iload (p' := 155) h em232_153 rfl rfl
                replace h := tx_iload (p' := 157) h em232_155 rfl rfl
                obtain ⟨hz157_1, h⟩ := tx_idiv (p' := 158) h em232_157 rfl
                obtain ⟨hb158_4, h⟩ := tx_iast (len := 400) (p' := 159) h em232_158 rfl rfl
                replace hb158_4 : (0 : Int) ≤ (t1 - (1 : Int32)).toInt ∧ (t1 - (1 : Int32)).toInt < 400 := hb158_4
                replace h := tx_iinc (v := 1) (p' := 162) h em232_159 (by decide +kernel) rfl rfl
                replace h : eT xq_232 _ 162 [some (.inr (.inl (some 75))), some (.inl f), some (.inl y), some (.inl t1), some (.inl (c + 1)), some (.inl (ω.1 101 c.toInt.toNat)), some (.inl (ω.1 106 (t1 - (1 : Int32)).toInt.toNat)), some (.inl (ω.1 106 t1.toInt.toNat))] [] (xpi ω 106 (t1 - (1 : Int32)).toInt.toNat ((ω.1 106 (t1 - (1 : Int32)).toInt.toNat) / (ω.1 106 t1.toInt.toNat))) r μ' := h
                obtain ⟨n2, hn2, h⟩ := tx_gotoS (t := 5) h em232_162 (by decide)
                exfalso
                omega
              · replace c142_1 : ¬ ¬ (ω.1 101 c.toInt.toNat).toInt = 4 := c142_1
                replace h := tx_iload (p' := 147) h em232_145 rfl rfl
                replace h := tx_iload (p' := 149) h em232_147 rfl rfl
                replace h := tx_imul (p' := 150) h em232_149 rfl
                replace h := tx_goto (t := 158) h em232_150 (by decide)
                obtain ⟨hb158_5, h⟩ := tx_iast (len := 400) (p' := 159) h em232_158 rfl rfl
                replace hb158_5 : (0 : Int) ≤ (t1 - (1 : Int32)).toInt ∧ (t1 - (1 : Int32)).toInt < 400 := hb158_5
                replace h := tx_iinc (v := 1) (p' := 162) h em232_159 (by decide +kernel) rfl rfl
                replace h : eT xq_232 _ 162 [some (.inr (.inl (some 75))), some (.inl f), some (.inl y), some (.inl t1), some (.inl (c + 1)), some (.inl (ω.1 101 c.toInt.toNat)), some (.inl (ω.1 106 (t1 - (1 : Int32)).toInt.toNat)), some (.inl (ω.1 106 t1.toInt.toNat))] [] (xpi ω 106 (t1 - (1 : Int32)).toInt.toNat ((ω.1 106 (t1 - (1 : Int32)).toInt.toNat) * (ω.1 106 t1.toInt.toNat))) r μ' := h
                obtain ⟨n2, hn2, h⟩ := tx_gotoS (t := 5) h em232_162 (by decide)
                exfalso
                omega
            · replace c128_1 : ¬ ¬ (ω.1 101 c.toInt.toNat).toInt = 3 := c128_1
              replace h := tx_iload (p' := 133) h em232_131 rfl rfl
              replace h := tx_iload (p' := 135) h em232_133 rfl rfl
              replace h := tx_isub (p' := 136) h em232_135 rfl
              replace h := tx_goto (t := 158) h em232_136 (by decide)
              obtain ⟨hb158_6, h⟩ := tx_iast (len := 400) (p' := 159) h em232_158 rfl rfl
              replace hb158_6 : (0 : Int) ≤ (t1 - (1 : Int32)).toInt ∧ (t1 - (1 : Int32)).toInt < 400 := hb158_6
              replace h := tx_iinc (v := 1) (p' := 162) h em232_159 (by decide +kernel) rfl rfl
              replace h : eT xq_232 _ 162 [some (.inr (.inl (some 75))), some (.inl f), some (.inl y), some (.inl t1), some (.inl (c + 1)), some (.inl (ω.1 101 c.toInt.toNat)), some (.inl (ω.1 106 (t1 - (1 : Int32)).toInt.toNat)), some (.inl (ω.1 106 t1.toInt.toNat))] [] (xpi ω 106 (t1 - (1 : Int32)).toInt.toNat ((ω.1 106 (t1 - (1 : Int32)).toInt.toNat) - (ω.1 106 t1.toInt.toNat))) r μ' := h
              obtain ⟨n2, hn2, h⟩ := tx_gotoS (t := 5) h em232_162 (by decide)
              exfalso
              omega
          · replace c114_1 : ¬ ¬ (ω.1 101 c.toInt.toNat).toInt = 2 := c114_1
            replace h := tx_iload (p' := 119) h em232_117 rfl rfl
            replace h := tx_iload (p' := 121) h em232_119 rfl rfl
            replace h := tx_iadd (p' := 122) h em232_121 rfl
            replace h := tx_goto (t := 158) h em232_122 (by decide)
            obtain ⟨hb158_7, h⟩ := tx_iast (len := 400) (p' := 159) h em232_158 rfl rfl
            replace hb158_7 : (0 : Int) ≤ (t1 - (1 : Int32)).toInt ∧ (t1 - (1 : Int32)).toInt < 400 := hb158_7
            replace h := tx_iinc (v := 1) (p' := 162) h em232_159 (by decide +kernel) rfl rfl
            replace h : eT xq_232 _ 162 [some (.inr (.inl (some 75))), some (.inl f), some (.inl y), some (.inl t1), some (.inl (c + 1)), some (.inl (ω.1 101 c.toInt.toNat)), some (.inl (ω.1 106 (t1 - (1 : Int32)).toInt.toNat)), some (.inl (ω.1 106 t1.toInt.toNat))] [] (xpi ω 106 (t1 - (1 : Int32)).toInt.toNat ((ω.1 106 (t1 - (1 : Int32)).toInt.toNat) + (ω.1 106 t1.toInt.toNat))) r μ' := h
            obtain ⟨n2, hn2, h⟩ := tx_gotoS (t := 5) h em232_162 (by decide)
            exfalso
            omega
        · replace c94 : ¬ ¬ (ω.1 106 t1.toInt.toNat).toInt = 0 := c94
          replace h := tx_aload_n (p' := 98) h em232_97 rfl rfl
          replace h := tx_iconst (v := 1) (p' := 99) h em232_98 (by decide +kernel) rfl
          replace h := tx_putf (a := 75) (c := 12) (j := 58) (p' := 102) h em232_99 ((congrFun xo_12 320).trans rfl) rfl
          replace h := tx_iconst (v := 0) (p' := 103) h em232_102 (by decide +kernel) rfl
          obtain ⟨rfl, hμ⟩ := tx_ireturn h em232_103
          exfalso
          omega
    · replace c23 : ¬ 2 ≤ (ω.1 101 c.toInt.toNat).toInt := c23
      replace h := tx_aload_n (p' := 27) h em232_26 rfl rfl
      replace h := tx_getc (c := 12) (j := 57) (p' := 30) h em232_27 ((congrFun xo_12 110).trans rfl) rfl rfl rfl
      replace h := tx_iload_n (p' := 31) h em232_30 rfl rfl
      replace h := tx_iload (p' := 33) h em232_31 rfl rfl
      rcases tx_if (t := 46) (p' := 36) h em232_33 (by decide) rfl with ⟨c33, h⟩ | ⟨c33, h⟩
      · replace c33 : ¬ (ω.1 101 c.toInt.toNat).toInt = 0 := c33
        replace h := tx_aload_n (p' := 47) h em232_46 rfl rfl
        replace h := tx_getc (c := 12) (j := 56) (p' := 50) h em232_47 ((congrFun xo_12 107).trans rfl) rfl rfl rfl
        replace h := tx_aload_n (p' := 51) h em232_50 rfl rfl
        replace h := tx_getc (c := 12) (j := 51) (p' := 54) h em232_51 ((congrFun xo_12 98).trans rfl) rfl rfl rfl
        replace h := tx_iload (p' := 56) h em232_54 rfl rfl
        obtain ⟨hb56, h⟩ := tx_iald (len := 840) (p' := 57) h em232_56 rfl rfl
        replace hb56 : (0 : Int) ≤ c.toInt ∧ c.toInt < 840 := hb56
        obtain ⟨hb57, h⟩ := tx_iald (len := 9) (p' := 58) h em232_57 rfl rfl
        replace hb57 : (0 : Int) ≤ (ω.1 102 c.toInt.toNat).toInt ∧ (ω.1 102 c.toInt.toNat).toInt < 9 := hb57
        obtain ⟨hb58, h⟩ := tx_iast (len := 400) (p' := 59) h em232_58 rfl rfl
        replace hb58 : (0 : Int) ≤ t.toInt ∧ t.toInt < 400 := hb58
        replace h := tx_iinc (v := 1) (p' := 62) h em232_59 (by decide +kernel) rfl rfl
        replace h : eT xq_232 _ 62 [some (.inr (.inl (some 75))), some (.inl f), some (.inl y), some (.inl (t + 1)), some (.inl c), some (.inl (ω.1 101 c.toInt.toNat)), o6, o7] [] (xpi ω 106 t.toInt.toNat (ω.1 105 (ω.1 102 c.toInt.toNat).toInt.toNat)) r μ' := h
        replace h := tx_goto (t := 159) h em232_62 (by decide)
        replace h := tx_iinc (v := 1) (p' := 162) h em232_159 (by decide +kernel) rfl rfl
        replace h : eT xq_232 _ 162 [some (.inr (.inl (some 75))), some (.inl f), some (.inl y), some (.inl (t + 1)), some (.inl (c + 1)), some (.inl (ω.1 101 c.toInt.toNat)), o6, o7] [] (xpi ω 106 t.toInt.toNat (ω.1 105 (ω.1 102 c.toInt.toNat).toInt.toNat)) r μ' := h
        obtain ⟨n2, hn2, h⟩ := tx_gotoS (t := 5) h em232_162 (by decide)
        exfalso
        omega
      · replace c33 : ¬ ¬ (ω.1 101 c.toInt.toNat).toInt = 0 := c33
        replace h := tx_aload_n (p' := 37) h em232_36 rfl rfl
        replace h := tx_getc (c := 12) (j := 51) (p' := 40) h em232_37 ((congrFun xo_12 98).trans rfl) rfl rfl rfl
        replace h := tx_iload (p' := 42) h em232_40 rfl rfl
        obtain ⟨hb42, h⟩ := tx_iald (len := 840) (p' := 43) h em232_42 rfl rfl
        replace hb42 : (0 : Int) ≤ c.toInt ∧ c.toInt < 840 := hb42
        replace h := tx_goto (t := 58) h em232_43 (by decide)
        obtain ⟨hb58_1, h⟩ := tx_iast (len := 400) (p' := 59) h em232_58 rfl rfl
        replace hb58_1 : (0 : Int) ≤ t.toInt ∧ t.toInt < 400 := hb58_1
        replace h := tx_iinc (v := 1) (p' := 62) h em232_59 (by decide +kernel) rfl rfl
        replace h : eT xq_232 _ 62 [some (.inr (.inl (some 75))), some (.inl f), some (.inl y), some (.inl (t + 1)), some (.inl c), some (.inl (ω.1 101 c.toInt.toNat)), o6, o7] [] (xpi ω 106 t.toInt.toNat (ω.1 102 c.toInt.toNat)) r μ' := h
        replace h := tx_goto (t := 159) h em232_62 (by decide)
        replace h := tx_iinc (v := 1) (p' := 162) h em232_159 (by decide +kernel) rfl rfl
        replace h : eT xq_232 _ 162 [some (.inr (.inl (some 75))), some (.inl f), some (.inl y), some (.inl (t + 1)), some (.inl (c + 1)), some (.inl (ω.1 101 c.toInt.toNat)), o6, o7] [] (xpi ω 106 t.toInt.toNat (ω.1 102 c.toInt.toNat)) r μ' := h
        obtain ⟨n2, hn2, h⟩ := tx_gotoS (t := 5) h em232_162 (by decide)
        exact ⟨by omega, _, _, _, _, h⟩
set_option maxRecDepth 10000 in
set_option maxHeartbeats 4000000 in
theorem tr_push1 {n : Nat} {f y t c : Int32} {o5 o6 o7 : Option zV} {ω μ' : xM} {r : Option zV} (h : eT xq_232 n 5 [some (.inr (.inl (some 75))), some (.inl f), some (.inl y), some (.inl t), some (.inl c), o5, o6, o7] [] ω r μ') (hc : c.toInt < y.toInt) (ht0 : 0 ≤ t.toInt) (ht4 : t.toInt ≤ 1000) (ho : (ω.1 101 c.toInt.toNat).toInt = 1) : t.toInt < 400 ∧ ∃ n' o5' o6' o7', eT xq_232 n' 5 [some (.inr (.inl (some 75))), some (.inl f), some (.inl y), some (.inl (t + 1)), some (.inl (c + 1)), o5', o6', o7'] [] (xpi ω 106 t.toInt.toNat (ω.1 105 (ω.1 102 c.toInt.toNat).toInt.toNat)) r μ' := by
  have e1i : (1 : Int32).toInt = 1 := by decide
  replace h := tx_iload (p' := 7) h em232_5 rfl rfl
  replace h := tx_iload_n (p' := 8) h em232_7 rfl rfl
  rcases tx_icmp (t := 165) (p' := 11) h em232_8 (by decide) rfl with ⟨c8, h⟩ | ⟨c8, h⟩
  · replace c8 : y.toInt ≤ c.toInt := c8
    replace h := tx_aload_n (p' := 166) h em232_165 rfl rfl
    replace h := tx_getc (c := 12) (j := 57) (p' := 169) h em232_166 ((congrFun xo_12 110).trans rfl) rfl rfl rfl
    replace h := tx_iconst (v := 0) (p' := 170) h em232_169 (by decide +kernel) rfl
    obtain ⟨hb170, h⟩ := tx_iald (len := 400) (p' := 171) h em232_170 rfl rfl
    replace hb170 : (0 : Int) ≤ 0 ∧ (0 : Int) < 400 := hb170
    replace h : eT xq_232 _ 171 [some (.inr (.inl (some 75))), some (.inl f), some (.inl y), some (.inl t), some (.inl c), o5, o6, o7] [.inl (ω.1 106 0)] ω r μ' := h
    obtain ⟨rfl, hμ⟩ := tx_ireturn h em232_171
    exfalso
    omega
  · replace c8 : ¬ y.toInt ≤ c.toInt := c8
    replace h := tx_aload_n (p' := 12) h em232_11 rfl rfl
    replace h := tx_getc (c := 12) (j := 50) (p' := 15) h em232_12 ((congrFun xo_12 95).trans rfl) rfl rfl rfl
    replace h := tx_iload (p' := 17) h em232_15 rfl rfl
    obtain ⟨hb17, h⟩ := tx_iald (len := 840) (p' := 18) h em232_17 rfl rfl
    replace hb17 : (0 : Int) ≤ c.toInt ∧ c.toInt < 840 := hb17
    replace h := tx_istore (p' := 20) h em232_18 rfl
    replace h : eT xq_232 _ 20 [some (.inr (.inl (some 75))), some (.inl f), some (.inl y), some (.inl t), some (.inl c), some (.inl (ω.1 101 c.toInt.toNat)), o6, o7] [] ω r μ' := h
    replace h := tx_iload (p' := 22) h em232_20 rfl rfl
    replace h := tx_iconst (v := 2) (p' := 23) h em232_22 (by decide +kernel) rfl
    rcases tx_icmp (t := 65) (p' := 26) h em232_23 (by decide) rfl with ⟨c23, h⟩ | ⟨c23, h⟩
    · replace c23 : 2 ≤ (ω.1 101 c.toInt.toNat).toInt := c23
      replace h := tx_iinc (v := (-1)) (p' := 68) h em232_65 (by decide +kernel) rfl rfl
      replace h : eT xq_232 _ 68 [some (.inr (.inl (some 75))), some (.inl f), some (.inl y), some (.inl (t + (-1))), some (.inl c), some (.inl (ω.1 101 c.toInt.toNat)), o6, o7] [] ω r μ' := h
      have et1 : (t + -1).toInt = t.toInt - 1 := ka1 (by omega)
      obtain ⟨t1, ht1⟩ : ∃ z, z = t + -1 := ⟨_, rfl⟩
      rw [← ht1] at et1 h
      clear ht1
      have et2 : (t1 - (1 : Int32)).toInt = t.toInt - 2 := by rw [an_sub (by rw [e1i]; omega) (by rw [e1i]; omega), e1i]; omega
      replace h := tx_aload_n (p' := 69) h em232_68 rfl rfl
      replace h := tx_getc (c := 12) (j := 57) (p' := 72) h em232_69 ((congrFun xo_12 110).trans rfl) rfl rfl rfl
      replace h := tx_iload_n (p' := 73) h em232_72 rfl rfl
      replace h := tx_iconst (v := 1) (p' := 74) h em232_73 (by decide +kernel) rfl
      replace h := tx_isub (p' := 75) h em232_74 rfl
      obtain ⟨hb75, h⟩ := tx_iald (len := 400) (p' := 76) h em232_75 rfl rfl
      replace hb75 : (0 : Int) ≤ (t1 - (1 : Int32)).toInt ∧ (t1 - (1 : Int32)).toInt < 400 := hb75
      replace h := tx_istore (p' := 78) h em232_76 rfl
      replace h : eT xq_232 _ 78 [some (.inr (.inl (some 75))), some (.inl f), some (.inl y), some (.inl t1), some (.inl c), some (.inl (ω.1 101 c.toInt.toNat)), some (.inl (ω.1 106 (t1 - (1 : Int32)).toInt.toNat)), o7] [] ω r μ' := h
      replace h := tx_aload_n (p' := 79) h em232_78 rfl rfl
      replace h := tx_getc (c := 12) (j := 57) (p' := 82) h em232_79 ((congrFun xo_12 110).trans rfl) rfl rfl rfl
      replace h := tx_iload_n (p' := 83) h em232_82 rfl rfl
      obtain ⟨hb83, h⟩ := tx_iald (len := 400) (p' := 84) h em232_83 rfl rfl
      replace hb83 : (0 : Int) ≤ t1.toInt ∧ t1.toInt < 400 := hb83
      replace h := tx_istore (p' := 86) h em232_84 rfl
      replace h : eT xq_232 _ 86 [some (.inr (.inl (some 75))), some (.inl f), some (.inl y), some (.inl t1), some (.inl c), some (.inl (ω.1 101 c.toInt.toNat)), some (.inl (ω.1 106 (t1 - (1 : Int32)).toInt.toNat)), some (.inl (ω.1 106 t1.toInt.toNat))] [] ω r μ' := h
      replace h := tx_iload (p' := 88) h em232_86 rfl rfl
      replace h := tx_iconst (v := 5) (p' := 89) h em232_88 (by decide +kernel) rfl
      rcases tx_icmp (t := 104) (p' := 92) h em232_89 (by decide) rfl with ⟨c89, h⟩ | ⟨c89, h⟩
      · replace c89 : ¬ (ω.1 101 c.toInt.toNat).toInt = 5 := c89
        replace h := tx_aload_n (p' := 105) h em232_104 rfl rfl
        replace h := tx_getc (c := 12) (j := 57) (p' := 108) h em232_105 ((congrFun xo_12 110).trans rfl) rfl rfl rfl
        replace h := tx_iload_n (p' := 109) h em232_108 rfl rfl
        replace h := tx_iconst (v := 1) (p' := 110) h em232_109 (by decide +kernel) rfl
        replace h := tx_isub (p' := 111) h em232_110 rfl
        replace h := tx_iload (p' := 113) h em232_111 rfl rfl
        replace h := tx_iconst (v := 2) (p' := 114) h em232_113 (by decide +kernel) rfl
        rcases tx_icmp (t := 125) (p' := 117) h em232_114 (by decide) rfl with ⟨c114, h⟩ | ⟨c114, h⟩
        · replace c114 : ¬ (ω.1 101 c.toInt.toNat).toInt = 2 := c114
          replace h := tx_iload (p' := 127) h em232_125 rfl rfl
          replace h := tx_iconst (v := 3) (p' := 128) h em232_127 (by decide +kernel) rfl
          rcases tx_icmp (t := 139) (p' := 131) h em232_128 (by decide) rfl with ⟨c128, h⟩ | ⟨c128, h⟩
          · replace c128 : ¬ (ω.1 101 c.toInt.toNat).toInt = 3 := c128
            replace h := tx_iload (p' := 141) h em232_139 rfl rfl
            replace h := tx_iconst (v := 4) (p' := 142) h em232_141 (by decide +kernel) rfl
            rcases tx_icmp (t := 153) (p' := 145) h em232_142 (by decide) rfl with ⟨c142, h⟩ | ⟨c142, h⟩
            · replace c142 : ¬ (ω.1 101 c.toInt.toNat).toInt = 4 := c142
              replace h := tx_iload (p' := 155) h em232_153 rfl rfl
              replace h := tx_iload (p' := 157) h em232_155 rfl rfl
              obtain ⟨hz157, h⟩ := tx_idiv (p' := 158) h em232_157 rfl
              obtain ⟨hb158, h⟩ := tx_iast (len := 400) (p' := 159) h em232_158 rfl rfl
              replace hb158 : (0 : Int) ≤ (t1 - (1 : Int32)).toInt ∧ (t1 - (1 : Int32)).toInt < 400 := hb158
              replace h := tx_iinc (v := 1) (p' := 162) h em232_159 (by decide +kernel) rfl rfl
              replace h : eT xq_232 _ 162 [some (.inr (.inl (some 75))), some (.inl f), some (.inl y), some (.inl t1), some (.inl (c + 1)), some (.inl (ω.1 101 c.toInt.toNat)), some (.inl (ω.1 106 (t1 - (1 : Int32)).toInt.toNat)), some (.inl (ω.1 106 t1.toInt.toNat))] [] (xpi ω 106 (t1 - (1 : Int32)).toInt.toNat ((ω.1 106 (t1 - (1 : Int32)).toInt.toNat) / (ω.1 106 t1.toInt.toNat))) r μ' := h
              obtain ⟨n2, hn2, h⟩ := tx_gotoS (t := 5) h em232_162 (by decide)
              exfalso
              omega
            · replace c142 : ¬ ¬ (ω.1 101 c.toInt.toNat).toInt = 4 := c142
              replace h := tx_iload (p' := 147) h em232_145 rfl rfl
              replace h := tx_iload (p' := 149) h em232_147 rfl rfl
              replace h := tx_imul (p' := 150) h em232_149 rfl
              replace h := tx_goto (t := 158) h em232_150 (by decide)
              obtain ⟨hb158_1, h⟩ := tx_iast (len := 400) (p' := 159) h em232_158 rfl rfl
              replace hb158_1 : (0 : Int) ≤ (t1 - (1 : Int32)).toInt ∧ (t1 - (1 : Int32)).toInt < 400 := hb158_1
              replace h := tx_iinc (v := 1) (p' := 162) h em232_159 (by decide +kernel) rfl rfl
              replace h : eT xq_232 _ 162 [some (.inr (.inl (some 75))), some (.inl f), some (.inl y), some (.inl t1), some (.inl (c + 1)), some (.inl (ω.1 101 c.toInt.toNat)), some (.inl (ω.1 106 (t1 - (1 : Int32)).toInt.toNat)), some (.inl (ω.1 106 t1.toInt.toNat))] [] (xpi ω 106 (t1 - (1 : Int32)).toInt.toNat ((ω.1 106 (t1 - (1 : Int32)).toInt.toNat) * (ω.1 106 t1.toInt.toNat))) r μ' := h
              obtain ⟨n2, hn2, h⟩ := tx_gotoS (t := 5) h em232_162 (by decide)
              exfalso
              omega
          · replace c128 : ¬ ¬ (ω.1 101 c.toInt.toNat).toInt = 3 := c128
            replace h := tx_iload (p' := 133) h em232_131 rfl rfl
            replace h := tx_iload (p' := 135) h em232_133 rfl rfl
            replace h := tx_isub (p' := 136) h em232_135 rfl
            replace h := tx_goto (t := 158) h em232_136 (by decide)
            obtain ⟨hb158_2, h⟩ := tx_iast (len := 400) (p' := 159) h em232_158 rfl rfl
            replace hb158_2 : (0 : Int) ≤ (t1 - (1 : Int32)).toInt ∧ (t1 - (1 : Int32)).toInt < 400 := hb158_2
            replace h := tx_iinc (v := 1) (p' := 162) h em232_159 (by decide +kernel) rfl rfl
            replace h : eT xq_232 _ 162 [some (.inr (.inl (some 75))), some (.inl f), some (.inl y), some (.inl t1), some (.inl (c + 1)), some (.inl (ω.1 101 c.toInt.toNat)), some (.inl (ω.1 106 (t1 - (1 : Int32)).toInt.toNat)), some (.inl (ω.1 106 t1.toInt.toNat))] [] (xpi ω 106 (t1 - (1 : Int32)).toInt.toNat ((ω.1 106 (t1 - (1 : Int32)).toInt.toNat) - (ω.1 106 t1.toInt.toNat))) r μ' := h
            obtain ⟨n2, hn2, h⟩ := tx_gotoS (t := 5) h em232_162 (by decide)
            exfalso
            omega
        · replace c114 : ¬ ¬ (ω.1 101 c.toInt.toNat).toInt = 2 := c114
          replace h := tx_iload (p' := 119) h em232_117 rfl rfl
          replace h := tx_iload (p' := 121) h em232_119 rfl rfl
          replace h := tx_iadd (p' := 122) h em232_121 rfl
          replace h := tx_goto (t := 158) h em232_122 (by decide)
          obtain ⟨hb158_3, h⟩ := tx_iast (len := 400) (p' := 159) h em232_158 rfl rfl
          replace hb158_3 : (0 : Int) ≤ (t1 - (1 : Int32)).toInt ∧ (t1 - (1 : Int32)).toInt < 400 := hb158_3
          replace h := tx_iinc (v := 1) (p' := 162) h em232_159 (by decide +kernel) rfl rfl
          replace h : eT xq_232 _ 162 [some (.inr (.inl (some 75))), some (.inl f), some (.inl y), some (.inl t1), some (.inl (c + 1)), some (.inl (ω.1 101 c.toInt.toNat)), some (.inl (ω.1 106 (t1 - (1 : Int32)).toInt.toNat)), some (.inl (ω.1 106 t1.toInt.toNat))] [] (xpi ω 106 (t1 - (1 : Int32)).toInt.toNat ((ω.1 106 (t1 - (1 : Int32)).toInt.toNat) + (ω.1 106 t1.toInt.toNat))) r μ' := h
          obtain ⟨n2, hn2, h⟩ := tx_gotoS (t := 5) h em232_162 (by decide)
          exfalso
          omega
      · replace c89 : ¬ ¬ (ω.1 101 c.toInt.toNat).toInt = 5 := c89
        replace h := tx_iload (p' := 94) h em232_92 rfl rfl
        rcases tx_if (t := 104) (p' := 97) h em232_94 (by decide) rfl with ⟨c94, h⟩ | ⟨c94, h⟩
        · replace c94 : ¬ (ω.1 106 t1.toInt.toNat).toInt = 0 := c94
          replace h := tx_aload_n (p' := 105) h em232_104 rfl rfl
          replace h := tx_getc (c := 12) (j := 57) (p' := 108) h em232_105 ((congrFun xo_12 110).trans rfl) rfl rfl rfl
          replace h := tx_iload_n (p' := 109) h em232_108 rfl rfl
          replace h := tx_iconst (v := 1) (p' := 110) h em232_109 (by decide +kernel) rfl
          replace h := tx_isub (p' := 111) h em232_110 rfl
          replace h := tx_iload (p' := 113) h em232_111 rfl rfl
          replace h := tx_iconst (v := 2) (p' := 114) h em232_113 (by decide +kernel) rfl
          rcases tx_icmp (t := 125) (p' := 117) h em232_114 (by decide) rfl with ⟨c114_1, h⟩ | ⟨c114_1, h⟩
          · replace c114_1 : ¬ (ω.1 101 c.toInt.toNat).toInt = 2 := c114_1
            replace h := tx_iload (p' := 127) h em232_125 rfl rfl
            replace h := tx_iconst (v := 3) (p' := 128) h em232_127 (by decide +kernel) rfl
            rcases tx_icmp (t := 139) (p' := 131) h em232_128 (by decide) rfl with ⟨c128_1, h⟩ | ⟨c128_1, h⟩
            · replace c128_1 : ¬ (ω.1 101 c.toInt.toNat).toInt = 3 := c128_1
              replace h := tx_iload (p' := 141) h em232_139 rfl rfl
              replace h := tx_iconst (v := 4) (p' := 142) h em232_141 (by decide +kernel) rfl
              rcases tx_icmp (t := 153) (p' := 145) h em232_142 (by decide) rfl with ⟨c142_1, h⟩ | ⟨c142_1, h⟩
              · replace c142_1 : ¬ (ω.1 101 c.toInt.toNat).toInt = 4 := c142_1
                replace h := tx_iload (p' := 155) h em232_153 rfl rfl
                replace h := tx_iload (p' := 157) h em232_155 rfl rfl
                obtain ⟨hz157_1, h⟩ := tx_idiv (p' := 158) h em232_157 rfl
                obtain ⟨hb158_4, h⟩ := tx_iast (len := 400) (p' := 159) h em232_158 rfl rfl
                replace hb158_4 : (0 : Int) ≤ (t1 - (1 : Int32)).toInt ∧ (t1 - (1 : Int32)).toInt < 400 := hb158_4
                replace h := tx_iinc (v := 1) (p' := 162) h em232_159 (by decide +kernel) rfl rfl
                replace h : eT xq_232 _ 162 [some (.inr (.inl (some 75))), some (.inl f), some (.inl y), some (.inl t1), some (.inl (c + 1)), some (.inl (ω.1 101 c.toInt.toNat)), some (.inl (ω.1 106 (t1 - (1 : Int32)).toInt.toNat)), some (.inl (ω.1 106 t1.toInt.toNat))] [] (xpi ω 106 (t1 - (1 : Int32)).toInt.toNat ((ω.1 106 (t1 - (1 : Int32)).toInt.toNat) / (ω.1 106 t1.toInt.toNat))) r μ' := h
                obtain ⟨n2, hn2, h⟩ := tx_gotoS (t := 5) h em232_162 (by decide)
                exfalso
                omega
              · replace c142_1 : ¬ ¬ (ω.1 101 c.toInt.toNat).toInt = 4 := c142_1
                replace h := tx_iload (p' := 147) h em232_145 rfl rfl
                replace h := tx_iload (p' := 149) h em232_147 rfl rfl
                replace h := tx_imul (p' := 150) h em232_149 rfl
                replace h := tx_goto (t := 158) h em232_150 (by decide)
                obtain ⟨hb158_5, h⟩ := tx_iast (len := 400) (p' := 159) h em232_158 rfl rfl
                replace hb158_5 : (0 : Int) ≤ (t1 - (1 : Int32)).toInt ∧ (t1 - (1 : Int32)).toInt < 400 := hb158_5
                replace h := tx_iinc (v := 1) (p' := 162) h em232_159 (by decide +kernel) rfl rfl
                replace h : eT xq_232 _ 162 [some (.inr (.inl (some 75))), some (.inl f), some (.inl y), some (.inl t1), some (.inl (c + 1)), some (.inl (ω.1 101 c.toInt.toNat)), some (.inl (ω.1 106 (t1 - (1 : Int32)).toInt.toNat)), some (.inl (ω.1 106 t1.toInt.toNat))] [] (xpi ω 106 (t1 - (1 : Int32)).toInt.toNat ((ω.1 106 (t1 - (1 : Int32)).toInt.toNat) * (ω.1 106 t1.toInt.toNat))) r μ' := h
                obtain ⟨n2, hn2, h⟩ := tx_gotoS (t := 5) h em232_162 (by decide)
                exfalso
                omega
            · replace c128_1 : ¬ ¬ (ω.1 101 c.toInt.toNat).toInt = 3 := c128_1
              replace h := tx_iload (p' := 133) h em232_131 rfl rfl
              replace h := tx_iload (p' := 135) h em232_133 rfl rfl
              replace h := tx_isub (p' := 136) h em232_135 rfl
              replace h := tx_goto (t := 158) h em232_136 (by decide)
              obtain ⟨hb158_6, h⟩ := tx_iast (len := 400) (p' := 159) h em232_158 rfl rfl
              replace hb158_6 : (0 : Int) ≤ (t1 - (1 : Int32)).toInt ∧ (t1 - (1 : Int32)).toInt < 400 := hb158_6
              replace h := tx_iinc (v := 1) (p' := 162) h em232_159 (by decide +kernel) rfl rfl
              replace h : eT xq_232 _ 162 [some (.inr (.inl (some 75))), some (.inl f), some (.inl y), some (.inl t1), some (.inl (c + 1)), some (.inl (ω.1 101 c.toInt.toNat)), some (.inl (ω.1 106 (t1 - (1 : Int32)).toInt.toNat)), some (.inl (ω.1 106 t1.toInt.toNat))] [] (xpi ω 106 (t1 - (1 : Int32)).toInt.toNat ((ω.1 106 (t1 - (1 : Int32)).toInt.toNat) - (ω.1 106 t1.toInt.toNat))) r μ' := h
              obtain ⟨n2, hn2, h⟩ := tx_gotoS (t := 5) h em232_162 (by decide)
              exfalso
              omega
          · replace c114_1 : ¬ ¬ (ω.1 101 c.toInt.toNat).toInt = 2 := c114_1
            replace h := tx_iload (p' := 119) h em232_117 rfl rfl
            replace h := tx_iload (p' := 121) h em232_119 rfl rfl
            replace h := tx_iadd (p' := 122) h em232_121 rfl
            replace h := tx_goto (t := 158) h em232_122 (by decide)
            obtain ⟨hb158_7, h⟩ := tx_iast (len := 400) (p' := 159) h em232_158 rfl rfl
            replace hb158_7 : (0 : Int) ≤ (t1 - (1 : Int32)).toInt ∧ (t1 - (1 : Int32)).toInt < 400 := hb158_7
            replace h := tx_iinc (v := 1) (p' := 162) h em232_159 (by decide +kernel) rfl rfl
            replace h : eT xq_232 _ 162 [some (.inr (.inl (some 75))), some (.inl f), some (.inl y), some (.inl t1), some (.inl (c + 1)), some (.inl (ω.1 101 c.toInt.toNat)), some (.inl (ω.1 106 (t1 - (1 : Int32)).toInt.toNat)), some (.inl (ω.1 106 t1.toInt.toNat))] [] (xpi ω 106 (t1 - (1 : Int32)).toInt.toNat ((ω.1 106 (t1 - (1 : Int32)).toInt.toNat) + (ω.1 106 t1.toInt.toNat))) r μ' := h
            obtain ⟨n2, hn2, h⟩ := tx_gotoS (t := 5) h em232_162 (by decide)
            exfalso
            omega
        · replace c94 : ¬ ¬ (ω.1 106 t1.toInt.toNat).toInt = 0 := c94
          replace h := tx_aload_n (p' := 98) h em232_97 rfl rfl
          replace h := tx_iconst (v := 1) (p' := 99) h em232_98 (by decide +kernel) rfl
          replace h := tx_putf (a := 75) (c := 12) (j := 58) (p' := 102) h em232_99 ((congrFun xo_12 320).trans rfl) rfl
          replace h := tx_iconst (v := 0) (p' := 103) h em232_102 (by decide +kernel) rfl
          obtain ⟨rfl, hμ⟩ := tx_ireturn h em232_103
          exfalso
          omega
    · replace c23 : ¬ 2 ≤ (ω.1 101 c.toInt.toNat).toInt := c23
      replace h := tx_aload_n (p' := 27) h em232_26 rfl rfl
      replace h := tx_getc (c := 12) (j := 57) (p' := 30) h em232_27 ((congrFun xo_12 110).trans rfl) rfl rfl rfl
      replace h := tx_iload_n (p' := 31) h em232_30 rfl rfl
      replace h := tx_iload (p' := 33) h em232_31 rfl rfl
      rcases tx_if (t := 46) (p' := 36) h em232_33 (by decide) rfl with ⟨c33, h⟩ | ⟨c33, h⟩
      · replace c33 : ¬ (ω.1 101 c.toInt.toNat).toInt = 0 := c33
        replace h := tx_aload_n (p' := 47) h em232_46 rfl rfl
        replace h := tx_getc (c := 12) (j := 56) (p' := 50) h em232_47 ((congrFun xo_12 107).trans rfl) rfl rfl rfl
        replace h := tx_aload_n (p' := 51) h em232_50 rfl rfl
        replace h := tx_getc (c := 12) (j := 51) (p' := 54) h em232_51 ((congrFun xo_12 98).trans rfl) rfl rfl rfl
        replace h := tx_iload (p' := 56) h em232_54 rfl rfl
        obtain ⟨hb56, h⟩ := tx_iald (len := 840) (p' := 57) h em232_56 rfl rfl
        replace hb56 : (0 : Int) ≤ c.toInt ∧ c.toInt < 840 := hb56
        obtain ⟨hb57, h⟩ := tx_iald (len := 9) (p' := 58) h em232_57 rfl rfl
        replace hb57 : (0 : Int) ≤ (ω.1 102 c.toInt.toNat).toInt ∧ (ω.1 102 c.toInt.toNat).toInt < 9 := hb57
        obtain ⟨hb58, h⟩ := tx_iast (len := 400) (p' := 59) h em232_58 rfl rfl
        replace hb58 : (0 : Int) ≤ t.toInt ∧ t.toInt < 400 := hb58
        replace h := tx_iinc (v := 1) (p' := 62) h em232_59 (by decide +kernel) rfl rfl
        replace h : eT xq_232 _ 62 [some (.inr (.inl (some 75))), some (.inl f), some (.inl y), some (.inl (t + 1)), some (.inl c), some (.inl (ω.1 101 c.toInt.toNat)), o6, o7] [] (xpi ω 106 t.toInt.toNat (ω.1 105 (ω.1 102 c.toInt.toNat).toInt.toNat)) r μ' := h
        replace h := tx_goto (t := 159) h em232_62 (by decide)
        replace h := tx_iinc (v := 1) (p' := 162) h em232_159 (by decide +kernel) rfl rfl
        replace h : eT xq_232 _ 162 [some (.inr (.inl (some 75))), some (.inl f), some (.inl y), some (.inl (t + 1)), some (.inl (c + 1)), some (.inl (ω.1 101 c.toInt.toNat)), o6, o7] [] (xpi ω 106 t.toInt.toNat (ω.1 105 (ω.1 102 c.toInt.toNat).toInt.toNat)) r μ' := h
        obtain ⟨n2, hn2, h⟩ := tx_gotoS (t := 5) h em232_162 (by decide)
        exact ⟨by omega, _, _, _, _, h⟩
      · replace c33 : ¬ ¬ (ω.1 101 c.toInt.toNat).toInt = 0 := c33
        replace h := tx_aload_n (p' := 37) h em232_36 rfl rfl
        replace h := tx_getc (c := 12) (j := 51) (p' := 40) h em232_37 ((congrFun xo_12 98).trans rfl) rfl rfl rfl
        replace h := tx_iload (p' := 42) h em232_40 rfl rfl
        obtain ⟨hb42, h⟩ := tx_iald (len := 840) (p' := 43) h em232_42 rfl rfl
        replace hb42 : (0 : Int) ≤ c.toInt ∧ c.toInt < 840 := hb42
        replace h := tx_goto (t := 58) h em232_43 (by decide)
        obtain ⟨hb58_1, h⟩ := tx_iast (len := 400) (p' := 59) h em232_58 rfl rfl
        replace hb58_1 : (0 : Int) ≤ t.toInt ∧ t.toInt < 400 := hb58_1
        replace h := tx_iinc (v := 1) (p' := 62) h em232_59 (by decide +kernel) rfl rfl
        replace h : eT xq_232 _ 62 [some (.inr (.inl (some 75))), some (.inl f), some (.inl y), some (.inl (t + 1)), some (.inl c), some (.inl (ω.1 101 c.toInt.toNat)), o6, o7] [] (xpi ω 106 t.toInt.toNat (ω.1 102 c.toInt.toNat)) r μ' := h
        replace h := tx_goto (t := 159) h em232_62 (by decide)
        replace h := tx_iinc (v := 1) (p' := 162) h em232_159 (by decide +kernel) rfl rfl
        replace h : eT xq_232 _ 162 [some (.inr (.inl (some 75))), some (.inl f), some (.inl y), some (.inl (t + 1)), some (.inl (c + 1)), some (.inl (ω.1 101 c.toInt.toNat)), o6, o7] [] (xpi ω 106 t.toInt.toNat (ω.1 102 c.toInt.toNat)) r μ' := h
        obtain ⟨n2, hn2, h⟩ := tx_gotoS (t := 5) h em232_162 (by decide)
        exfalso
        omega
set_option maxRecDepth 10000 in
set_option maxHeartbeats 4000000 in
theorem tr_few {n : Nat} {f y t c : Int32} {o5 o6 o7 : Option zV} {ω μ' : xM} {r : Option zV} (h : eT xq_232 n 5 [some (.inr (.inl (some 75))), some (.inl f), some (.inl y), some (.inl t), some (.inl c), o5, o6, o7] [] ω r μ') (hc : c.toInt < y.toInt) (ht0 : 0 ≤ t.toInt) (ht4 : t.toInt ≤ 1000) (ho : 2 ≤ (ω.1 101 c.toInt.toNat).toInt) (hf : t.toInt < 2) : False := by
  have e1i : (1 : Int32).toInt = 1 := by decide
  replace h := tx_iload (p' := 7) h em232_5 rfl rfl
  replace h := tx_iload_n (p' := 8) h em232_7 rfl rfl
  rcases tx_icmp (t := 165) (p' := 11) h em232_8 (by decide) rfl with ⟨c8, h⟩ | ⟨c8, h⟩
  · replace c8 : y.toInt ≤ c.toInt := c8
    replace h := tx_aload_n (p' := 166) h em232_165 rfl rfl
    replace h := tx_getc (c := 12) (j := 57) (p' := 169) h em232_166 ((congrFun xo_12 110).trans rfl) rfl rfl rfl
    replace h := tx_iconst (v := 0) (p' := 170) h em232_169 (by decide +kernel) rfl
    obtain ⟨hb170, h⟩ := tx_iald (len := 400) (p' := 171) h em232_170 rfl rfl
    replace hb170 : (0 : Int) ≤ 0 ∧ (0 : Int) < 400 := hb170
    replace h : eT xq_232 _ 171 [some (.inr (.inl (some 75))), some (.inl f), some (.inl y), some (.inl t), some (.inl c), o5, o6, o7] [.inl (ω.1 106 0)] ω r μ' := h
    obtain ⟨rfl, hμ⟩ := tx_ireturn h em232_171
    omega
  · replace c8 : ¬ y.toInt ≤ c.toInt := c8
    replace h := tx_aload_n (p' := 12) h em232_11 rfl rfl
    replace h := tx_getc (c := 12) (j := 50) (p' := 15) h em232_12 ((congrFun xo_12 95).trans rfl) rfl rfl rfl
    replace h := tx_iload (p' := 17) h em232_15 rfl rfl
    obtain ⟨hb17, h⟩ := tx_iald (len := 840) (p' := 18) h em232_17 rfl rfl
    replace hb17 : (0 : Int) ≤ c.toInt ∧ c.toInt < 840 := hb17
    replace h := tx_istore (p' := 20) h em232_18 rfl
    replace h : eT xq_232 _ 20 [some (.inr (.inl (some 75))), some (.inl f), some (.inl y), some (.inl t), some (.inl c), some (.inl (ω.1 101 c.toInt.toNat)), o6, o7] [] ω r μ' := h
    replace h := tx_iload (p' := 22) h em232_20 rfl rfl
    replace h := tx_iconst (v := 2) (p' := 23) h em232_22 (by decide +kernel) rfl
    rcases tx_icmp (t := 65) (p' := 26) h em232_23 (by decide) rfl with ⟨c23, h⟩ | ⟨c23, h⟩
    · replace c23 : 2 ≤ (ω.1 101 c.toInt.toNat).toInt := c23
      replace h := tx_iinc (v := (-1)) (p' := 68) h em232_65 (by decide +kernel) rfl rfl
      replace h : eT xq_232 _ 68 [some (.inr (.inl (some 75))), some (.inl f), some (.inl y), some (.inl (t + (-1))), some (.inl c), some (.inl (ω.1 101 c.toInt.toNat)), o6, o7] [] ω r μ' := h
      have et1 : (t + -1).toInt = t.toInt - 1 := ka1 (by omega)
      obtain ⟨t1, ht1⟩ : ∃ z, z = t + -1 := ⟨_, rfl⟩
      rw [← ht1] at et1 h
      clear ht1
      have et2 : (t1 - (1 : Int32)).toInt = t.toInt - 2 := by rw [an_sub (by rw [e1i]; omega) (by rw [e1i]; omega), e1i]; omega
      replace h := tx_aload_n (p' := 69) h em232_68 rfl rfl
      replace h := tx_getc (c := 12) (j := 57) (p' := 72) h em232_69 ((congrFun xo_12 110).trans rfl) rfl rfl rfl
      replace h := tx_iload_n (p' := 73) h em232_72 rfl rfl
      replace h := tx_iconst (v := 1) (p' := 74) h em232_73 (by decide +kernel) rfl
      replace h := tx_isub (p' := 75) h em232_74 rfl
      obtain ⟨hb75, h⟩ := tx_iald (len := 400) (p' := 76) h em232_75 rfl rfl
      replace hb75 : (0 : Int) ≤ (t1 - (1 : Int32)).toInt ∧ (t1 - (1 : Int32)).toInt < 400 := hb75
      replace h := tx_istore (p' := 78) h em232_76 rfl
      replace h : eT xq_232 _ 78 [some (.inr (.inl (some 75))), some (.inl f), some (.inl y), some (.inl t1), some (.inl c), some (.inl (ω.1 101 c.toInt.toNat)), some (.inl (ω.1 106 (t1 - (1 : Int32)).toInt.toNat)), o7] [] ω r μ' := h
      replace h := tx_aload_n (p' := 79) h em232_78 rfl rfl
      replace h := tx_getc (c := 12) (j := 57) (p' := 82) h em232_79 ((congrFun xo_12 110).trans rfl) rfl rfl rfl
      replace h := tx_iload_n (p' := 83) h em232_82 rfl rfl
      obtain ⟨hb83, h⟩ := tx_iald (len := 400) (p' := 84) h em232_83 rfl rfl
      replace hb83 : (0 : Int) ≤ t1.toInt ∧ t1.toInt < 400 := hb83
      replace h := tx_istore (p' := 86) h em232_84 rfl
      replace h : eT xq_232 _ 86 [some (.inr (.inl (some 75))), some (.inl f), some (.inl y), some (.inl t1), some (.inl c), some (.inl (ω.1 101 c.toInt.toNat)), some (.inl (ω.1 106 (t1 - (1 : Int32)).toInt.toNat)), some (.inl (ω.1 106 t1.toInt.toNat))] [] ω r μ' := h
      replace h := tx_iload (p' := 88) h em232_86 rfl rfl
      replace h := tx_iconst (v := 5) (p' := 89) h em232_88 (by decide +kernel) rfl
      rcases tx_icmp (t := 104) (p' := 92) h em232_89 (by decide) rfl with ⟨c89, h⟩ | ⟨c89, h⟩
      · replace c89 : ¬ (ω.1 101 c.toInt.toNat).toInt = 5 := c89
        replace h := tx_aload_n (p' := 105) h em232_104 rfl rfl
        replace h := tx_getc (c := 12) (j := 57) (p' := 108) h em232_105 ((congrFun xo_12 110).trans rfl) rfl rfl rfl
        replace h := tx_iload_n (p' := 109) h em232_108 rfl rfl
        replace h := tx_iconst (v := 1) (p' := 110) h em232_109 (by decide +kernel) rfl
        replace h := tx_isub (p' := 111) h em232_110 rfl
        replace h := tx_iload (p' := 113) h em232_111 rfl rfl
        replace h := tx_iconst (v := 2) (p' := 114) h em232_113 (by decide +kernel) rfl
        rcases tx_icmp (t := 125) (p' := 117) h em232_114 (by decide) rfl with ⟨c114, h⟩ | ⟨c114, h⟩
        · replace c114 : ¬ (ω.1 101 c.toInt.toNat).toInt = 2 := c114
          replace h := tx_iload (p' := 127) h em232_125 rfl rfl
          replace h := tx_iconst (v := 3) (p' := 128) h em232_127 (by decide +kernel) rfl
          rcases tx_icmp (t := 139) (p' := 131) h em232_128 (by decide) rfl with ⟨c128, h⟩ | ⟨c128, h⟩
          · replace c128 : ¬ (ω.1 101 c.toInt.toNat).toInt = 3 := c128
            replace h := tx_iload (p' := 141) h em232_139 rfl rfl
            replace h := tx_iconst (v := 4) (p' := 142) h em232_141 (by decide +kernel) rfl
            rcases tx_icmp (t := 153) (p' := 145) h em232_142 (by decide) rfl with ⟨c142, h⟩ | ⟨c142, h⟩
            · replace c142 : ¬ (ω.1 101 c.toInt.toNat).toInt = 4 := c142
              replace h := tx_iload (p' := 155) h em232_153 rfl rfl
              replace h := tx_iload (p' := 157) h em232_155 rfl rfl
              obtain ⟨hz157, h⟩ := tx_idiv (p' := 158) h em232_157 rfl
              obtain ⟨hb158, h⟩ := tx_iast (len := 400) (p' := 159) h em232_158 rfl rfl
              replace hb158 : (0 : Int) ≤ (t1 - (1 : Int32)).toInt ∧ (t1 - (1 : Int32)).toInt < 400 := hb158
              replace h := tx_iinc (v := 1) (p' := 162) h em232_159 (by decide +kernel) rfl rfl
              replace h : eT xq_232 _ 162 [some (.inr (.inl (some 75))), some (.inl f), some (.inl y), some (.inl t1), some (.inl (c + 1)), some (.inl (ω.1 101 c.toInt.toNat)), some (.inl (ω.1 106 (t1 - (1 : Int32)).toInt.toNat)), some (.inl (ω.1 106 t1.toInt.toNat))] [] (xpi ω 106 (t1 - (1 : Int32)).toInt.toNat ((ω.1 106 (t1 - (1 : Int32)).toInt.toNat) / (ω.1 106 t1.toInt.toNat))) r μ' := h
              obtain ⟨n2, hn2, h⟩ := tx_gotoS (t := 5) h em232_162 (by decide)
              omega
            · replace c142 : ¬ ¬ (ω.1 101 c.toInt.toNat).toInt = 4 := c142
              replace h := tx_iload (p' := 147) h em232_145 rfl rfl
              replace h := tx_iload (p' := 149) h em232_147 rfl rfl
              replace h := tx_imul (p' := 150) h em232_149 rfl
              replace h := tx_goto (t := 158) h em232_150 (by decide)
              obtain ⟨hb158_1, h⟩ := tx_iast (len := 400) (p' := 159) h em232_158 rfl rfl
              replace hb158_1 : (0 : Int) ≤ (t1 - (1 : Int32)).toInt ∧ (t1 - (1 : Int32)).toInt < 400 := hb158_1
              replace h := tx_iinc (v := 1) (p' := 162) h em232_159 (by decide +kernel) rfl rfl
              replace h : eT xq_232 _ 162 [some (.inr (.inl (some 75))), some (.inl f), some (.inl y), some (.inl t1), some (.inl (c + 1)), some (.inl (ω.1 101 c.toInt.toNat)), some (.inl (ω.1 106 (t1 - (1 : Int32)).toInt.toNat)), some (.inl (ω.1 106 t1.toInt.toNat))] [] (xpi ω 106 (t1 - (1 : Int32)).toInt.toNat ((ω.1 106 (t1 - (1 : Int32)).toInt.toNat) * (ω.1 106 t1.toInt.toNat))) r μ' := h
              obtain ⟨n2, hn2, h⟩ := tx_gotoS (t := 5) h em232_162 (by decide)
              omega
          · replace c128 : ¬ ¬ (ω.1 101 c.toInt.toNat).toInt = 3 := c128
            replace h := tx_iload (p' := 133) h em232_131 rfl rfl
            replace h := tx_iload (p' := 135) h em232_133 rfl rfl
            replace h := tx_isub (p' := 136) h em232_135 rfl
            replace h := tx_goto (t := 158) h em232_136 (by decide)
            obtain ⟨hb158_2, h⟩ := tx_iast (len := 400) (p' := 159) h em232_158 rfl rfl
            replace hb158_2 : (0 : Int) ≤ (t1 - (1 : Int32)).toInt ∧ (t1 - (1 : Int32)).toInt < 400 := hb158_2
            replace h := tx_iinc (v := 1) (p' := 162) h em232_159 (by decide +kernel) rfl rfl
            replace h : eT xq_232 _ 162 [some (.inr (.inl (some 75))), some (.inl f), some (.inl y), some (.inl t1), some (.inl (c + 1)), some (.inl (ω.1 101 c.toInt.toNat)), some (.inl (ω.1 106 (t1 - (1 : Int32)).toInt.toNat)), some (.inl (ω.1 106 t1.toInt.toNat))] [] (xpi ω 106 (t1 - (1 : Int32)).toInt.toNat ((ω.1 106 (t1 - (1 : Int32)).toInt.toNat) - (ω.1 106 t1.toInt.toNat))) r μ' := h
            obtain ⟨n2, hn2, h⟩ := tx_gotoS (t := 5) h em232_162 (by decide)
            omega
        · replace c114 : ¬ ¬ (ω.1 101 c.toInt.toNat).toInt = 2 := c114
          replace h := tx_iload (p' := 119) h em232_117 rfl rfl
          replace h := tx_iload (p' := 121) h em232_119 rfl rfl
          replace h := tx_iadd (p' := 122) h em232_121 rfl
          replace h := tx_goto (t := 158) h em232_122 (by decide)
          obtain ⟨hb158_3, h⟩ := tx_iast (len := 400) (p' := 159) h em232_158 rfl rfl
          replace hb158_3 : (0 : Int) ≤ (t1 - (1 : Int32)).toInt ∧ (t1 - (1 : Int32)).toInt < 400 := hb158_3
          replace h := tx_iinc (v := 1) (p' := 162) h em232_159 (by decide +kernel) rfl rfl
          replace h : eT xq_232 _ 162 [some (.inr (.inl (some 75))), some (.inl f), some (.inl y), some (.inl t1), some (.inl (c + 1)), some (.inl (ω.1 101 c.toInt.toNat)), some (.inl (ω.1 106 (t1 - (1 : Int32)).toInt.toNat)), some (.inl (ω.1 106 t1.toInt.toNat))] [] (xpi ω 106 (t1 - (1 : Int32)).toInt.toNat ((ω.1 106 (t1 - (1 : Int32)).toInt.toNat) + (ω.1 106 t1.toInt.toNat))) r μ' := h
          obtain ⟨n2, hn2, h⟩ := tx_gotoS (t := 5) h em232_162 (by decide)
          omega
      · replace c89 : ¬ ¬ (ω.1 101 c.toInt.toNat).toInt = 5 := c89
        replace h := tx_iload (p' := 94) h em232_92 rfl rfl
        rcases tx_if (t := 104) (p' := 97) h em232_94 (by decide) rfl with ⟨c94, h⟩ | ⟨c94, h⟩
        · replace c94 : ¬ (ω.1 106 t1.toInt.toNat).toInt = 0 := c94
          replace h := tx_aload_n (p' := 105) h em232_104 rfl rfl
          replace h := tx_getc (c := 12) (j := 57) (p' := 108) h em232_105 ((congrFun xo_12 110).trans rfl) rfl rfl rfl
          replace h := tx_iload_n (p' := 109) h em232_108 rfl rfl
          replace h := tx_iconst (v := 1) (p' := 110) h em232_109 (by decide +kernel) rfl
          replace h := tx_isub (p' := 111) h em232_110 rfl
          replace h := tx_iload (p' := 113) h em232_111 rfl rfl
          replace h := tx_iconst (v := 2) (p' := 114) h em232_113 (by decide +kernel) rfl
          rcases tx_icmp (t := 125) (p' := 117) h em232_114 (by decide) rfl with ⟨c114_1, h⟩ | ⟨c114_1, h⟩
          · replace c114_1 : ¬ (ω.1 101 c.toInt.toNat).toInt = 2 := c114_1
            replace h := tx_iload (p' := 127) h em232_125 rfl rfl
            replace h := tx_iconst (v := 3) (p' := 128) h em232_127 (by decide +kernel) rfl
            rcases tx_icmp (t := 139) (p' := 131) h em232_128 (by decide) rfl with ⟨c128_1, h⟩ | ⟨c128_1, h⟩
            · replace c128_1 : ¬ (ω.1 101 c.toInt.toNat).toInt = 3 := c128_1
              replace h := tx_iload (p' := 141) h em232_139 rfl rfl
              replace h := tx_iconst (v := 4) (p' := 142) h em232_141 (by decide +kernel) rfl
              rcases tx_icmp (t := 153) (p' := 145) h em232_142 (by decide) rfl with ⟨c142_1, h⟩ | ⟨c142_1, h⟩
              · replace c142_1 : ¬ (ω.1 101 c.toInt.toNat).toInt = 4 := c142_1
                replace h := tx_iload (p' := 155) h em232_153 rfl rfl
                replace h := tx_iload (p' := 157) h em232_155 rfl rfl
                obtain ⟨hz157_1, h⟩ := tx_idiv (p' := 158) h em232_157 rfl
                obtain ⟨hb158_4, h⟩ := tx_iast (len := 400) (p' := 159) h em232_158 rfl rfl
                replace hb158_4 : (0 : Int) ≤ (t1 - (1 : Int32)).toInt ∧ (t1 - (1 : Int32)).toInt < 400 := hb158_4
                replace h := tx_iinc (v := 1) (p' := 162) h em232_159 (by decide +kernel) rfl rfl
                replace h : eT xq_232 _ 162 [some (.inr (.inl (some 75))), some (.inl f), some (.inl y), some (.inl t1), some (.inl (c + 1)), some (.inl (ω.1 101 c.toInt.toNat)), some (.inl (ω.1 106 (t1 - (1 : Int32)).toInt.toNat)), some (.inl (ω.1 106 t1.toInt.toNat))] [] (xpi ω 106 (t1 - (1 : Int32)).toInt.toNat ((ω.1 106 (t1 - (1 : Int32)).toInt.toNat) / (ω.1 106 t1.toInt.toNat))) r μ' := h
                obtain ⟨n2, hn2, h⟩ := tx_gotoS (t := 5) h em232_162 (by decide)
                omega
              · replace c142_1 : ¬ ¬ (ω.1 101 c.toInt.toNat).toInt = 4 := c142_1
                replace h := tx_iload (p' := 147) h em232_145 rfl rfl
                replace h := tx_iload (p' := 149) h em232_147 rfl rfl
                replace h := tx_imul (p' := 150) h em232_149 rfl
                replace h := tx_goto (t := 158) h em232_150 (by decide)
                obtain ⟨hb158_5, h⟩ := tx_iast (len := 400) (p' := 159) h em232_158 rfl rfl
                replace hb158_5 : (0 : Int) ≤ (t1 - (1 : Int32)).toInt ∧ (t1 - (1 : Int32)).toInt < 400 := hb158_5
                replace h := tx_iinc (v := 1) (p' := 162) h em232_159 (by decide +kernel) rfl rfl
                replace h : eT xq_232 _ 162 [some (.inr (.inl (some 75))), some (.inl f), some (.inl y), some (.inl t1), some (.inl (c + 1)), some (.inl (ω.1 101 c.toInt.toNat)), some (.inl (ω.1 106 (t1 - (1 : Int32)).toInt.toNat)), some (.inl (ω.1 106 t1.toInt.toNat))] [] (xpi ω 106 (t1 - (1 : Int32)).toInt.toNat ((ω.1 106 (t1 - (1 : Int32)).toInt.toNat) * (ω.1 106 t1.toInt.toNat))) r μ' := h
                obtain ⟨n2, hn2, h⟩ := tx_gotoS (t := 5) h em232_162 (by decide)
                omega
            · replace c128_1 : ¬ ¬ (ω.1 101 c.toInt.toNat).toInt = 3 := c128_1
              replace h := tx_iload (p' := 133) h em232_131 rfl rfl
              replace h := tx_iload (p' := 135) h em232_133 rfl rfl
              replace h := tx_isub (p' := 136) h em232_135 rfl
              replace h := tx_goto (t := 158) h em232_136 (by decide)
              obtain ⟨hb158_6, h⟩ := tx_iast (len := 400) (p' := 159) h em232_158 rfl rfl
              replace hb158_6 : (0 : Int) ≤ (t1 - (1 : Int32)).toInt ∧ (t1 - (1 : Int32)).toInt < 400 := hb158_6
              replace h := tx_iinc (v := 1) (p' := 162) h em232_159 (by decide +kernel) rfl rfl
              replace h : eT xq_232 _ 162 [some (.inr (.inl (some 75))), some (.inl f), some (.inl y), some (.inl t1), some (.inl (c + 1)), some (.inl (ω.1 101 c.toInt.toNat)), some (.inl (ω.1 106 (t1 - (1 : Int32)).toInt.toNat)), some (.inl (ω.1 106 t1.toInt.toNat))] [] (xpi ω 106 (t1 - (1 : Int32)).toInt.toNat ((ω.1 106 (t1 - (1 : Int32)).toInt.toNat) - (ω.1 106 t1.toInt.toNat))) r μ' := h
              obtain ⟨n2, hn2, h⟩ := tx_gotoS (t := 5) h em232_162 (by decide)
              omega
          · replace c114_1 : ¬ ¬ (ω.1 101 c.toInt.toNat).toInt = 2 := c114_1
            replace h := tx_iload (p' := 119) h em232_117 rfl rfl
            replace h := tx_iload (p' := 121) h em232_119 rfl rfl
            replace h := tx_iadd (p' := 122) h em232_121 rfl
            replace h := tx_goto (t := 158) h em232_122 (by decide)
            obtain ⟨hb158_7, h⟩ := tx_iast (len := 400) (p' := 159) h em232_158 rfl rfl
            replace hb158_7 : (0 : Int) ≤ (t1 - (1 : Int32)).toInt ∧ (t1 - (1 : Int32)).toInt < 400 := hb158_7
            replace h := tx_iinc (v := 1) (p' := 162) h em232_159 (by decide +kernel) rfl rfl
            replace h : eT xq_232 _ 162 [some (.inr (.inl (some 75))), some (.inl f), some (.inl y), some (.inl t1), some (.inl (c + 1)), some (.inl (ω.1 101 c.toInt.toNat)), some (.inl (ω.1 106 (t1 - (1 : Int32)).toInt.toNat)), some (.inl (ω.1 106 t1.toInt.toNat))] [] (xpi ω 106 (t1 - (1 : Int32)).toInt.toNat ((ω.1 106 (t1 - (1 : Int32)).toInt.toNat) + (ω.1 106 t1.toInt.toNat))) r μ' := h
            obtain ⟨n2, hn2, h⟩ := tx_gotoS (t := 5) h em232_162 (by decide)
            omega
        · replace c94 : ¬ ¬ (ω.1 106 t1.toInt.toNat).toInt = 0 := c94
          replace h := tx_aload_n (p' := 98) h em232_97 rfl rfl
          replace h := tx_iconst (v := 1) (p' := 99) h em232_98 (by decide +kernel) rfl
          replace h := tx_putf (a := 75) (c := 12) (j := 58) (p' := 102) h em232_99 ((congrFun xo_12 320).trans rfl) rfl
          replace h := tx_iconst (v := 0) (p' := 103) h em232_102 (by decide +kernel) rfl
          obtain ⟨rfl, hμ⟩ := tx_ireturn h em232_103
          omega
    · replace c23 : ¬ 2 ≤ (ω.1 101 c.toInt.toNat).toInt := c23
      replace h := tx_aload_n (p' := 27) h em232_26 rfl rfl
      replace h := tx_getc (c := 12) (j := 57) (p' := 30) h em232_27 ((congrFun xo_12 110).trans rfl) rfl rfl rfl
      replace h := tx_iload_n (p' := 31) h em232_30 rfl rfl
      replace h := tx_iload (p' := 33) h em232_31 rfl rfl
      rcases tx_if (t := 46) (p' := 36) h em232_33 (by decide) rfl with ⟨c33, h⟩ | ⟨c33, h⟩
      · replace c33 : ¬ (ω.1 101 c.toInt.toNat).toInt = 0 := c33
        replace h := tx_aload_n (p' := 47) h em232_46 rfl rfl
        replace h := tx_getc (c := 12) (j := 56) (p' := 50) h em232_47 ((congrFun xo_12 107).trans rfl) rfl rfl rfl
        replace h := tx_aload_n (p' := 51) h em232_50 rfl rfl
        replace h := tx_getc (c := 12) (j := 51) (p' := 54) h em232_51 ((congrFun xo_12 98).trans rfl) rfl rfl rfl
        replace h := tx_iload (p' := 56) h em232_54 rfl rfl
        obtain ⟨hb56, h⟩ := tx_iald (len := 840) (p' := 57) h em232_56 rfl rfl
        replace hb56 : (0 : Int) ≤ c.toInt ∧ c.toInt < 840 := hb56
        obtain ⟨hb57, h⟩ := tx_iald (len := 9) (p' := 58) h em232_57 rfl rfl
        replace hb57 : (0 : Int) ≤ (ω.1 102 c.toInt.toNat).toInt ∧ (ω.1 102 c.toInt.toNat).toInt < 9 := hb57
        obtain ⟨hb58, h⟩ := tx_iast (len := 400) (p' := 59) h em232_58 rfl rfl
        replace hb58 : (0 : Int) ≤ t.toInt ∧ t.toInt < 400 := hb58
        replace h := tx_iinc (v := 1) (p' := 62) h em232_59 (by decide +kernel) rfl rfl
        replace h : eT xq_232 _ 62 [some (.inr (.inl (some 75))), some (.inl f), some (.inl y), some (.inl (t + 1)), some (.inl c), some (.inl (ω.1 101 c.toInt.toNat)), o6, o7] [] (xpi ω 106 t.toInt.toNat (ω.1 105 (ω.1 102 c.toInt.toNat).toInt.toNat)) r μ' := h
        replace h := tx_goto (t := 159) h em232_62 (by decide)
        replace h := tx_iinc (v := 1) (p' := 162) h em232_159 (by decide +kernel) rfl rfl
        replace h : eT xq_232 _ 162 [some (.inr (.inl (some 75))), some (.inl f), some (.inl y), some (.inl (t + 1)), some (.inl (c + 1)), some (.inl (ω.1 101 c.toInt.toNat)), o6, o7] [] (xpi ω 106 t.toInt.toNat (ω.1 105 (ω.1 102 c.toInt.toNat).toInt.toNat)) r μ' := h
        obtain ⟨n2, hn2, h⟩ := tx_gotoS (t := 5) h em232_162 (by decide)
        omega
      · replace c33 : ¬ ¬ (ω.1 101 c.toInt.toNat).toInt = 0 := c33
        replace h := tx_aload_n (p' := 37) h em232_36 rfl rfl
        replace h := tx_getc (c := 12) (j := 51) (p' := 40) h em232_37 ((congrFun xo_12 98).trans rfl) rfl rfl rfl
        replace h := tx_iload (p' := 42) h em232_40 rfl rfl
        obtain ⟨hb42, h⟩ := tx_iald (len := 840) (p' := 43) h em232_42 rfl rfl
        replace hb42 : (0 : Int) ≤ c.toInt ∧ c.toInt < 840 := hb42
        replace h := tx_goto (t := 58) h em232_43 (by decide)
        obtain ⟨hb58_1, h⟩ := tx_iast (len := 400) (p' := 59) h em232_58 rfl rfl
        replace hb58_1 : (0 : Int) ≤ t.toInt ∧ t.toInt < 400 := hb58_1
        replace h := tx_iinc (v := 1) (p' := 62) h em232_59 (by decide +kernel) rfl rfl
        replace h : eT xq_232 _ 62 [some (.inr (.inl (some 75))), some (.inl f), some (.inl y), some (.inl (t + 1)), some (.inl c), some (.inl (ω.1 101 c.toInt.toNat)), o6, o7] [] (xpi ω 106 t.toInt.toNat (ω.1 102 c.toInt.toNat)) r μ' := h
        replace h := tx_goto (t := 159) h em232_62 (by decide)
        replace h := tx_iinc (v := 1) (p' := 162) h em232_159 (by decide +kernel) rfl rfl
        replace h : eT xq_232 _ 162 [some (.inr (.inl (some 75))), some (.inl f), some (.inl y), some (.inl (t + 1)), some (.inl (c + 1)), some (.inl (ω.1 101 c.toInt.toNat)), o6, o7] [] (xpi ω 106 t.toInt.toNat (ω.1 102 c.toInt.toNat)) r μ' := h
        obtain ⟨n2, hn2, h⟩ := tx_gotoS (t := 5) h em232_162 (by decide)
        omega
set_option maxRecDepth 10000 in
set_option maxHeartbeats 4000000 in
theorem tr_div0 {n : Nat} {f y t c : Int32} {o5 o6 o7 : Option zV} {ω μ' : xM} {r : Option zV} (h : eT xq_232 n 5 [some (.inr (.inl (some 75))), some (.inl f), some (.inl y), some (.inl t), some (.inl c), o5, o6, o7] [] ω r μ') (hc : c.toInt < y.toInt) (ht0 : 0 ≤ t.toInt) (ht4 : t.toInt ≤ 1000) (ho : (ω.1 101 c.toInt.toNat).toInt = 5) (hf : 2 ≤ t.toInt) (hz : (ω.1 106 (t.toInt - 1).toNat) = 0) : r = some (.inl 0) ∧ μ' = xpi ω 75 58 (1 : Int32) := by
  have e1i : (1 : Int32).toInt = 1 := by decide
  replace h := tx_iload (p' := 7) h em232_5 rfl rfl
  replace h := tx_iload_n (p' := 8) h em232_7 rfl rfl
  rcases tx_icmp (t := 165) (p' := 11) h em232_8 (by decide) rfl with ⟨c8, h⟩ | ⟨c8, h⟩
  · replace c8 : y.toInt ≤ c.toInt := c8
    replace h := tx_aload_n (p' := 166) h em232_165 rfl rfl
    replace h := tx_getc (c := 12) (j := 57) (p' := 169) h em232_166 ((congrFun xo_12 110).trans rfl) rfl rfl rfl
    replace h := tx_iconst (v := 0) (p' := 170) h em232_169 (by decide +kernel) rfl
    obtain ⟨hb170, h⟩ := tx_iald (len := 400) (p' := 171) h em232_170 rfl rfl
    replace hb170 : (0 : Int) ≤ 0 ∧ (0 : Int) < 400 := hb170
    replace h : eT xq_232 _ 171 [some (.inr (.inl (some 75))), some (.inl f), some (.inl y), some (.inl t), some (.inl c), o5, o6, o7] [.inl (ω.1 106 0)] ω r μ' := h
    obtain ⟨rfl, hμ⟩ := tx_ireturn h em232_171
    exfalso
    omega
  · replace c8 : ¬ y.toInt ≤ c.toInt := c8
    replace h := tx_aload_n (p' := 12) h em232_11 rfl rfl
    replace h := tx_getc (c := 12) (j := 50) (p' := 15) h em232_12 ((congrFun xo_12 95).trans rfl) rfl rfl rfl
    replace h := tx_iload (p' := 17) h em232_15 rfl rfl
    obtain ⟨hb17, h⟩ := tx_iald (len := 840) (p' := 18) h em232_17 rfl rfl
    replace hb17 : (0 : Int) ≤ c.toInt ∧ c.toInt < 840 := hb17
    replace h := tx_istore (p' := 20) h em232_18 rfl
    replace h : eT xq_232 _ 20 [some (.inr (.inl (some 75))), some (.inl f), some (.inl y), some (.inl t), some (.inl c), some (.inl (ω.1 101 c.toInt.toNat)), o6, o7] [] ω r μ' := h
    replace h := tx_iload (p' := 22) h em232_20 rfl rfl
    replace h := tx_iconst (v := 2) (p' := 23) h em232_22 (by decide +kernel) rfl
    rcases tx_icmp (t := 65) (p' := 26) h em232_23 (by decide) rfl with ⟨c23, h⟩ | ⟨c23, h⟩
    · replace c23 : 2 ≤ (ω.1 101 c.toInt.toNat).toInt := c23
      replace h := tx_iinc (v := (-1)) (p' := 68) h em232_65 (by decide +kernel) rfl rfl
      replace h : eT xq_232 _ 68 [some (.inr (.inl (some 75))), some (.inl f), some (.inl y), some (.inl (t + (-1))), some (.inl c), some (.inl (ω.1 101 c.toInt.toNat)), o6, o7] [] ω r μ' := h
      have et1 : (t + -1).toInt = t.toInt - 1 := ka1 (by omega)
      obtain ⟨t1, ht1⟩ : ∃ z, z = t + -1 := ⟨_, rfl⟩
      rw [← ht1] at et1 h
      clear ht1
      have et2 : (t1 - (1 : Int32)).toInt = t.toInt - 2 := by rw [an_sub (by rw [e1i]; omega) (by rw [e1i]; omega), e1i]; omega
      replace h := tx_aload_n (p' := 69) h em232_68 rfl rfl
      replace h := tx_getc (c := 12) (j := 57) (p' := 72) h em232_69 ((congrFun xo_12 110).trans rfl) rfl rfl rfl
      replace h := tx_iload_n (p' := 73) h em232_72 rfl rfl
      replace h := tx_iconst (v := 1) (p' := 74) h em232_73 (by decide +kernel) rfl
      replace h := tx_isub (p' := 75) h em232_74 rfl
      obtain ⟨hb75, h⟩ := tx_iald (len := 400) (p' := 76) h em232_75 rfl rfl
      replace hb75 : (0 : Int) ≤ (t1 - (1 : Int32)).toInt ∧ (t1 - (1 : Int32)).toInt < 400 := hb75
      replace h := tx_istore (p' := 78) h em232_76 rfl
      replace h : eT xq_232 _ 78 [some (.inr (.inl (some 75))), some (.inl f), some (.inl y), some (.inl t1), some (.inl c), some (.inl (ω.1 101 c.toInt.toNat)), some (.inl (ω.1 106 (t1 - (1 : Int32)).toInt.toNat)), o7] [] ω r μ' := h
      replace h := tx_aload_n (p' := 79) h em232_78 rfl rfl
      replace h := tx_getc (c := 12) (j := 57) (p' := 82) h em232_79 ((congrFun xo_12 110).trans rfl) rfl rfl rfl
      replace h := tx_iload_n (p' := 83) h em232_82 rfl rfl
      obtain ⟨hb83, h⟩ := tx_iald (len := 400) (p' := 84) h em232_83 rfl rfl
      replace hb83 : (0 : Int) ≤ t1.toInt ∧ t1.toInt < 400 := hb83
      replace h := tx_istore (p' := 86) h em232_84 rfl
      replace h : eT xq_232 _ 86 [some (.inr (.inl (some 75))), some (.inl f), some (.inl y), some (.inl t1), some (.inl c), some (.inl (ω.1 101 c.toInt.toNat)), some (.inl (ω.1 106 (t1 - (1 : Int32)).toInt.toNat)), some (.inl (ω.1 106 t1.toInt.toNat))] [] ω r μ' := h
      replace h := tx_iload (p' := 88) h em232_86 rfl rfl
      replace h := tx_iconst (v := 5) (p' := 89) h em232_88 (by decide +kernel) rfl
      rcases tx_icmp (t := 104) (p' := 92) h em232_89 (by decide) rfl with ⟨c89, h⟩ | ⟨c89, h⟩
      · replace c89 : ¬ (ω.1 101 c.toInt.toNat).toInt = 5 := c89
        replace h := tx_aload_n (p' := 105) h em232_104 rfl rfl
        replace h := tx_getc (c := 12) (j := 57) (p' := 108) h em232_105 ((congrFun xo_12 110).trans rfl) rfl rfl rfl
        replace h := tx_iload_n (p' := 109) h em232_108 rfl rfl
        replace h := tx_iconst (v := 1) (p' := 110) h em232_109 (by decide +kernel) rfl
        replace h := tx_isub (p' := 111) h em232_110 rfl
        replace h := tx_iload (p' := 113) h em232_111 rfl rfl
        replace h := tx_iconst (v := 2) (p' := 114) h em232_113 (by decide +kernel) rfl
        rcases tx_icmp (t := 125) (p' := 117) h em232_114 (by decide) rfl with ⟨c114, h⟩ | ⟨c114, h⟩
        · replace c114 : ¬ (ω.1 101 c.toInt.toNat).toInt = 2 := c114
          replace h := tx_iload (p' := 127) h em232_125 rfl rfl
          replace h := tx_iconst (v := 3) (p' := 128) h em232_127 (by decide +kernel) rfl
          rcases tx_icmp (t := 139) (p' := 131) h em232_128 (by decide) rfl with ⟨c128, h⟩ | ⟨c128, h⟩
          · replace c128 : ¬ (ω.1 101 c.toInt.toNat).toInt = 3 := c128
            replace h := tx_iload (p' := 141) h em232_139 rfl rfl
            replace h := tx_iconst (v := 4) (p' := 142) h em232_141 (by decide +kernel) rfl
            rcases tx_icmp (t := 153) (p' := 145) h em232_142 (by decide) rfl with ⟨c142, h⟩ | ⟨c142, h⟩
            · replace c142 : ¬ (ω.1 101 c.toInt.toNat).toInt = 4 := c142
              replace h := tx_iload (p' := 155) h em232_153 rfl rfl
              replace h := tx_iload (p' := 157) h em232_155 rfl rfl
              obtain ⟨hz157, h⟩ := tx_idiv (p' := 158) h em232_157 rfl
              obtain ⟨hb158, h⟩ := tx_iast (len := 400) (p' := 159) h em232_158 rfl rfl
              replace hb158 : (0 : Int) ≤ (t1 - (1 : Int32)).toInt ∧ (t1 - (1 : Int32)).toInt < 400 := hb158
              replace h := tx_iinc (v := 1) (p' := 162) h em232_159 (by decide +kernel) rfl rfl
              replace h : eT xq_232 _ 162 [some (.inr (.inl (some 75))), some (.inl f), some (.inl y), some (.inl t1), some (.inl (c + 1)), some (.inl (ω.1 101 c.toInt.toNat)), some (.inl (ω.1 106 (t1 - (1 : Int32)).toInt.toNat)), some (.inl (ω.1 106 t1.toInt.toNat))] [] (xpi ω 106 (t1 - (1 : Int32)).toInt.toNat ((ω.1 106 (t1 - (1 : Int32)).toInt.toNat) / (ω.1 106 t1.toInt.toNat))) r μ' := h
              obtain ⟨n2, hn2, h⟩ := tx_gotoS (t := 5) h em232_162 (by decide)
              exfalso
              omega
            · replace c142 : ¬ ¬ (ω.1 101 c.toInt.toNat).toInt = 4 := c142
              replace h := tx_iload (p' := 147) h em232_145 rfl rfl
              replace h := tx_iload (p' := 149) h em232_147 rfl rfl
              replace h := tx_imul (p' := 150) h em232_149 rfl
              replace h := tx_goto (t := 158) h em232_150 (by decide)
              obtain ⟨hb158_1, h⟩ := tx_iast (len := 400) (p' := 159) h em232_158 rfl rfl
              replace hb158_1 : (0 : Int) ≤ (t1 - (1 : Int32)).toInt ∧ (t1 - (1 : Int32)).toInt < 400 := hb158_1
              replace h := tx_iinc (v := 1) (p' := 162) h em232_159 (by decide +kernel) rfl rfl
              replace h : eT xq_232 _ 162 [some (.inr (.inl (some 75))), some (.inl f), some (.inl y), some (.inl t1), some (.inl (c + 1)), some (.inl (ω.1 101 c.toInt.toNat)), some (.inl (ω.1 106 (t1 - (1 : Int32)).toInt.toNat)), some (.inl (ω.1 106 t1.toInt.toNat))] [] (xpi ω 106 (t1 - (1 : Int32)).toInt.toNat ((ω.1 106 (t1 - (1 : Int32)).toInt.toNat) * (ω.1 106 t1.toInt.toNat))) r μ' := h
              obtain ⟨n2, hn2, h⟩ := tx_gotoS (t := 5) h em232_162 (by decide)
              exfalso
              omega
          · replace c128 : ¬ ¬ (ω.1 101 c.toInt.toNat).toInt = 3 := c128
            replace h := tx_iload (p' := 133) h em232_131 rfl rfl
            replace h := tx_iload (p' := 135) h em232_133 rfl rfl
            replace h := tx_isub (p' := 136) h em232_135 rfl
            replace h := tx_goto (t := 158) h em232_136 (by decide)
            obtain ⟨hb158_2, h⟩ := tx_iast (len := 400) (p' := 159) h em232_158 rfl rfl
            replace hb158_2 : (0 : Int) ≤ (t1 - (1 : Int32)).toInt ∧ (t1 - (1 : Int32)).toInt < 400 := hb158_2
            replace h := tx_iinc (v := 1) (p' := 162) h em232_159 (by decide +kernel) rfl rfl
            replace h : eT xq_232 _ 162 [some (.inr (.inl (some 75))), some (.inl f), some (.inl y), some (.inl t1), some (.inl (c + 1)), some (.inl (ω.1 101 c.toInt.toNat)), some (.inl (ω.1 106 (t1 - (1 : Int32)).toInt.toNat)), some (.inl (ω.1 106 t1.toInt.toNat))] [] (xpi ω 106 (t1 - (1 : Int32)).toInt.toNat ((ω.1 106 (t1 - (1 : Int32)).toInt.toNat) - (ω.1 106 t1.toInt.toNat))) r μ' := h
            obtain ⟨n2, hn2, h⟩ := tx_gotoS (t := 5) h em232_162 (by decide)
            exfalso
            omega
        · replace c114 : ¬ ¬ (ω.1 101 c.toInt.toNat).toInt = 2 := c114
          replace h := tx_iload (p' := 119) h em232_117 rfl rfl
          replace h := tx_iload (p' := 121) h em232_119 rfl rfl
          replace h := tx_iadd (p' := 122) h em232_121 rfl
          replace h := tx_goto (t := 158) h em232_122 (by decide)
          obtain ⟨hb158_3, h⟩ := tx_iast (len := 400) (p' := 159) h em232_158 rfl rfl
          replace hb158_3 : (0 : Int) ≤ (t1 - (1 : Int32)).toInt ∧ (t1 - (1 : Int32)).toInt < 400 := hb158_3
          replace h := tx_iinc (v := 1) (p' := 162) h em232_159 (by decide +kernel) rfl rfl
          replace h : eT xq_232 _ 162 [some (.inr (.inl (some 75))), some (.inl f), some (.inl y), some (.inl t1), some (.inl (c + 1)), some (.inl (ω.1 101 c.toInt.toNat)), some (.inl (ω.1 106 (t1 - (1 : Int32)).toInt.toNat)), some (.inl (ω.1 106 t1.toInt.toNat))] [] (xpi ω 106 (t1 - (1 : Int32)).toInt.toNat ((ω.1 106 (t1 - (1 : Int32)).toInt.toNat) + (ω.1 106 t1.toInt.toNat))) r μ' := h
          obtain ⟨n2, hn2, h⟩ := tx_gotoS (t := 5) h em232_162 (by decide)
          exfalso
          omega
      · replace c89 : ¬ ¬ (ω.1 101 c.toInt.toNat).toInt = 5 := c89
        replace h := tx_iload (p' := 94) h em232_92 rfl rfl
        rcases tx_if (t := 104) (p' := 97) h em232_94 (by decide) rfl with ⟨c94, h⟩ | ⟨c94, h⟩
        · replace c94 : ¬ (ω.1 106 t1.toInt.toNat).toInt = 0 := c94
          replace h := tx_aload_n (p' := 105) h em232_104 rfl rfl
          replace h := tx_getc (c := 12) (j := 57) (p' := 108) h em232_105 ((congrFun xo_12 110).trans rfl) rfl rfl rfl
          replace h := tx_iload_n (p' := 109) h em232_108 rfl rfl
          replace h := tx_iconst (v := 1) (p' := 110) h em232_109 (by decide +kernel) rfl
          replace h := tx_isub (p' := 111) h em232_110 rfl
          replace h := tx_iload (p' := 113) h em232_111 rfl rfl
          replace h := tx_iconst (v := 2) (p' := 114) h em232_113 (by decide +kernel) rfl
          rcases tx_icmp (t := 125) (p' := 117) h em232_114 (by decide) rfl with ⟨c114_1, h⟩ | ⟨c114_1, h⟩
          · replace c114_1 : ¬ (ω.1 101 c.toInt.toNat).toInt = 2 := c114_1
            replace h := tx_iload (p' := 127) h em232_125 rfl rfl
            replace h := tx_iconst (v := 3) (p' := 128) h em232_127 (by decide +kernel) rfl
            rcases tx_icmp (t := 139) (p' := 131) h em232_128 (by decide) rfl with ⟨c128_1, h⟩ | ⟨c128_1, h⟩
            · replace c128_1 : ¬ (ω.1 101 c.toInt.toNat).toInt = 3 := c128_1
              replace h := tx_iload (p' := 141) h em232_139 rfl rfl
              replace h := tx_iconst (v := 4) (p' := 142) h em232_141 (by decide +kernel) rfl
              rcases tx_icmp (t := 153) (p' := 145) h em232_142 (by decide) rfl with ⟨c142_1, h⟩ | ⟨c142_1, h⟩
              · replace c142_1 : ¬ (ω.1 101 c.toInt.toNat).toInt = 4 := c142_1
                replace h := tx_iload (p' := 155) h em232_153 rfl rfl
                replace h := tx_iload (p' := 157) h em232_155 rfl rfl
                obtain ⟨hz157_1, h⟩ := tx_idiv (p' := 158) h em232_157 rfl
                obtain ⟨hb158_4, h⟩ := tx_iast (len := 400) (p' := 159) h em232_158 rfl rfl
                replace hb158_4 : (0 : Int) ≤ (t1 - (1 : Int32)).toInt ∧ (t1 - (1 : Int32)).toInt < 400 := hb158_4
                replace h := tx_iinc (v := 1) (p' := 162) h em232_159 (by decide +kernel) rfl rfl
                replace h : eT xq_232 _ 162 [some (.inr (.inl (some 75))), some (.inl f), some (.inl y), some (.inl t1), some (.inl (c + 1)), some (.inl (ω.1 101 c.toInt.toNat)), some (.inl (ω.1 106 (t1 - (1 : Int32)).toInt.toNat)), some (.inl (ω.1 106 t1.toInt.toNat))] [] (xpi ω 106 (t1 - (1 : Int32)).toInt.toNat ((ω.1 106 (t1 - (1 : Int32)).toInt.toNat) / (ω.1 106 t1.toInt.toNat))) r μ' := h
                obtain ⟨n2, hn2, h⟩ := tx_gotoS (t := 5) h em232_162 (by decide)
                exfalso
                rw [et1, hz] at c94
                exact c94 (by decide)
              · replace c142_1 : ¬ ¬ (ω.1 101 c.toInt.toNat).toInt = 4 := c142_1
                replace h := tx_iload (p' := 147) h em232_145 rfl rfl
                replace h := tx_iload (p' := 149) h em232_147 rfl rfl
                replace h := tx_imul (p' := 150) h em232_149 rfl
                replace h := tx_goto (t := 158) h em232_150 (by decide)
                obtain ⟨hb158_5, h⟩ := tx_iast (len := 400) (p' := 159) h em232_158 rfl rfl
                replace hb158_5 : (0 : Int) ≤ (t1 - (1 : Int32)).toInt ∧ (t1 - (1 : Int32)).toInt < 400 := hb158_5
                replace h := tx_iinc (v := 1) (p' := 162) h em232_159 (by decide +kernel) rfl rfl
                replace h : eT xq_232 _ 162 [some (.inr (.inl (some 75))), some (.inl f), some (.inl y), some (.inl t1), some (.inl (c + 1)), some (.inl (ω.1 101 c.toInt.toNat)), some (.inl (ω.1 106 (t1 - (1 : Int32)).toInt.toNat)), some (.inl (ω.1 106 t1.toInt.toNat))] [] (xpi ω 106 (t1 - (1 : Int32)).toInt.toNat ((ω.1 106 (t1 - (1 : Int32)).toInt.toNat) * (ω.1 106 t1.toInt.toNat))) r μ' := h
                obtain ⟨n2, hn2, h⟩ := tx_gotoS (t := 5) h em232_162 (by decide)
                exfalso
                rw [et1, hz] at c94
                exact c94 (by decide)
            · replace c128_1 : ¬ ¬ (ω.1 101 c.toInt.toNat).toInt = 3 := c128_1
              replace h := tx_iload (p' := 133) h em232_131 rfl rfl
              replace h := tx_iload (p' := 135) h em232_133 rfl rfl
              replace h := tx_isub (p' := 136) h em232_135 rfl
              replace h := tx_goto (t := 158) h em232_136 (by decide)
              obtain ⟨hb158_6, h⟩ := tx_iast (len := 400) (p' := 159) h em232_158 rfl rfl
              replace hb158_6 : (0 : Int) ≤ (t1 - (1 : Int32)).toInt ∧ (t1 - (1 : Int32)).toInt < 400 := hb158_6
              replace h := tx_iinc (v := 1) (p' := 162) h em232_159 (by decide +kernel) rfl rfl
              replace h : eT xq_232 _ 162 [some (.inr (.inl (some 75))), some (.inl f), some (.inl y), some (.inl t1), some (.inl (c + 1)), some (.inl (ω.1 101 c.toInt.toNat)), some (.inl (ω.1 106 (t1 - (1 : Int32)).toInt.toNat)), some (.inl (ω.1 106 t1.toInt.toNat))] [] (xpi ω 106 (t1 - (1 : Int32)).toInt.toNat ((ω.1 106 (t1 - (1 : Int32)).toInt.toNat) - (ω.1 106 t1.toInt.toNat))) r μ' := h
              obtain ⟨n2, hn2, h⟩ := tx_gotoS (t := 5) h em232_162 (by decide)
              exfalso
              rw [et1, hz] at c94
              exact c94 (by decide)
          · replace c114_1 : ¬ ¬ (ω.1 101 c.toInt.toNat).toInt = 2 := c114_1
            replace h := tx_iload (p' := 119) h em232_117 rfl rfl
            replace h := tx_iload (p' := 121) h em232_119 rfl rfl
            replace h := tx_iadd (p' := 122) h em232_121 rfl
            replace h := tx_goto (t := 158) h em232_122 (by decide)
            obtain ⟨hb158_7, h⟩ := tx_iast (len := 400) (p' := 159) h em232_158 rfl rfl
            replace hb158_7 : (0 : Int) ≤ (t1 - (1 : Int32)).toInt ∧ (t1 - (1 : Int32)).toInt < 400 := hb158_7
            replace h := tx_iinc (v := 1) (p' := 162) h em232_159 (by decide +kernel) rfl rfl
            replace h : eT xq_232 _ 162 [some (.inr (.inl (some 75))), some (.inl f), some (.inl y), some (.inl t1), some (.inl (c + 1)), some (.inl (ω.1 101 c.toInt.toNat)), some (.inl (ω.1 106 (t1 - (1 : Int32)).toInt.toNat)), some (.inl (ω.1 106 t1.toInt.toNat))] [] (xpi ω 106 (t1 - (1 : Int32)).toInt.toNat ((ω.1 106 (t1 - (1 : Int32)).toInt.toNat) + (ω.1 106 t1.toInt.toNat))) r μ' := h
            obtain ⟨n2, hn2, h⟩ := tx_gotoS (t := 5) h em232_162 (by decide)
            exfalso
            rw [et1, hz] at c94
            exact c94 (by decide)
        · replace c94 : ¬ ¬ (ω.1 106 t1.toInt.toNat).toInt = 0 := c94
          replace h := tx_aload_n (p' := 98) h em232_97 rfl rfl
          replace h := tx_iconst (v := 1) (p' := 99) h em232_98 (by decide +kernel) rfl
          replace h := tx_putf (a := 75) (c := 12) (j := 58) (p' := 102) h em232_99 ((congrFun xo_12 320).trans rfl) rfl
          replace h := tx_iconst (v := 0) (p' := 103) h em232_102 (by decide +kernel) rfl
          obtain ⟨rfl, hμ⟩ := tx_ireturn h em232_103
          exact ⟨rfl, hμ⟩
    · replace c23 : ¬ 2 ≤ (ω.1 101 c.toInt.toNat).toInt := c23
      replace h := tx_aload_n (p' := 27) h em232_26 rfl rfl
      replace h := tx_getc (c := 12) (j := 57) (p' := 30) h em232_27 ((congrFun xo_12 110).trans rfl) rfl rfl rfl
      replace h := tx_iload_n (p' := 31) h em232_30 rfl rfl
      replace h := tx_iload (p' := 33) h em232_31 rfl rfl
      rcases tx_if (t := 46) (p' := 36) h em232_33 (by decide) rfl with ⟨c33, h⟩ | ⟨c33, h⟩
      · replace c33 : ¬ (ω.1 101 c.toInt.toNat).toInt = 0 := c33
        replace h := tx_aload_n (p' := 47) h em232_46 rfl rfl
        replace h := tx_getc (c := 12) (j := 56) (p' := 50) h em232_47 ((congrFun xo_12 107).trans rfl) rfl rfl rfl
        replace h := tx_aload_n (p' := 51) h em232_50 rfl rfl
        replace h := tx_getc (c := 12) (j := 51) (p' := 54) h em232_51 ((congrFun xo_12 98).trans rfl) rfl rfl rfl
        replace h := tx_iload (p' := 56) h em232_54 rfl rfl
        obtain ⟨hb56, h⟩ := tx_iald (len := 840) (p' := 57) h em232_56 rfl rfl
        replace hb56 : (0 : Int) ≤ c.toInt ∧ c.toInt < 840 := hb56
        obtain ⟨hb57, h⟩ := tx_iald (len := 9) (p' := 58) h em232_57 rfl rfl
        replace hb57 : (0 : Int) ≤ (ω.1 102 c.toInt.toNat).toInt ∧ (ω.1 102 c.toInt.toNat).toInt < 9 := hb57
        obtain ⟨hb58, h⟩ := tx_iast (len := 400) (p' := 59) h em232_58 rfl rfl
        replace hb58 : (0 : Int) ≤ t.toInt ∧ t.toInt < 400 := hb58
        replace h := tx_iinc (v := 1) (p' := 62) h em232_59 (by decide +kernel) rfl rfl
        replace h : eT xq_232 _ 62 [some (.inr (.inl (some 75))), some (.inl f), some (.inl y), some (.inl (t + 1)), some (.inl c), some (.inl (ω.1 101 c.toInt.toNat)), o6, o7] [] (xpi ω 106 t.toInt.toNat (ω.1 105 (ω.1 102 c.toInt.toNat).toInt.toNat)) r μ' := h
        replace h := tx_goto (t := 159) h em232_62 (by decide)
        replace h := tx_iinc (v := 1) (p' := 162) h em232_159 (by decide +kernel) rfl rfl
        replace h : eT xq_232 _ 162 [some (.inr (.inl (some 75))), some (.inl f), some (.inl y), some (.inl (t + 1)), some (.inl (c + 1)), some (.inl (ω.1 101 c.toInt.toNat)), o6, o7] [] (xpi ω 106 t.toInt.toNat (ω.1 105 (ω.1 102 c.toInt.toNat).toInt.toNat)) r μ' := h
        obtain ⟨n2, hn2, h⟩ := tx_gotoS (t := 5) h em232_162 (by decide)
        exfalso
        omega
      · replace c33 : ¬ ¬ (ω.1 101 c.toInt.toNat).toInt = 0 := c33
        replace h := tx_aload_n (p' := 37) h em232_36 rfl rfl
        replace h := tx_getc (c := 12) (j := 51) (p' := 40) h em232_37 ((congrFun xo_12 98).trans rfl) rfl rfl rfl
        replace h := tx_iload (p' := 42) h em232_40 rfl rfl
        obtain ⟨hb42, h⟩ := tx_iald (len := 840) (p' := 43) h em232_42 rfl rfl
        replace hb42 : (0 : Int) ≤ c.toInt ∧ c.toInt < 840 := hb42
        replace h := tx_goto (t := 58) h em232_43 (by decide)
        obtain ⟨hb58_1, h⟩ := tx_iast (len := 400) (p' := 59) h em232_58 rfl rfl
        replace hb58_1 : (0 : Int) ≤ t.toInt ∧ t.toInt < 400 := hb58_1
        replace h := tx_iinc (v := 1) (p' := 62) h em232_59 (by decide +kernel) rfl rfl
        replace h : eT xq_232 _ 62 [some (.inr (.inl (some 75))), some (.inl f), some (.inl y), some (.inl (t + 1)), some (.inl c), some (.inl (ω.1 101 c.toInt.toNat)), o6, o7] [] (xpi ω 106 t.toInt.toNat (ω.1 102 c.toInt.toNat)) r μ' := h
        replace h := tx_goto (t := 159) h em232_62 (by decide)
        replace h := tx_iinc (v := 1) (p' := 162) h em232_159 (by decide +kernel) rfl rfl
        replace h : eT xq_232 _ 162 [some (.inr (.inl (some 75))), some (.inl f), some (.inl y), some (.inl (t + 1)), some (.inl (c + 1)), some (.inl (ω.1 101 c.toInt.toNat)), o6, o7] [] (xpi ω 106 t.toInt.toNat (ω.1 102 c.toInt.toNat)) r μ' := h
        obtain ⟨n2, hn2, h⟩ := tx_gotoS (t := 5) h em232_162 (by decide)
        exfalso
        omega
set_option maxRecDepth 10000 in
set_option maxHeartbeats 4000000 in
theorem tr_op2 {n : Nat} {f y t c : Int32} {o5 o6 o7 : Option zV} {ω μ' : xM} {r : Option zV} (h : eT xq_232 n 5 [some (.inr (.inl (some 75))), some (.inl f), some (.inl y), some (.inl t), some (.inl c), o5, o6, o7] [] ω r μ') (hc : c.toInt < y.toInt) (ht0 : 0 ≤ t.toInt) (ht4 : t.toInt ≤ 1000) (ho : (ω.1 101 c.toInt.toNat).toInt = 2) (hf : 2 ≤ t.toInt) : ∃ n' o5' o6' o7' t1, t1.toInt = t.toInt - 1 ∧ eT xq_232 n' 5 [some (.inr (.inl (some 75))), some (.inl f), some (.inl y), some (.inl t1), some (.inl (c + 1)), o5', o6', o7'] [] (xpi ω 106 (t.toInt - 2).toNat ((ω.1 106 (t.toInt - 2).toNat) + (ω.1 106 (t.toInt - 1).toNat))) r μ' := by
  have e1i : (1 : Int32).toInt = 1 := by decide
  replace h := tx_iload (p' := 7) h em232_5 rfl rfl
  replace h := tx_iload_n (p' := 8) h em232_7 rfl rfl
  rcases tx_icmp (t := 165) (p' := 11) h em232_8 (by decide) rfl with ⟨c8, h⟩ | ⟨c8, h⟩
  · replace c8 : y.toInt ≤ c.toInt := c8
    replace h := tx_aload_n (p' := 166) h em232_165 rfl rfl
    replace h := tx_getc (c := 12) (j := 57) (p' := 169) h em232_166 ((congrFun xo_12 110).trans rfl) rfl rfl rfl
    replace h := tx_iconst (v := 0) (p' := 170) h em232_169 (by decide +kernel) rfl
    obtain ⟨hb170, h⟩ := tx_iald (len := 400) (p' := 171) h em232_170 rfl rfl
    replace hb170 : (0 : Int) ≤ 0 ∧ (0 : Int) < 400 := hb170
    replace h : eT xq_232 _ 171 [some (.inr (.inl (some 75))), some (.inl f), some (.inl y), some (.inl t), some (.inl c), o5, o6, o7] [.inl (ω.1 106 0)] ω r μ' := h
    obtain ⟨rfl, hμ⟩ := tx_ireturn h em232_171
    exfalso
    omega
  · replace c8 : ¬ y.toInt ≤ c.toInt := c8
    replace h := tx_aload_n (p' := 12) h em232_11 rfl rfl
    replace h := tx_getc (c := 12) (j := 50) (p' := 15) h em232_12 ((congrFun xo_12 95).trans rfl) rfl rfl rfl
    replace h := tx_iload (p' := 17) h em232_15 rfl rfl
    obtain ⟨hb17, h⟩ := tx_iald (len := 840) (p' := 18) h em232_17 rfl rfl
    replace hb17 : (0 : Int) ≤ c.toInt ∧ c.toInt < 840 := hb17
    replace h := tx_istore (p' := 20) h em232_18 rfl
    replace h : eT xq_232 _ 20 [some (.inr (.inl (some 75))), some (.inl f), some (.inl y), some (.inl t), some (.inl c), some (.inl (ω.1 101 c.toInt.toNat)), o6, o7] [] ω r μ' := h
    replace h := tx_iload (p' := 22) h em232_20 rfl rfl
    replace h := tx_iconst (v := 2) (p' := 23) h em232_22 (by decide +kernel) rfl
    rcases tx_icmp (t := 65) (p' := 26) h em232_23 (by decide) rfl with ⟨c23, h⟩ | ⟨c23, h⟩
    · replace c23 : 2 ≤ (ω.1 101 c.toInt.toNat).toInt := c23
      replace h := tx_iinc (v := (-1)) (p' := 68) h em232_65 (by decide +kernel) rfl rfl
      replace h : eT xq_232 _ 68 [some (.inr (.inl (some 75))), some (.inl f), some (.inl y), some (.inl (t + (-1))), some (.inl c), some (.inl (ω.1 101 c.toInt.toNat)), o6, o7] [] ω r μ' := h
      have et1 : (t + -1).toInt = t.toInt - 1 := ka1 (by omega)
      obtain ⟨t1, ht1⟩ : ∃ z, z = t + -1 := ⟨_, rfl⟩
      rw [← ht1] at et1 h
      clear ht1
      have et2 : (t1 - (1 : Int32)).toInt = t.toInt - 2 := by rw [an_sub (by rw [e1i]; omega) (by rw [e1i]; omega), e1i]; omega
      replace h := tx_aload_n (p' := 69) h em232_68 rfl rfl
      replace h := tx_getc (c := 12) (j := 57) (p' := 72) h em232_69 ((congrFun xo_12 110).trans rfl) rfl rfl rfl
      replace h := tx_iload_n (p' := 73) h em232_72 rfl rfl
      replace h := tx_iconst (v := 1) (p' := 74) h em232_73 (by decide +kernel) rfl
      replace h := tx_isub (p' := 75) h em232_74 rfl
      obtain ⟨hb75, h⟩ := tx_iald (len := 400) (p' := 76) h em232_75 rfl rfl
      replace hb75 : (0 : Int) ≤ (t1 - (1 : Int32)).toInt ∧ (t1 - (1 : Int32)).toInt < 400 := hb75
      replace h := tx_istore (p' := 78) h em232_76 rfl
      replace h : eT xq_232 _ 78 [some (.inr (.inl (some 75))), some (.inl f), some (.inl y), some (.inl t1), some (.inl c), some (.inl (ω.1 101 c.toInt.toNat)), some (.inl (ω.1 106 (t1 - (1 : Int32)).toInt.toNat)), o7] [] ω r μ' := h
      replace h := tx_aload_n (p' := 79) h em232_78 rfl rfl
      replace h := tx_getc (c := 12) (j := 57) (p' := 82) h em232_79 ((congrFun xo_12 110).trans rfl) rfl rfl rfl
      replace h := tx_iload_n (p' := 83) h em232_82 rfl rfl
      obtain ⟨hb83, h⟩ := tx_iald (len := 400) (p' := 84) h em232_83 rfl rfl
      replace hb83 : (0 : Int) ≤ t1.toInt ∧ t1.toInt < 400 := hb83
      replace h := tx_istore (p' := 86) h em232_84 rfl
      replace h : eT xq_232 _ 86 [some (.inr (.inl (some 75))), some (.inl f), some (.inl y), some (.inl t1), some (.inl c), some (.inl (ω.1 101 c.toInt.toNat)), some (.inl (ω.1 106 (t1 - (1 : Int32)).toInt.toNat)), some (.inl (ω.1 106 t1.toInt.toNat))] [] ω r μ' := h
      replace h := tx_iload (p' := 88) h em232_86 rfl rfl
      replace h := tx_iconst (v := 5) (p' := 89) h em232_88 (by decide +kernel) rfl
      rcases tx_icmp (t := 104) (p' := 92) h em232_89 (by decide) rfl with ⟨c89, h⟩ | ⟨c89, h⟩
      · replace c89 : ¬ (ω.1 101 c.toInt.toNat).toInt = 5 := c89
        replace h := tx_aload_n (p' := 105) h em232_104 rfl rfl
        replace h := tx_getc (c := 12) (j := 57) (p' := 108) h em232_105 ((congrFun xo_12 110).trans rfl) rfl rfl rfl
        replace h := tx_iload_n (p' := 109) h em232_108 rfl rfl
        replace h := tx_iconst (v := 1) (p' := 110) h em232_109 (by decide +kernel) rfl
        replace h := tx_isub (p' := 111) h em232_110 rfl
        replace h := tx_iload (p' := 113) h em232_111 rfl rfl
        replace h := tx_iconst (v := 2) (p' := 114) h em232_113 (by decide +kernel) rfl
        rcases tx_icmp (t := 125) (p' := 117) h em232_114 (by decide) rfl with ⟨c114, h⟩ | ⟨c114, h⟩
        · replace c114 : ¬ (ω.1 101 c.toInt.toNat).toInt = 2 := c114
          replace h := tx_iload (p' := 127) h em232_125 rfl rfl
          replace h := tx_iconst (v := 3) (p' := 128) h em232_127 (by decide +kernel) rfl
          rcases tx_icmp (t := 139) (p' := 131) h em232_128 (by decide) rfl with ⟨c128, h⟩ | ⟨c128, h⟩
          · replace c128 : ¬ (ω.1 101 c.toInt.toNat).toInt = 3 := c128
            replace h := tx_iload (p' := 141) h em232_139 rfl rfl
            replace h := tx_iconst (v := 4) (p' := 142) h em232_141 (by decide +kernel) rfl
            rcases tx_icmp (t := 153) (p' := 145) h em232_142 (by decide) rfl with ⟨c142, h⟩ | ⟨c142, h⟩
            · replace c142 : ¬ (ω.1 101 c.toInt.toNat).toInt = 4 := c142
              replace h := tx_iload (p' := 155) h em232_153 rfl rfl
              replace h := tx_iload (p' := 157) h em232_155 rfl rfl
              obtain ⟨hz157, h⟩ := tx_idiv (p' := 158) h em232_157 rfl
              obtain ⟨hb158, h⟩ := tx_iast (len := 400) (p' := 159) h em232_158 rfl rfl
              replace hb158 : (0 : Int) ≤ (t1 - (1 : Int32)).toInt ∧ (t1 - (1 : Int32)).toInt < 400 := hb158
              replace h := tx_iinc (v := 1) (p' := 162) h em232_159 (by decide +kernel) rfl rfl
              replace h : eT xq_232 _ 162 [some (.inr (.inl (some 75))), some (.inl f), some (.inl y), some (.inl t1), some (.inl (c + 1)), some (.inl (ω.1 101 c.toInt.toNat)), some (.inl (ω.1 106 (t1 - (1 : Int32)).toInt.toNat)), some (.inl (ω.1 106 t1.toInt.toNat))] [] (xpi ω 106 (t1 - (1 : Int32)).toInt.toNat ((ω.1 106 (t1 - (1 : Int32)).toInt.toNat) / (ω.1 106 t1.toInt.toNat))) r μ' := h
              obtain ⟨n2, hn2, h⟩ := tx_gotoS (t := 5) h em232_162 (by decide)
              exfalso
              omega
            · replace c142 : ¬ ¬ (ω.1 101 c.toInt.toNat).toInt = 4 := c142
              replace h := tx_iload (p' := 147) h em232_145 rfl rfl
              replace h := tx_iload (p' := 149) h em232_147 rfl rfl
              replace h := tx_imul (p' := 150) h em232_149 rfl
              replace h := tx_goto (t := 158) h em232_150 (by decide)
              obtain ⟨hb158_1, h⟩ := tx_iast (len := 400) (p' := 159) h em232_158 rfl rfl
              replace hb158_1 : (0 : Int) ≤ (t1 - (1 : Int32)).toInt ∧ (t1 - (1 : Int32)).toInt < 400 := hb158_1
              replace h := tx_iinc (v := 1) (p' := 162) h em232_159 (by decide +kernel) rfl rfl
              replace h : eT xq_232 _ 162 [some (.inr (.inl (some 75))), some (.inl f), some (.inl y), some (.inl t1), some (.inl (c + 1)), some (.inl (ω.1 101 c.toInt.toNat)), some (.inl (ω.1 106 (t1 - (1 : Int32)).toInt.toNat)), some (.inl (ω.1 106 t1.toInt.toNat))] [] (xpi ω 106 (t1 - (1 : Int32)).toInt.toNat ((ω.1 106 (t1 - (1 : Int32)).toInt.toNat) * (ω.1 106 t1.toInt.toNat))) r μ' := h
              obtain ⟨n2, hn2, h⟩ := tx_gotoS (t := 5) h em232_162 (by decide)
              exfalso
              omega
          · replace c128 : ¬ ¬ (ω.1 101 c.toInt.toNat).toInt = 3 := c128
            replace h := tx_iload (p' := 133) h em232_131 rfl rfl
            replace h := tx_iload (p' := 135) h em232_133 rfl rfl
            replace h := tx_isub (p' := 136) h em232_135 rfl
            replace h := tx_goto (t := 158) h em232_136 (by decide)
            obtain ⟨hb158_2, h⟩ := tx_iast (len := 400) (p' := 159) h em232_158 rfl rfl
            replace hb158_2 : (0 : Int) ≤ (t1 - (1 : Int32)).toInt ∧ (t1 - (1 : Int32)).toInt < 400 := hb158_2
            replace h := tx_iinc (v := 1) (p' := 162) h em232_159 (by decide +kernel) rfl rfl
            replace h : eT xq_232 _ 162 [some (.inr (.inl (some 75))), some (.inl f), some (.inl y), some (.inl t1), some (.inl (c + 1)), some (.inl (ω.1 101 c.toInt.toNat)), some (.inl (ω.1 106 (t1 - (1 : Int32)).toInt.toNat)), some (.inl (ω.1 106 t1.toInt.toNat))] [] (xpi ω 106 (t1 - (1 : Int32)).toInt.toNat ((ω.1 106 (t1 - (1 : Int32)).toInt.toNat) - (ω.1 106 t1.toInt.toNat))) r μ' := h
            obtain ⟨n2, hn2, h⟩ := tx_gotoS (t := 5) h em232_162 (by decide)
            exfalso
            omega
        · replace c114 : ¬ ¬ (ω.1 101 c.toInt.toNat).toInt = 2 := c114
          replace h := tx_iload (p' := 119) h em232_117 rfl rfl
          replace h := tx_iload (p' := 121) h em232_119 rfl rfl
          replace h := tx_iadd (p' := 122) h em232_121 rfl
          replace h := tx_goto (t := 158) h em232_122 (by decide)
          obtain ⟨hb158_3, h⟩ := tx_iast (len := 400) (p' := 159) h em232_158 rfl rfl
          replace hb158_3 : (0 : Int) ≤ (t1 - (1 : Int32)).toInt ∧ (t1 - (1 : Int32)).toInt < 400 := hb158_3
          replace h := tx_iinc (v := 1) (p' := 162) h em232_159 (by decide +kernel) rfl rfl
          replace h : eT xq_232 _ 162 [some (.inr (.inl (some 75))), some (.inl f), some (.inl y), some (.inl t1), some (.inl (c + 1)), some (.inl (ω.1 101 c.toInt.toNat)), some (.inl (ω.1 106 (t1 - (1 : Int32)).toInt.toNat)), some (.inl (ω.1 106 t1.toInt.toNat))] [] (xpi ω 106 (t1 - (1 : Int32)).toInt.toNat ((ω.1 106 (t1 - (1 : Int32)).toInt.toNat) + (ω.1 106 t1.toInt.toNat))) r μ' := h
          obtain ⟨n2, hn2, h⟩ := tx_gotoS (t := 5) h em232_162 (by decide)
          rw [et2, et1] at h
          exact ⟨_, _, _, _, t1, et1, h⟩
      · replace c89 : ¬ ¬ (ω.1 101 c.toInt.toNat).toInt = 5 := c89
        replace h := tx_iload (p' := 94) h em232_92 rfl rfl
        rcases tx_if (t := 104) (p' := 97) h em232_94 (by decide) rfl with ⟨c94, h⟩ | ⟨c94, h⟩
        · replace c94 : ¬ (ω.1 106 t1.toInt.toNat).toInt = 0 := c94
          replace h := tx_aload_n (p' := 105) h em232_104 rfl rfl
          replace h := tx_getc (c := 12) (j := 57) (p' := 108) h em232_105 ((congrFun xo_12 110).trans rfl) rfl rfl rfl
          replace h := tx_iload_n (p' := 109) h em232_108 rfl rfl
          replace h := tx_iconst (v := 1) (p' := 110) h em232_109 (by decide +kernel) rfl
          replace h := tx_isub (p' := 111) h em232_110 rfl
          replace h := tx_iload (p' := 113) h em232_111 rfl rfl
          replace h := tx_iconst (v := 2) (p' := 114) h em232_113 (by decide +kernel) rfl
          rcases tx_icmp (t := 125) (p' := 117) h em232_114 (by decide) rfl with ⟨c114_1, h⟩ | ⟨c114_1, h⟩
          · replace c114_1 : ¬ (ω.1 101 c.toInt.toNat).toInt = 2 := c114_1
            replace h := tx_iload (p' := 127) h em232_125 rfl rfl
            replace h := tx_iconst (v := 3) (p' := 128) h em232_127 (by decide +kernel) rfl
            rcases tx_icmp (t := 139) (p' := 131) h em232_128 (by decide) rfl with ⟨c128_1, h⟩ | ⟨c128_1, h⟩
            · replace c128_1 : ¬ (ω.1 101 c.toInt.toNat).toInt = 3 := c128_1
              replace h := tx_iload (p' := 141) h em232_139 rfl rfl
              replace h := tx_iconst (v := 4) (p' := 142) h em232_141 (by decide +kernel) rfl
              rcases tx_icmp (t := 153) (p' := 145) h em232_142 (by decide) rfl with ⟨c142_1, h⟩ | ⟨c142_1, h⟩
              · replace c142_1 : ¬ (ω.1 101 c.toInt.toNat).toInt = 4 := c142_1
                replace h := tx_iload (p' := 155) h em232_153 rfl rfl
                replace h := tx_iload (p' := 157) h em232_155 rfl rfl
                obtain ⟨hz157_1, h⟩ := tx_idiv (p' := 158) h em232_157 rfl
                obtain ⟨hb158_4, h⟩ := tx_iast (len := 400) (p' := 159) h em232_158 rfl rfl
                replace hb158_4 : (0 : Int) ≤ (t1 - (1 : Int32)).toInt ∧ (t1 - (1 : Int32)).toInt < 400 := hb158_4
                replace h := tx_iinc (v := 1) (p' := 162) h em232_159 (by decide +kernel) rfl rfl
                replace h : eT xq_232 _ 162 [some (.inr (.inl (some 75))), some (.inl f), some (.inl y), some (.inl t1), some (.inl (c + 1)), some (.inl (ω.1 101 c.toInt.toNat)), some (.inl (ω.1 106 (t1 - (1 : Int32)).toInt.toNat)), some (.inl (ω.1 106 t1.toInt.toNat))] [] (xpi ω 106 (t1 - (1 : Int32)).toInt.toNat ((ω.1 106 (t1 - (1 : Int32)).toInt.toNat) / (ω.1 106 t1.toInt.toNat))) r μ' := h
                obtain ⟨n2, hn2, h⟩ := tx_gotoS (t := 5) h em232_162 (by decide)
                exfalso
                omega
              · replace c142_1 : ¬ ¬ (ω.1 101 c.toInt.toNat).toInt = 4 := c142_1
                replace h := tx_iload (p' := 147) h em232_145 rfl rfl
                replace h := tx_iload (p' := 149) h em232_147 rfl rfl
                replace h := tx_imul (p' := 150) h em232_149 rfl
                replace h := tx_goto (t := 158) h em232_150 (by decide)
                obtain ⟨hb158_5, h⟩ := tx_iast (len := 400) (p' := 159) h em232_158 rfl rfl
                replace hb158_5 : (0 : Int) ≤ (t1 - (1 : Int32)).toInt ∧ (t1 - (1 : Int32)).toInt < 400 := hb158_5
                replace h := tx_iinc (v := 1) (p' := 162) h em232_159 (by decide +kernel) rfl rfl
                replace h : eT xq_232 _ 162 [some (.inr (.inl (some 75))), some (.inl f), some (.inl y), some (.inl t1), some (.inl (c + 1)), some (.inl (ω.1 101 c.toInt.toNat)), some (.inl (ω.1 106 (t1 - (1 : Int32)).toInt.toNat)), some (.inl (ω.1 106 t1.toInt.toNat))] [] (xpi ω 106 (t1 - (1 : Int32)).toInt.toNat ((ω.1 106 (t1 - (1 : Int32)).toInt.toNat) * (ω.1 106 t1.toInt.toNat))) r μ' := h
                obtain ⟨n2, hn2, h⟩ := tx_gotoS (t := 5) h em232_162 (by decide)
                exfalso
                omega
            · replace c128_1 : ¬ ¬ (ω.1 101 c.toInt.toNat).toInt = 3 := c128_1
              replace h := tx_iload (p' := 133) h em232_131 rfl rfl
              replace h := tx_iload (p' := 135) h em232_133 rfl rfl
              replace h := tx_isub (p' := 136) h em232_135 rfl
              replace h := tx_goto (t := 158) h em232_136 (by decide)
              obtain ⟨hb158_6, h⟩ := tx_iast (len := 400) (p' := 159) h em232_158 rfl rfl
              replace hb158_6 : (0 : Int) ≤ (t1 - (1 : Int32)).toInt ∧ (t1 - (1 : Int32)).toInt < 400 := hb158_6
              replace h := tx_iinc (v := 1) (p' := 162) h em232_159 (by decide +kernel) rfl rfl
              replace h : eT xq_232 _ 162 [some (.inr (.inl (some 75))), some (.inl f), some (.inl y), some (.inl t1), some (.inl (c + 1)), some (.inl (ω.1 101 c.toInt.toNat)), some (.inl (ω.1 106 (t1 - (1 : Int32)).toInt.toNat)), some (.inl (ω.1 106 t1.toInt.toNat))] [] (xpi ω 106 (t1 - (1 : Int32)).toInt.toNat ((ω.1 106 (t1 - (1 : Int32)).toInt.toNat) - (ω.1 106 t1.toInt.toNat))) r μ' := h
              obtain ⟨n2, hn2, h⟩ := tx_gotoS (t := 5) h em232_162 (by decide)
              exfalso
              omega
          · replace c114_1 : ¬ ¬ (ω.1 101 c.toInt.toNat).toInt = 2 := c114_1
            replace h := tx_iload (p' := 119) h em232_117 rfl rfl
            replace h := tx_iload (p' := 121) h em232_119 rfl rfl
            replace h := tx_iadd (p' := 122) h em232_121 rfl
            replace h := tx_goto (t := 158) h em232_122 (by decide)
            obtain ⟨hb158_7, h⟩ := tx_iast (len := 400) (p' := 159) h em232_158 rfl rfl
            replace hb158_7 : (0 : Int) ≤ (t1 - (1 : Int32)).toInt ∧ (t1 - (1 : Int32)).toInt < 400 := hb158_7
            replace h := tx_iinc (v := 1) (p' := 162) h em232_159 (by decide +kernel) rfl rfl
            replace h : eT xq_232 _ 162 [some (.inr (.inl (some 75))), some (.inl f), some (.inl y), some (.inl t1), some (.inl (c + 1)), some (.inl (ω.1 101 c.toInt.toNat)), some (.inl (ω.1 106 (t1 - (1 : Int32)).toInt.toNat)), some (.inl (ω.1 106 t1.toInt.toNat))] [] (xpi ω 106 (t1 - (1 : Int32)).toInt.toNat ((ω.1 106 (t1 - (1 : Int32)).toInt.toNat) + (ω.1 106 t1.toInt.toNat))) r μ' := h
            obtain ⟨n2, hn2, h⟩ := tx_gotoS (t := 5) h em232_162 (by decide)
            rw [et2, et1] at h
            exact ⟨_, _, _, _, t1, et1, h⟩
        · replace c94 : ¬ ¬ (ω.1 106 t1.toInt.toNat).toInt = 0 := c94
          replace h := tx_aload_n (p' := 98) h em232_97 rfl rfl
          replace h := tx_iconst (v := 1) (p' := 99) h em232_98 (by decide +kernel) rfl
          replace h := tx_putf (a := 75) (c := 12) (j := 58) (p' := 102) h em232_99 ((congrFun xo_12 320).trans rfl) rfl
          replace h := tx_iconst (v := 0) (p' := 103) h em232_102 (by decide +kernel) rfl
          obtain ⟨rfl, hμ⟩ := tx_ireturn h em232_103
          exfalso
          omega
    · replace c23 : ¬ 2 ≤ (ω.1 101 c.toInt.toNat).toInt := c23
      replace h := tx_aload_n (p' := 27) h em232_26 rfl rfl
      replace h := tx_getc (c := 12) (j := 57) (p' := 30) h em232_27 ((congrFun xo_12 110).trans rfl) rfl rfl rfl
      replace h := tx_iload_n (p' := 31) h em232_30 rfl rfl
      replace h := tx_iload (p' := 33) h em232_31 rfl rfl
      rcases tx_if (t := 46) (p' := 36) h em232_33 (by decide) rfl with ⟨c33, h⟩ | ⟨c33, h⟩
      · replace c33 : ¬ (ω.1 101 c.toInt.toNat).toInt = 0 := c33
        replace h := tx_aload_n (p' := 47) h em232_46 rfl rfl
        replace h := tx_getc (c := 12) (j := 56) (p' := 50) h em232_47 ((congrFun xo_12 107).trans rfl) rfl rfl rfl
        replace h := tx_aload_n (p' := 51) h em232_50 rfl rfl
        replace h := tx_getc (c := 12) (j := 51) (p' := 54) h em232_51 ((congrFun xo_12 98).trans rfl) rfl rfl rfl
        replace h := tx_iload (p' := 56) h em232_54 rfl rfl
        obtain ⟨hb56, h⟩ := tx_iald (len := 840) (p' := 57) h em232_56 rfl rfl
        replace hb56 : (0 : Int) ≤ c.toInt ∧ c.toInt < 840 := hb56
        obtain ⟨hb57, h⟩ := tx_iald (len := 9) (p' := 58) h em232_57 rfl rfl
        replace hb57 : (0 : Int) ≤ (ω.1 102 c.toInt.toNat).toInt ∧ (ω.1 102 c.toInt.toNat).toInt < 9 := hb57
        obtain ⟨hb58, h⟩ := tx_iast (len := 400) (p' := 59) h em232_58 rfl rfl
        replace hb58 : (0 : Int) ≤ t.toInt ∧ t.toInt < 400 := hb58
        replace h := tx_iinc (v := 1) (p' := 62) h em232_59 (by decide +kernel) rfl rfl
        replace h : eT xq_232 _ 62 [some (.inr (.inl (some 75))), some (.inl f), some (.inl y), some (.inl (t + 1)), some (.inl c), some (.inl (ω.1 101 c.toInt.toNat)), o6, o7] [] (xpi ω 106 t.toInt.toNat (ω.1 105 (ω.1 102 c.toInt.toNat).toInt.toNat)) r μ' := h
        replace h := tx_goto (t := 159) h em232_62 (by decide)
        replace h := tx_iinc (v := 1) (p' := 162) h em232_159 (by decide +kernel) rfl rfl
        replace h : eT xq_232 _ 162 [some (.inr (.inl (some 75))), some (.inl f), some (.inl y), some (.inl (t + 1)), some (.inl (c + 1)), some (.inl (ω.1 101 c.toInt.toNat)), o6, o7] [] (xpi ω 106 t.toInt.toNat (ω.1 105 (ω.1 102 c.toInt.toNat).toInt.toNat)) r μ' := h
        obtain ⟨n2, hn2, h⟩ := tx_gotoS (t := 5) h em232_162 (by decide)
        exfalso
        omega
      · replace c33 : ¬ ¬ (ω.1 101 c.toInt.toNat).toInt = 0 := c33
        replace h := tx_aload_n (p' := 37) h em232_36 rfl rfl
        replace h := tx_getc (c := 12) (j := 51) (p' := 40) h em232_37 ((congrFun xo_12 98).trans rfl) rfl rfl rfl
        replace h := tx_iload (p' := 42) h em232_40 rfl rfl
        obtain ⟨hb42, h⟩ := tx_iald (len := 840) (p' := 43) h em232_42 rfl rfl
        replace hb42 : (0 : Int) ≤ c.toInt ∧ c.toInt < 840 := hb42
        replace h := tx_goto (t := 58) h em232_43 (by decide)
        obtain ⟨hb58_1, h⟩ := tx_iast (len := 400) (p' := 59) h em232_58 rfl rfl
        replace hb58_1 : (0 : Int) ≤ t.toInt ∧ t.toInt < 400 := hb58_1
        replace h := tx_iinc (v := 1) (p' := 62) h em232_59 (by decide +kernel) rfl rfl
        replace h : eT xq_232 _ 62 [some (.inr (.inl (some 75))), some (.inl f), some (.inl y), some (.inl (t + 1)), some (.inl c), some (.inl (ω.1 101 c.toInt.toNat)), o6, o7] [] (xpi ω 106 t.toInt.toNat (ω.1 102 c.toInt.toNat)) r μ' := h
        replace h := tx_goto (t := 159) h em232_62 (by decide)
        replace h := tx_iinc (v := 1) (p' := 162) h em232_159 (by decide +kernel) rfl rfl
        replace h : eT xq_232 _ 162 [some (.inr (.inl (some 75))), some (.inl f), some (.inl y), some (.inl (t + 1)), some (.inl (c + 1)), some (.inl (ω.1 101 c.toInt.toNat)), o6, o7] [] (xpi ω 106 t.toInt.toNat (ω.1 102 c.toInt.toNat)) r μ' := h
        obtain ⟨n2, hn2, h⟩ := tx_gotoS (t := 5) h em232_162 (by decide)
        exfalso
        omega
set_option maxRecDepth 10000 in
set_option maxHeartbeats 4000000 in
theorem tr_op3 {n : Nat} {f y t c : Int32} {o5 o6 o7 : Option zV} {ω μ' : xM} {r : Option zV} (h : eT xq_232 n 5 [some (.inr (.inl (some 75))), some (.inl f), some (.inl y), some (.inl t), some (.inl c), o5, o6, o7] [] ω r μ') (hc : c.toInt < y.toInt) (ht0 : 0 ≤ t.toInt) (ht4 : t.toInt ≤ 1000) (ho : (ω.1 101 c.toInt.toNat).toInt = 3) (hf : 2 ≤ t.toInt) : ∃ n' o5' o6' o7' t1, t1.toInt = t.toInt - 1 ∧ eT xq_232 n' 5 [some (.inr (.inl (some 75))), some (.inl f), some (.inl y), some (.inl t1), some (.inl (c + 1)), o5', o6', o7'] [] (xpi ω 106 (t.toInt - 2).toNat ((ω.1 106 (t.toInt - 2).toNat) - (ω.1 106 (t.toInt - 1).toNat))) r μ' := by
  have e1i : (1 : Int32).toInt = 1 := by decide
  replace h := tx_iload (p' := 7) h em232_5 rfl rfl
  replace h := tx_iload_n (p' := 8) h em232_7 rfl rfl
  rcases tx_icmp (t := 165) (p' := 11) h em232_8 (by decide) rfl with ⟨c8, h⟩ | ⟨c8, h⟩
  · replace c8 : y.toInt ≤ c.toInt := c8
    replace h := tx_aload_n (p' := 166) h em232_165 rfl rfl
    replace h := tx_getc (c := 12) (j := 57) (p' := 169) h em232_166 ((congrFun xo_12 110).trans rfl) rfl rfl rfl
    replace h := tx_iconst (v := 0) (p' := 170) h em232_169 (by decide +kernel) rfl
    obtain ⟨hb170, h⟩ := tx_iald (len := 400) (p' := 171) h em232_170 rfl rfl
    replace hb170 : (0 : Int) ≤ 0 ∧ (0 : Int) < 400 := hb170
    replace h : eT xq_232 _ 171 [some (.inr (.inl (some 75))), some (.inl f), some (.inl y), some (.inl t), some (.inl c), o5, o6, o7] [.inl (ω.1 106 0)] ω r μ' := h
    obtain ⟨rfl, hμ⟩ := tx_ireturn h em232_171
    exfalso
    omega
  · replace c8 : ¬ y.toInt ≤ c.toInt := c8
    replace h := tx_aload_n (p' := 12) h em232_11 rfl rfl
    replace h := tx_getc (c := 12) (j := 50) (p' := 15) h em232_12 ((congrFun xo_12 95).trans rfl) rfl rfl rfl
    replace h := tx_iload (p' := 17) h em232_15 rfl rfl
    obtain ⟨hb17, h⟩ := tx_iald (len := 840) (p' := 18) h em232_17 rfl rfl
    replace hb17 : (0 : Int) ≤ c.toInt ∧ c.toInt < 840 := hb17
    replace h := tx_istore (p' := 20) h em232_18 rfl
    replace h : eT xq_232 _ 20 [some (.inr (.inl (some 75))), some (.inl f), some (.inl y), some (.inl t), some (.inl c), some (.inl (ω.1 101 c.toInt.toNat)), o6, o7] [] ω r μ' := h
    replace h := tx_iload (p' := 22) h em232_20 rfl rfl
    replace h := tx_iconst (v := 2) (p' := 23) h em232_22 (by decide +kernel) rfl
    rcases tx_icmp (t := 65) (p' := 26) h em232_23 (by decide) rfl with ⟨c23, h⟩ | ⟨c23, h⟩
    · replace c23 : 2 ≤ (ω.1 101 c.toInt.toNat).toInt := c23
      replace h := tx_iinc (v := (-1)) (p' := 68) h em232_65 (by decide +kernel) rfl rfl
      replace h : eT xq_232 _ 68 [some (.inr (.inl (some 75))), some (.inl f), some (.inl y), some (.inl (t + (-1))), some (.inl c), some (.inl (ω.1 101 c.toInt.toNat)), o6, o7] [] ω r μ' := h
      have et1 : (t + -1).toInt = t.toInt - 1 := ka1 (by omega)
      obtain ⟨t1, ht1⟩ : ∃ z, z = t + -1 := ⟨_, rfl⟩
      rw [← ht1] at et1 h
      clear ht1
      have et2 : (t1 - (1 : Int32)).toInt = t.toInt - 2 := by rw [an_sub (by rw [e1i]; omega) (by rw [e1i]; omega), e1i]; omega
      replace h := tx_aload_n (p' := 69) h em232_68 rfl rfl
      replace h := tx_getc (c := 12) (j := 57) (p' := 72) h em232_69 ((congrFun xo_12 110).trans rfl) rfl rfl rfl
      replace h := tx_iload_n (p' := 73) h em232_72 rfl rfl
      replace h := tx_iconst (v := 1) (p' := 74) h em232_73 (by decide +kernel) rfl
      replace h := tx_isub (p' := 75) h em232_74 rfl
      obtain ⟨hb75, h⟩ := tx_iald (len := 400) (p' := 76) h em232_75 rfl rfl
      replace hb75 : (0 : Int) ≤ (t1 - (1 : Int32)).toInt ∧ (t1 - (1 : Int32)).toInt < 400 := hb75
      replace h := tx_istore (p' := 78) h em232_76 rfl
      replace h : eT xq_232 _ 78 [some (.inr (.inl (some 75))), some (.inl f), some (.inl y), some (.inl t1), some (.inl c), some (.inl (ω.1 101 c.toInt.toNat)), some (.inl (ω.1 106 (t1 - (1 : Int32)).toInt.toNat)), o7] [] ω r μ' := h
      replace h := tx_aload_n (p' := 79) h em232_78 rfl rfl
      replace h := tx_getc (c := 12) (j := 57) (p' := 82) h em232_79 ((congrFun xo_12 110).trans rfl) rfl rfl rfl
      replace h := tx_iload_n (p' := 83) h em232_82 rfl rfl
      obtain ⟨hb83, h⟩ := tx_iald (len := 400) (p' := 84) h em232_83 rfl rfl
      replace hb83 : (0 : Int) ≤ t1.toInt ∧ t1.toInt < 400 := hb83
      replace h := tx_istore (p' := 86) h em232_84 rfl
      replace h : eT xq_232 _ 86 [some (.inr (.inl (some 75))), some (.inl f), some (.inl y), some (.inl t1), some (.inl c), some (.inl (ω.1 101 c.toInt.toNat)), some (.inl (ω.1 106 (t1 - (1 : Int32)).toInt.toNat)), some (.inl (ω.1 106 t1.toInt.toNat))] [] ω r μ' := h
      replace h := tx_iload (p' := 88) h em232_86 rfl rfl
      replace h := tx_iconst (v := 5) (p' := 89) h em232_88 (by decide +kernel) rfl
      rcases tx_icmp (t := 104) (p' := 92) h em232_89 (by decide) rfl with ⟨c89, h⟩ | ⟨c89, h⟩
      · replace c89 : ¬ (ω.1 101 c.toInt.toNat).toInt = 5 := c89
        replace h := tx_aload_n (p' := 105) h em232_104 rfl rfl
        replace h := tx_getc (c := 12) (j := 57) (p' := 108) h em232_105 ((congrFun xo_12 110).trans rfl) rfl rfl rfl
        replace h := tx_iload_n (p' := 109) h em232_108 rfl rfl
        replace h := tx_iconst (v := 1) (p' := 110) h em232_109 (by decide +kernel) rfl
        replace h := tx_isub (p' := 111) h em232_110 rfl
        replace h := tx_iload (p' := 113) h em232_111 rfl rfl
        replace h := tx_iconst (v := 2) (p' := 114) h em232_113 (by decide +kernel) rfl
        rcases tx_icmp (t := 125) (p' := 117) h em232_114 (by decide) rfl with ⟨c114, h⟩ | ⟨c114, h⟩
        · replace c114 : ¬ (ω.1 101 c.toInt.toNat).toInt = 2 := c114
          replace h := tx_iload (p' := 127) h em232_125 rfl rfl
          replace h := tx_iconst (v := 3) (p' := 128) h em232_127 (by decide +kernel) rfl
          rcases tx_icmp (t := 139) (p' := 131) h em232_128 (by decide) rfl with ⟨c128, h⟩ | ⟨c128, h⟩
          · replace c128 : ¬ (ω.1 101 c.toInt.toNat).toInt = 3 := c128
            replace h := tx_iload (p' := 141) h em232_139 rfl rfl
            replace h := tx_iconst (v := 4) (p' := 142) h em232_141 (by decide +kernel) rfl
            rcases tx_icmp (t := 153) (p' := 145) h em232_142 (by decide) rfl with ⟨c142, h⟩ | ⟨c142, h⟩
            · replace c142 : ¬ (ω.1 101 c.toInt.toNat).toInt = 4 := c142
              replace h := tx_iload (p' := 155) h em232_153 rfl rfl
              replace h := tx_iload (p' := 157) h em232_155 rfl rfl
              obtain ⟨hz157, h⟩ := tx_idiv (p' := 158) h em232_157 rfl
              obtain ⟨hb158, h⟩ := tx_iast (len := 400) (p' := 159) h em232_158 rfl rfl
              replace hb158 : (0 : Int) ≤ (t1 - (1 : Int32)).toInt ∧ (t1 - (1 : Int32)).toInt < 400 := hb158
              replace h := tx_iinc (v := 1) (p' := 162) h em232_159 (by decide +kernel) rfl rfl
              replace h : eT xq_232 _ 162 [some (.inr (.inl (some 75))), some (.inl f), some (.inl y), some (.inl t1), some (.inl (c + 1)), some (.inl (ω.1 101 c.toInt.toNat)), some (.inl (ω.1 106 (t1 - (1 : Int32)).toInt.toNat)), some (.inl (ω.1 106 t1.toInt.toNat))] [] (xpi ω 106 (t1 - (1 : Int32)).toInt.toNat ((ω.1 106 (t1 - (1 : Int32)).toInt.toNat) / (ω.1 106 t1.toInt.toNat))) r μ' := h
              obtain ⟨n2, hn2, h⟩ := tx_gotoS (t := 5) h em232_162 (by decide)
              exfalso
              omega
            · replace c142 : ¬ ¬ (ω.1 101 c.toInt.toNat).toInt = 4 := c142
              replace h := tx_iload (p' := 147) h em232_145 rfl rfl
              replace h := tx_iload (p' := 149) h em232_147 rfl rfl
              replace h := tx_imul (p' := 150) h em232_149 rfl
              replace h := tx_goto (t := 158) h em232_150 (by decide)
              obtain ⟨hb158_1, h⟩ := tx_iast (len := 400) (p' := 159) h em232_158 rfl rfl
              replace hb158_1 : (0 : Int) ≤ (t1 - (1 : Int32)).toInt ∧ (t1 - (1 : Int32)).toInt < 400 := hb158_1
              replace h := tx_iinc (v := 1) (p' := 162) h em232_159 (by decide +kernel) rfl rfl
              replace h : eT xq_232 _ 162 [some (.inr (.inl (some 75))), some (.inl f), some (.inl y), some (.inl t1), some (.inl (c + 1)), some (.inl (ω.1 101 c.toInt.toNat)), some (.inl (ω.1 106 (t1 - (1 : Int32)).toInt.toNat)), some (.inl (ω.1 106 t1.toInt.toNat))] [] (xpi ω 106 (t1 - (1 : Int32)).toInt.toNat ((ω.1 106 (t1 - (1 : Int32)).toInt.toNat) * (ω.1 106 t1.toInt.toNat))) r μ' := h
              obtain ⟨n2, hn2, h⟩ := tx_gotoS (t := 5) h em232_162 (by decide)
              exfalso
              omega
          · replace c128 : ¬ ¬ (ω.1 101 c.toInt.toNat).toInt = 3 := c128
            replace h := tx_iload (p' := 133) h em232_131 rfl rfl
            replace h := tx_iload (p' := 135) h em232_133 rfl rfl
            replace h := tx_isub (p' := 136) h em232_135 rfl
            replace h := tx_goto (t := 158) h em232_136 (by decide)
            obtain ⟨hb158_2, h⟩ := tx_iast (len := 400) (p' := 159) h em232_158 rfl rfl
            replace hb158_2 : (0 : Int) ≤ (t1 - (1 : Int32)).toInt ∧ (t1 - (1 : Int32)).toInt < 400 := hb158_2
            replace h := tx_iinc (v := 1) (p' := 162) h em232_159 (by decide +kernel) rfl rfl
            replace h : eT xq_232 _ 162 [some (.inr (.inl (some 75))), some (.inl f), some (.inl y), some (.inl t1), some (.inl (c + 1)), some (.inl (ω.1 101 c.toInt.toNat)), some (.inl (ω.1 106 (t1 - (1 : Int32)).toInt.toNat)), some (.inl (ω.1 106 t1.toInt.toNat))] [] (xpi ω 106 (t1 - (1 : Int32)).toInt.toNat ((ω.1 106 (t1 - (1 : Int32)).toInt.toNat) - (ω.1 106 t1.toInt.toNat))) r μ' := h
            obtain ⟨n2, hn2, h⟩ := tx_gotoS (t := 5) h em232_162 (by decide)
            rw [et2, et1] at h
            exact ⟨_, _, _, _, t1, et1, h⟩
        · replace c114 : ¬ ¬ (ω.1 101 c.toInt.toNat).toInt = 2 := c114
          replace h := tx_iload (p' := 119) h em232_117 rfl rfl
          replace h := tx_iload (p' := 121) h em232_119 rfl rfl
          replace h := tx_iadd (p' := 122) h em232_121 rfl
          replace h := tx_goto (t := 158) h em232_122 (by decide)
          obtain ⟨hb158_3, h⟩ := tx_iast (len := 400) (p' := 159) h em232_158 rfl rfl
          replace hb158_3 : (0 : Int) ≤ (t1 - (1 : Int32)).toInt ∧ (t1 - (1 : Int32)).toInt < 400 := hb158_3
          replace h := tx_iinc (v := 1) (p' := 162) h em232_159 (by decide +kernel) rfl rfl
          replace h : eT xq_232 _ 162 [some (.inr (.inl (some 75))), some (.inl f), some (.inl y), some (.inl t1), some (.inl (c + 1)), some (.inl (ω.1 101 c.toInt.toNat)), some (.inl (ω.1 106 (t1 - (1 : Int32)).toInt.toNat)), some (.inl (ω.1 106 t1.toInt.toNat))] [] (xpi ω 106 (t1 - (1 : Int32)).toInt.toNat ((ω.1 106 (t1 - (1 : Int32)).toInt.toNat) + (ω.1 106 t1.toInt.toNat))) r μ' := h
          obtain ⟨n2, hn2, h⟩ := tx_gotoS (t := 5) h em232_162 (by decide)
          exfalso
          omega
      · replace c89 : ¬ ¬ (ω.1 101 c.toInt.toNat).toInt = 5 := c89
        replace h := tx_iload (p' := 94) h em232_92 rfl rfl
        rcases tx_if (t := 104) (p' := 97) h em232_94 (by decide) rfl with ⟨c94, h⟩ | ⟨c94, h⟩
        · replace c94 : ¬ (ω.1 106 t1.toInt.toNat).toInt = 0 := c94
          replace h := tx_aload_n (p' := 105) h em232_104 rfl rfl
          replace h := tx_getc (c := 12) (j := 57) (p' := 108) h em232_105 ((congrFun xo_12 110).trans rfl) rfl rfl rfl
          replace h := tx_iload_n (p' := 109) h em232_108 rfl rfl
          replace h := tx_iconst (v := 1) (p' := 110) h em232_109 (by decide +kernel) rfl
          replace h := tx_isub (p' := 111) h em232_110 rfl
          replace h := tx_iload (p' := 113) h em232_111 rfl rfl
          replace h := tx_iconst (v := 2) (p' := 114) h em232_113 (by decide +kernel) rfl
          rcases tx_icmp (t := 125) (p' := 117) h em232_114 (by decide) rfl with ⟨c114_1, h⟩ | ⟨c114_1, h⟩
          · replace c114_1 : ¬ (ω.1 101 c.toInt.toNat).toInt = 2 := c114_1
            replace h := tx_iload (p' := 127) h em232_125 rfl rfl
            replace h := tx_iconst (v := 3) (p' := 128) h em232_127 (by decide +kernel) rfl
            rcases tx_icmp (t := 139) (p' := 131) h em232_128 (by decide) rfl with ⟨c128_1, h⟩ | ⟨c128_1, h⟩
            · replace c128_1 : ¬ (ω.1 101 c.toInt.toNat).toInt = 3 := c128_1
              replace h := tx_iload (p' := 141) h em232_139 rfl rfl
              replace h := tx_iconst (v := 4) (p' := 142) h em232_141 (by decide +kernel) rfl
              rcases tx_icmp (t := 153) (p' := 145) h em232_142 (by decide) rfl with ⟨c142_1, h⟩ | ⟨c142_1, h⟩
              · replace c142_1 : ¬ (ω.1 101 c.toInt.toNat).toInt = 4 := c142_1
                replace h := tx_iload (p' := 155) h em232_153 rfl rfl
                replace h := tx_iload (p' := 157) h em232_155 rfl rfl
                obtain ⟨hz157_1, h⟩ := tx_idiv (p' := 158) h em232_157 rfl
                obtain ⟨hb158_4, h⟩ := tx_iast (len := 400) (p' := 159) h em232_158 rfl rfl
                replace hb158_4 : (0 : Int) ≤ (t1 - (1 : Int32)).toInt ∧ (t1 - (1 : Int32)).toInt < 400 := hb158_4
                replace h := tx_iinc (v := 1) (p' := 162) h em232_159 (by decide +kernel) rfl rfl
                replace h : eT xq_232 _ 162 [some (.inr (.inl (some 75))), some (.inl f), some (.inl y), some (.inl t1), some (.inl (c + 1)), some (.inl (ω.1 101 c.toInt.toNat)), some (.inl (ω.1 106 (t1 - (1 : Int32)).toInt.toNat)), some (.inl (ω.1 106 t1.toInt.toNat))] [] (xpi ω 106 (t1 - (1 : Int32)).toInt.toNat ((ω.1 106 (t1 - (1 : Int32)).toInt.toNat) / (ω.1 106 t1.toInt.toNat))) r μ' := h
                obtain ⟨n2, hn2, h⟩ := tx_gotoS (t := 5) h em232_162 (by decide)
                exfalso
                omega
              · replace c142_1 : ¬ ¬ (ω.1 101 c.toInt.toNat).toInt = 4 := c142_1
                replace h := tx_iload (p' := 147) h em232_145 rfl rfl
                replace h := tx_iload (p' := 149) h em232_147 rfl rfl
                replace h := tx_imul (p' := 150) h em232_149 rfl
                replace h := tx_goto (t := 158) h em232_150 (by decide)
                obtain ⟨hb158_5, h⟩ := tx_iast (len := 400) (p' := 159) h em232_158 rfl rfl
                replace hb158_5 : (0 : Int) ≤ (t1 - (1 : Int32)).toInt ∧ (t1 - (1 : Int32)).toInt < 400 := hb158_5
                replace h := tx_iinc (v := 1) (p' := 162) h em232_159 (by decide +kernel) rfl rfl
                replace h : eT xq_232 _ 162 [some (.inr (.inl (some 75))), some (.inl f), some (.inl y), some (.inl t1), some (.inl (c + 1)), some (.inl (ω.1 101 c.toInt.toNat)), some (.inl (ω.1 106 (t1 - (1 : Int32)).toInt.toNat)), some (.inl (ω.1 106 t1.toInt.toNat))] [] (xpi ω 106 (t1 - (1 : Int32)).toInt.toNat ((ω.1 106 (t1 - (1 : Int32)).toInt.toNat) * (ω.1 106 t1.toInt.toNat))) r μ' := h
                obtain ⟨n2, hn2, h⟩ := tx_gotoS (t := 5) h em232_162 (by decide)
                exfalso
                omega
            · replace c128_1 : ¬ ¬ (ω.1 101 c.toInt.toNat).toInt = 3 := c128_1
              replace h := tx_iload (p' := 133) h em232_131 rfl rfl
              replace h := tx_iload (p' := 135) h em232_133 rfl rfl
              replace h := tx_isub (p' := 136) h em232_135 rfl
              replace h := tx_goto (t := 158) h em232_136 (by decide)
              obtain ⟨hb158_6, h⟩ := tx_iast (len := 400) (p' := 159) h em232_158 rfl rfl
              replace hb158_6 : (0 : Int) ≤ (t1 - (1 : Int32)).toInt ∧ (t1 - (1 : Int32)).toInt < 400 := hb158_6
              replace h := tx_iinc (v := 1) (p' := 162) h em232_159 (by decide +kernel) rfl rfl
              replace h : eT xq_232 _ 162 [some (.inr (.inl (some 75))), some (.inl f), some (.inl y), some (.inl t1), some (.inl (c + 1)), some (.inl (ω.1 101 c.toInt.toNat)), some (.inl (ω.1 106 (t1 - (1 : Int32)).toInt.toNat)), some (.inl (ω.1 106 t1.toInt.toNat))] [] (xpi ω 106 (t1 - (1 : Int32)).toInt.toNat ((ω.1 106 (t1 - (1 : Int32)).toInt.toNat) - (ω.1 106 t1.toInt.toNat))) r μ' := h
              obtain ⟨n2, hn2, h⟩ := tx_gotoS (t := 5) h em232_162 (by decide)
              rw [et2, et1] at h
              exact ⟨_, _, _, _, t1, et1, h⟩
          · replace c114_1 : ¬ ¬ (ω.1 101 c.toInt.toNat).toInt = 2 := c114_1
            replace h := tx_iload (p' := 119) h em232_117 rfl rfl
            replace h := tx_iload (p' := 121) h em232_119 rfl rfl
            replace h := tx_iadd (p' := 122) h em232_121 rfl
            replace h := tx_goto (t := 158) h em232_122 (by decide)
            obtain ⟨hb158_7, h⟩ := tx_iast (len := 400) (p' := 159) h em232_158 rfl rfl
            replace hb158_7 : (0 : Int) ≤ (t1 - (1 : Int32)).toInt ∧ (t1 - (1 : Int32)).toInt < 400 := hb158_7
            replace h := tx_iinc (v := 1) (p' := 162) h em232_159 (by decide +kernel) rfl rfl
            replace h : eT xq_232 _ 162 [some (.inr (.inl (some 75))), some (.inl f), some (.inl y), some (.inl t1), some (.inl (c + 1)), some (.inl (ω.1 101 c.toInt.toNat)), some (.inl (ω.1 106 (t1 - (1 : Int32)).toInt.toNat)), some (.inl (ω.1 106 t1.toInt.toNat))] [] (xpi ω 106 (t1 - (1 : Int32)).toInt.toNat ((ω.1 106 (t1 - (1 : Int32)).toInt.toNat) + (ω.1 106 t1.toInt.toNat))) r μ' := h
            obtain ⟨n2, hn2, h⟩ := tx_gotoS (t := 5) h em232_162 (by decide)
            exfalso
            omega
        · replace c94 : ¬ ¬ (ω.1 106 t1.toInt.toNat).toInt = 0 := c94
          replace h := tx_aload_n (p' := 98) h em232_97 rfl rfl
          replace h := tx_iconst (v := 1) (p' := 99) h em232_98 (by decide +kernel) rfl
          replace h := tx_putf (a := 75) (c := 12) (j := 58) (p' := 102) h em232_99 ((congrFun xo_12 320).trans rfl) rfl
          replace h := tx_iconst (v := 0) (p' := 103) h em232_102 (by decide +kernel) rfl
          obtain ⟨rfl, hμ⟩ := tx_ireturn h em232_103
          exfalso
          omega
    · replace c23 : ¬ 2 ≤ (ω.1 101 c.toInt.toNat).toInt := c23
      replace h := tx_aload_n (p' := 27) h em232_26 rfl rfl
      replace h := tx_getc (c := 12) (j := 57) (p' := 30) h em232_27 ((congrFun xo_12 110).trans rfl) rfl rfl rfl
      replace h := tx_iload_n (p' := 31) h em232_30 rfl rfl
      replace h := tx_iload (p' := 33) h em232_31 rfl rfl
      rcases tx_if (t := 46) (p' := 36) h em232_33 (by decide) rfl with ⟨c33, h⟩ | ⟨c33, h⟩
      · replace c33 : ¬ (ω.1 101 c.toInt.toNat).toInt = 0 := c33
        replace h := tx_aload_n (p' := 47) h em232_46 rfl rfl
        replace h := tx_getc (c := 12) (j := 56) (p' := 50) h em232_47 ((congrFun xo_12 107).trans rfl) rfl rfl rfl
        replace h := tx_aload_n (p' := 51) h em232_50 rfl rfl
        replace h := tx_getc (c := 12) (j := 51) (p' := 54) h em232_51 ((congrFun xo_12 98).trans rfl) rfl rfl rfl
        replace h := tx_iload (p' := 56) h em232_54 rfl rfl
        obtain ⟨hb56, h⟩ := tx_iald (len := 840) (p' := 57) h em232_56 rfl rfl
        replace hb56 : (0 : Int) ≤ c.toInt ∧ c.toInt < 840 := hb56
        obtain ⟨hb57, h⟩ := tx_iald (len := 9) (p' := 58) h em232_57 rfl rfl
        replace hb57 : (0 : Int) ≤ (ω.1 102 c.toInt.toNat).toInt ∧ (ω.1 102 c.toInt.toNat).toInt < 9 := hb57
        obtain ⟨hb58, h⟩ := tx_iast (len := 400) (p' := 59) h em232_58 rfl rfl
        replace hb58 : (0 : Int) ≤ t.toInt ∧ t.toInt < 400 := hb58
        replace h := tx_iinc (v := 1) (p' := 62) h em232_59 (by decide +kernel) rfl rfl
        replace h : eT xq_232 _ 62 [some (.inr (.inl (some 75))), some (.inl f), some (.inl y), some (.inl (t + 1)), some (.inl c), some (.inl (ω.1 101 c.toInt.toNat)), o6, o7] [] (xpi ω 106 t.toInt.toNat (ω.1 105 (ω.1 102 c.toInt.toNat).toInt.toNat)) r μ' := h
        replace h := tx_goto (t := 159) h em232_62 (by decide)
        replace h := tx_iinc (v := 1) (p' := 162) h em232_159 (by decide +kernel) rfl rfl
        replace h : eT xq_232 _ 162 [some (.inr (.inl (some 75))), some (.inl f), some (.inl y), some (.inl (t + 1)), some (.inl (c + 1)), some (.inl (ω.1 101 c.toInt.toNat)), o6, o7] [] (xpi ω 106 t.toInt.toNat (ω.1 105 (ω.1 102 c.toInt.toNat).toInt.toNat)) r μ' := h
        obtain ⟨n2, hn2, h⟩ := tx_gotoS (t := 5) h em232_162 (by decide)
        exfalso
        omega
      · replace c33 : ¬ ¬ (ω.1 101 c.toInt.toNat).toInt = 0 := c33
        replace h := tx_aload_n (p' := 37) h em232_36 rfl rfl
        replace h := tx_getc (c := 12) (j := 51) (p' := 40) h em232_37 ((congrFun xo_12 98).trans rfl) rfl rfl rfl
        replace h := tx_iload (p' := 42) h em232_40 rfl rfl
        obtain ⟨hb42, h⟩ := tx_iald (len := 840) (p' := 43) h em232_42 rfl rfl
        replace hb42 : (0 : Int) ≤ c.toInt ∧ c.toInt < 840 := hb42
        replace h := tx_goto (t := 58) h em232_43 (by decide)
        obtain ⟨hb58_1, h⟩ := tx_iast (len := 400) (p' := 59) h em232_58 rfl rfl
        replace hb58_1 : (0 : Int) ≤ t.toInt ∧ t.toInt < 400 := hb58_1
        replace h := tx_iinc (v := 1) (p' := 62) h em232_59 (by decide +kernel) rfl rfl
        replace h : eT xq_232 _ 62 [some (.inr (.inl (some 75))), some (.inl f), some (.inl y), some (.inl (t + 1)), some (.inl c), some (.inl (ω.1 101 c.toInt.toNat)), o6, o7] [] (xpi ω 106 t.toInt.toNat (ω.1 102 c.toInt.toNat)) r μ' := h
        replace h := tx_goto (t := 159) h em232_62 (by decide)
        replace h := tx_iinc (v := 1) (p' := 162) h em232_159 (by decide +kernel) rfl rfl
        replace h : eT xq_232 _ 162 [some (.inr (.inl (some 75))), some (.inl f), some (.inl y), some (.inl (t + 1)), some (.inl (c + 1)), some (.inl (ω.1 101 c.toInt.toNat)), o6, o7] [] (xpi ω 106 t.toInt.toNat (ω.1 102 c.toInt.toNat)) r μ' := h
        obtain ⟨n2, hn2, h⟩ := tx_gotoS (t := 5) h em232_162 (by decide)
        exfalso
        omega
set_option maxRecDepth 10000 in
set_option maxHeartbeats 4000000 in
theorem tr_op4 {n : Nat} {f y t c : Int32} {o5 o6 o7 : Option zV} {ω μ' : xM} {r : Option zV} (h : eT xq_232 n 5 [some (.inr (.inl (some 75))), some (.inl f), some (.inl y), some (.inl t), some (.inl c), o5, o6, o7] [] ω r μ') (hc : c.toInt < y.toInt) (ht0 : 0 ≤ t.toInt) (ht4 : t.toInt ≤ 1000) (ho : (ω.1 101 c.toInt.toNat).toInt = 4) (hf : 2 ≤ t.toInt) : ∃ n' o5' o6' o7' t1, t1.toInt = t.toInt - 1 ∧ eT xq_232 n' 5 [some (.inr (.inl (some 75))), some (.inl f), some (.inl y), some (.inl t1), some (.inl (c + 1)), o5', o6', o7'] [] (xpi ω 106 (t.toInt - 2).toNat ((ω.1 106 (t.toInt - 2).toNat) * (ω.1 106 (t.toInt - 1).toNat))) r μ' := by
  have e1i : (1 : Int32).toInt = 1 := by decide
  replace h := tx_iload (p' := 7) h em232_5 rfl rfl
  replace h := tx_iload_n (p' := 8) h em232_7 rfl rfl
  rcases tx_icmp (t := 165) (p' := 11) h em232_8 (by decide) rfl with ⟨c8, h⟩ | ⟨c8, h⟩
  · replace c8 : y.toInt ≤ c.toInt := c8
    replace h := tx_aload_n (p' := 166) h em232_165 rfl rfl
    replace h := tx_getc (c := 12) (j := 57) (p' := 169) h em232_166 ((congrFun xo_12 110).trans rfl) rfl rfl rfl
    replace h := tx_iconst (v := 0) (p' := 170) h em232_169 (by decide +kernel) rfl
    obtain ⟨hb170, h⟩ := tx_iald (len := 400) (p' := 171) h em232_170 rfl rfl
    replace hb170 : (0 : Int) ≤ 0 ∧ (0 : Int) < 400 := hb170
    replace h : eT xq_232 _ 171 [some (.inr (.inl (some 75))), some (.inl f), some (.inl y), some (.inl t), some (.inl c), o5, o6, o7] [.inl (ω.1 106 0)] ω r μ' := h
    obtain ⟨rfl, hμ⟩ := tx_ireturn h em232_171
    exfalso
    omega
  · replace c8 : ¬ y.toInt ≤ c.toInt := c8
    replace h := tx_aload_n (p' := 12) h em232_11 rfl rfl
    replace h := tx_getc (c := 12) (j := 50) (p' := 15) h em232_12 ((congrFun xo_12 95).trans rfl) rfl rfl rfl
    replace h := tx_iload (p' := 17) h em232_15 rfl rfl
    obtain ⟨hb17, h⟩ := tx_iald (len := 840) (p' := 18) h em232_17 rfl rfl
    replace hb17 : (0 : Int) ≤ c.toInt ∧ c.toInt < 840 := hb17
    replace h := tx_istore (p' := 20) h em232_18 rfl
    replace h : eT xq_232 _ 20 [some (.inr (.inl (some 75))), some (.inl f), some (.inl y), some (.inl t), some (.inl c), some (.inl (ω.1 101 c.toInt.toNat)), o6, o7] [] ω r μ' := h
    replace h := tx_iload (p' := 22) h em232_20 rfl rfl
    replace h := tx_iconst (v := 2) (p' := 23) h em232_22 (by decide +kernel) rfl
    rcases tx_icmp (t := 65) (p' := 26) h em232_23 (by decide) rfl with ⟨c23, h⟩ | ⟨c23, h⟩
    · replace c23 : 2 ≤ (ω.1 101 c.toInt.toNat).toInt := c23
      replace h := tx_iinc (v := (-1)) (p' := 68) h em232_65 (by decide +kernel) rfl rfl
      replace h : eT xq_232 _ 68 [some (.inr (.inl (some 75))), some (.inl f), some (.inl y), some (.inl (t + (-1))), some (.inl c), some (.inl (ω.1 101 c.toInt.toNat)), o6, o7] [] ω r μ' := h
      have et1 : (t + -1).toInt = t.toInt - 1 := ka1 (by omega)
      obtain ⟨t1, ht1⟩ : ∃ z, z = t + -1 := ⟨_, rfl⟩
      rw [← ht1] at et1 h
      clear ht1
      have et2 : (t1 - (1 : Int32)).toInt = t.toInt - 2 := by rw [an_sub (by rw [e1i]; omega) (by rw [e1i]; omega), e1i]; omega
      replace h := tx_aload_n (p' := 69) h em232_68 rfl rfl
      replace h := tx_getc (c := 12) (j := 57) (p' := 72) h em232_69 ((congrFun xo_12 110).trans rfl) rfl rfl rfl
      replace h := tx_iload_n (p' := 73) h em232_72 rfl rfl
      replace h := tx_iconst (v := 1) (p' := 74) h em232_73 (by decide +kernel) rfl
      replace h := tx_isub (p' := 75) h em232_74 rfl
      obtain ⟨hb75, h⟩ := tx_iald (len := 400) (p' := 76) h em232_75 rfl rfl
      replace hb75 : (0 : Int) ≤ (t1 - (1 : Int32)).toInt ∧ (t1 - (1 : Int32)).toInt < 400 := hb75
      replace h := tx_istore (p' := 78) h em232_76 rfl
      replace h : eT xq_232 _ 78 [some (.inr (.inl (some 75))), some (.inl f), some (.inl y), some (.inl t1), some (.inl c), some (.inl (ω.1 101 c.toInt.toNat)), some (.inl (ω.1 106 (t1 - (1 : Int32)).toInt.toNat)), o7] [] ω r μ' := h
      replace h := tx_aload_n (p' := 79) h em232_78 rfl rfl
      replace h := tx_getc (c := 12) (j := 57) (p' := 82) h em232_79 ((congrFun xo_12 110).trans rfl) rfl rfl rfl
      replace h := tx_iload_n (p' := 83) h em232_82 rfl rfl
      obtain ⟨hb83, h⟩ := tx_iald (len := 400) (p' := 84) h em232_83 rfl rfl
      replace hb83 : (0 : Int) ≤ t1.toInt ∧ t1.toInt < 400 := hb83
      replace h := tx_istore (p' := 86) h em232_84 rfl
      replace h : eT xq_232 _ 86 [some (.inr (.inl (some 75))), some (.inl f), some (.inl y), some (.inl t1), some (.inl c), some (.inl (ω.1 101 c.toInt.toNat)), some (.inl (ω.1 106 (t1 - (1 : Int32)).toInt.toNat)), some (.inl (ω.1 106 t1.toInt.toNat))] [] ω r μ' := h
      replace h := tx_iload (p' := 88) h em232_86 rfl rfl
      replace h := tx_iconst (v := 5) (p' := 89) h em232_88 (by decide +kernel) rfl
      rcases tx_icmp (t := 104) (p' := 92) h em232_89 (by decide) rfl with ⟨c89, h⟩ | ⟨c89, h⟩
      · replace c89 : ¬ (ω.1 101 c.toInt.toNat).toInt = 5 := c89
        replace h := tx_aload_n (p' := 105) h em232_104 rfl rfl
        replace h := tx_getc (c := 12) (j := 57) (p' := 108) h em232_105 ((congrFun xo_12 110).trans rfl) rfl rfl rfl
        replace h := tx_iload_n (p' := 109) h em232_108 rfl rfl
        replace h := tx_iconst (v := 1) (p' := 110) h em232_109 (by decide +kernel) rfl
        replace h := tx_isub (p' := 111) h em232_110 rfl
        replace h := tx_iload (p' := 113) h em232_111 rfl rfl
        replace h := tx_iconst (v := 2) (p' := 114) h em232_113 (by decide +kernel) rfl
        rcases tx_icmp (t := 125) (p' := 117) h em232_114 (by decide) rfl with ⟨c114, h⟩ | ⟨c114, h⟩
        · replace c114 : ¬ (ω.1 101 c.toInt.toNat).toInt = 2 := c114
          replace h := tx_iload (p' := 127) h em232_125 rfl rfl
          replace h := tx_iconst (v := 3) (p' := 128) h em232_127 (by decide +kernel) rfl
          rcases tx_icmp (t := 139) (p' := 131) h em232_128 (by decide) rfl with ⟨c128, h⟩ | ⟨c128, h⟩
          · replace c128 : ¬ (ω.1 101 c.toInt.toNat).toInt = 3 := c128
            replace h := tx_iload (p' := 141) h em232_139 rfl rfl
            replace h := tx_iconst (v := 4) (p' := 142) h em232_141 (by decide +kernel) rfl
            rcases tx_icmp (t := 153) (p' := 145) h em232_142 (by decide) rfl with ⟨c142, h⟩ | ⟨c142, h⟩
            · replace c142 : ¬ (ω.1 101 c.toInt.toNat).toInt = 4 := c142
              replace h := tx_iload (p' := 155) h em232_153 rfl rfl
              replace h := tx_iload (p' := 157) h em232_155 rfl rfl
              obtain ⟨hz157, h⟩ := tx_idiv (p' := 158) h em232_157 rfl
              obtain ⟨hb158, h⟩ := tx_iast (len := 400) (p' := 159) h em232_158 rfl rfl
              replace hb158 : (0 : Int) ≤ (t1 - (1 : Int32)).toInt ∧ (t1 - (1 : Int32)).toInt < 400 := hb158
              replace h := tx_iinc (v := 1) (p' := 162) h em232_159 (by decide +kernel) rfl rfl
              replace h : eT xq_232 _ 162 [some (.inr (.inl (some 75))), some (.inl f), some (.inl y), some (.inl t1), some (.inl (c + 1)), some (.inl (ω.1 101 c.toInt.toNat)), some (.inl (ω.1 106 (t1 - (1 : Int32)).toInt.toNat)), some (.inl (ω.1 106 t1.toInt.toNat))] [] (xpi ω 106 (t1 - (1 : Int32)).toInt.toNat ((ω.1 106 (t1 - (1 : Int32)).toInt.toNat) / (ω.1 106 t1.toInt.toNat))) r μ' := h
              obtain ⟨n2, hn2, h⟩ := tx_gotoS (t := 5) h em232_162 (by decide)
              exfalso
              omega
            · replace c142 : ¬ ¬ (ω.1 101 c.toInt.toNat).toInt = 4 := c142
              replace h := tx_iload (p' := 147) h em232_145 rfl rfl
              replace h := tx_iload (p' := 149) h em232_147 rfl rfl
              replace h := tx_imul (p' := 150) h em232_149 rfl
              replace h := tx_goto (t := 158) h em232_150 (by decide)
              obtain ⟨hb158_1, h⟩ := tx_iast (len := 400) (p' := 159) h em232_158 rfl rfl
              replace hb158_1 : (0 : Int) ≤ (t1 - (1 : Int32)).toInt ∧ (t1 - (1 : Int32)).toInt < 400 := hb158_1
              replace h := tx_iinc (v := 1) (p' := 162) h em232_159 (by decide +kernel) rfl rfl
              replace h : eT xq_232 _ 162 [some (.inr (.inl (some 75))), some (.inl f), some (.inl y), some (.inl t1), some (.inl (c + 1)), some (.inl (ω.1 101 c.toInt.toNat)), some (.inl (ω.1 106 (t1 - (1 : Int32)).toInt.toNat)), some (.inl (ω.1 106 t1.toInt.toNat))] [] (xpi ω 106 (t1 - (1 : Int32)).toInt.toNat ((ω.1 106 (t1 - (1 : Int32)).toInt.toNat) * (ω.1 106 t1.toInt.toNat))) r μ' := h
              obtain ⟨n2, hn2, h⟩ := tx_gotoS (t := 5) h em232_162 (by decide)
              rw [et2, et1] at h
              exact ⟨_, _, _, _, t1, et1, h⟩
          · replace c128 : ¬ ¬ (ω.1 101 c.toInt.toNat).toInt = 3 := c128
            replace h := tx_iload (p' := 133) h em232_131 rfl rfl
            replace h := tx_iload (p' := 135) h em232_133 rfl rfl
            replace h := tx_isub (p' := 136) h em232_135 rfl
            replace h := tx_goto (t := 158) h em232_136 (by decide)
            obtain ⟨hb158_2, h⟩ := tx_iast (len := 400) (p' := 159) h em232_158 rfl rfl
            replace hb158_2 : (0 : Int) ≤ (t1 - (1 : Int32)).toInt ∧ (t1 - (1 : Int32)).toInt < 400 := hb158_2
            replace h := tx_iinc (v := 1) (p' := 162) h em232_159 (by decide +kernel) rfl rfl
            replace h : eT xq_232 _ 162 [some (.inr (.inl (some 75))), some (.inl f), some (.inl y), some (.inl t1), some (.inl (c + 1)), some (.inl (ω.1 101 c.toInt.toNat)), some (.inl (ω.1 106 (t1 - (1 : Int32)).toInt.toNat)), some (.inl (ω.1 106 t1.toInt.toNat))] [] (xpi ω 106 (t1 - (1 : Int32)).toInt.toNat ((ω.1 106 (t1 - (1 : Int32)).toInt.toNat) - (ω.1 106 t1.toInt.toNat))) r μ' := h
            obtain ⟨n2, hn2, h⟩ := tx_gotoS (t := 5) h em232_162 (by decide)
            exfalso
            omega
        · replace c114 : ¬ ¬ (ω.1 101 c.toInt.toNat).toInt = 2 := c114
          replace h := tx_iload (p' := 119) h em232_117 rfl rfl
          replace h := tx_iload (p' := 121) h em232_119 rfl rfl
          replace h := tx_iadd (p' := 122) h em232_121 rfl
          replace h := tx_goto (t := 158) h em232_122 (by decide)
          obtain ⟨hb158_3, h⟩ := tx_iast (len := 400) (p' := 159) h em232_158 rfl rfl
          replace hb158_3 : (0 : Int) ≤ (t1 - (1 : Int32)).toInt ∧ (t1 - (1 : Int32)).toInt < 400 := hb158_3
          replace h := tx_iinc (v := 1) (p' := 162) h em232_159 (by decide +kernel) rfl rfl
          replace h : eT xq_232 _ 162 [some (.inr (.inl (some 75))), some (.inl f), some (.inl y), some (.inl t1), some (.inl (c + 1)), some (.inl (ω.1 101 c.toInt.toNat)), some (.inl (ω.1 106 (t1 - (1 : Int32)).toInt.toNat)), some (.inl (ω.1 106 t1.toInt.toNat))] [] (xpi ω 106 (t1 - (1 : Int32)).toInt.toNat ((ω.1 106 (t1 - (1 : Int32)).toInt.toNat) + (ω.1 106 t1.toInt.toNat))) r μ' := h
          obtain ⟨n2, hn2, h⟩ := tx_gotoS (t := 5) h em232_162 (by decide)
          exfalso
          omega
      · replace c89 : ¬ ¬ (ω.1 101 c.toInt.toNat).toInt = 5 := c89
        replace h := tx_iload (p' := 94) h em232_92 rfl rfl
        rcases tx_if (t := 104) (p' := 97) h em232_94 (by decide) rfl with ⟨c94, h⟩ | ⟨c94, h⟩
        · replace c94 : ¬ (ω.1 106 t1.toInt.toNat).toInt = 0 := c94
          replace h := tx_aload_n (p' := 105) h em232_104 rfl rfl
          replace h := tx_getc (c := 12) (j := 57) (p' := 108) h em232_105 ((congrFun xo_12 110).trans rfl) rfl rfl rfl
          replace h := tx_iload_n (p' := 109) h em232_108 rfl rfl
          replace h := tx_iconst (v := 1) (p' := 110) h em232_109 (by decide +kernel) rfl
          replace h := tx_isub (p' := 111) h em232_110 rfl
          replace h := tx_iload (p' := 113) h em232_111 rfl rfl
          replace h := tx_iconst (v := 2) (p' := 114) h em232_113 (by decide +kernel) rfl
          rcases tx_icmp (t := 125) (p' := 117) h em232_114 (by decide) rfl with ⟨c114_1, h⟩ | ⟨c114_1, h⟩
          · replace c114_1 : ¬ (ω.1 101 c.toInt.toNat).toInt = 2 := c114_1
            replace h := tx_iload (p' := 127) h em232_125 rfl rfl
            replace h := tx_iconst (v := 3) (p' := 128) h em232_127 (by decide +kernel) rfl
            rcases tx_icmp (t := 139) (p' := 131) h em232_128 (by decide) rfl with ⟨c128_1, h⟩ | ⟨c128_1, h⟩
            · replace c128_1 : ¬ (ω.1 101 c.toInt.toNat).toInt = 3 := c128_1
              replace h := tx_iload (p' := 141) h em232_139 rfl rfl
              replace h := tx_iconst (v := 4) (p' := 142) h em232_141 (by decide +kernel) rfl
              rcases tx_icmp (t := 153) (p' := 145) h em232_142 (by decide) rfl with ⟨c142_1, h⟩ | ⟨c142_1, h⟩
              · replace c142_1 : ¬ (ω.1 101 c.toInt.toNat).toInt = 4 := c142_1
                replace h := tx_iload (p' := 155) h em232_153 rfl rfl
                replace h := tx_iload (p' := 157) h em232_155 rfl rfl
                obtain ⟨hz157_1, h⟩ := tx_idiv (p' := 158) h em232_157 rfl
                obtain ⟨hb158_4, h⟩ := tx_iast (len := 400) (p' := 159) h em232_158 rfl rfl
                replace hb158_4 : (0 : Int) ≤ (t1 - (1 : Int32)).toInt ∧ (t1 - (1 : Int32)).toInt < 400 := hb158_4
                replace h := tx_iinc (v := 1) (p' := 162) h em232_159 (by decide +kernel) rfl rfl
                replace h : eT xq_232 _ 162 [some (.inr (.inl (some 75))), some (.inl f), some (.inl y), some (.inl t1), some (.inl (c + 1)), some (.inl (ω.1 101 c.toInt.toNat)), some (.inl (ω.1 106 (t1 - (1 : Int32)).toInt.toNat)), some (.inl (ω.1 106 t1.toInt.toNat))] [] (xpi ω 106 (t1 - (1 : Int32)).toInt.toNat ((ω.1 106 (t1 - (1 : Int32)).toInt.toNat) / (ω.1 106 t1.toInt.toNat))) r μ' := h
                obtain ⟨n2, hn2, h⟩ := tx_gotoS (t := 5) h em232_162 (by decide)
                exfalso
                omega
              · replace c142_1 : ¬ ¬ (ω.1 101 c.toInt.toNat).toInt = 4 := c142_1
                replace h := tx_iload (p' := 147) h em232_145 rfl rfl
                replace h := tx_iload (p' := 149) h em232_147 rfl rfl
                replace h := tx_imul (p' := 150) h em232_149 rfl
                replace h := tx_goto (t := 158) h em232_150 (by decide)
                obtain ⟨hb158_5, h⟩ := tx_iast (len := 400) (p' := 159) h em232_158 rfl rfl
                replace hb158_5 : (0 : Int) ≤ (t1 - (1 : Int32)).toInt ∧ (t1 - (1 : Int32)).toInt < 400 := hb158_5
                replace h := tx_iinc (v := 1) (p' := 162) h em232_159 (by decide +kernel) rfl rfl
                replace h : eT xq_232 _ 162 [some (.inr (.inl (some 75))), some (.inl f), some (.inl y), some (.inl t1), some (.inl (c + 1)), some (.inl (ω.1 101 c.toInt.toNat)), some (.inl (ω.1 106 (t1 - (1 : Int32)).toInt.toNat)), some (.inl (ω.1 106 t1.toInt.toNat))] [] (xpi ω 106 (t1 - (1 : Int32)).toInt.toNat ((ω.1 106 (t1 - (1 : Int32)).toInt.toNat) * (ω.1 106 t1.toInt.toNat))) r μ' := h
                obtain ⟨n2, hn2, h⟩ := tx_gotoS (t := 5) h em232_162 (by decide)
                rw [et2, et1] at h
                exact ⟨_, _, _, _, t1, et1, h⟩
            · replace c128_1 : ¬ ¬ (ω.1 101 c.toInt.toNat).toInt = 3 := c128_1
              replace h := tx_iload (p' := 133) h em232_131 rfl rfl
              replace h := tx_iload (p' := 135) h em232_133 rfl rfl
              replace h := tx_isub (p' := 136) h em232_135 rfl
              replace h := tx_goto (t := 158) h em232_136 (by decide)
              obtain ⟨hb158_6, h⟩ := tx_iast (len := 400) (p' := 159) h em232_158 rfl rfl
              replace hb158_6 : (0 : Int) ≤ (t1 - (1 : Int32)).toInt ∧ (t1 - (1 : Int32)).toInt < 400 := hb158_6
              replace h := tx_iinc (v := 1) (p' := 162) h em232_159 (by decide +kernel) rfl rfl
              replace h : eT xq_232 _ 162 [some (.inr (.inl (some 75))), some (.inl f), some (.inl y), some (.inl t1), some (.inl (c + 1)), some (.inl (ω.1 101 c.toInt.toNat)), some (.inl (ω.1 106 (t1 - (1 : Int32)).toInt.toNat)), some (.inl (ω.1 106 t1.toInt.toNat))] [] (xpi ω 106 (t1 - (1 : Int32)).toInt.toNat ((ω.1 106 (t1 - (1 : Int32)).toInt.toNat) - (ω.1 106 t1.toInt.toNat))) r μ' := h
              obtain ⟨n2, hn2, h⟩ := tx_gotoS (t := 5) h em232_162 (by decide)
              exfalso
              omega
          · replace c114_1 : ¬ ¬ (ω.1 101 c.toInt.toNat).toInt = 2 := c114_1
            replace h := tx_iload (p' := 119) h em232_117 rfl rfl
            replace h := tx_iload (p' := 121) h em232_119 rfl rfl
            replace h := tx_iadd (p' := 122) h em232_121 rfl
            replace h := tx_goto (t := 158) h em232_122 (by decide)
            obtain ⟨hb158_7, h⟩ := tx_iast (len := 400) (p' := 159) h em232_158 rfl rfl
            replace hb158_7 : (0 : Int) ≤ (t1 - (1 : Int32)).toInt ∧ (t1 - (1 : Int32)).toInt < 400 := hb158_7
            replace h := tx_iinc (v := 1) (p' := 162) h em232_159 (by decide +kernel) rfl rfl
            replace h : eT xq_232 _ 162 [some (.inr (.inl (some 75))), some (.inl f), some (.inl y), some (.inl t1), some (.inl (c + 1)), some (.inl (ω.1 101 c.toInt.toNat)), some (.inl (ω.1 106 (t1 - (1 : Int32)).toInt.toNat)), some (.inl (ω.1 106 t1.toInt.toNat))] [] (xpi ω 106 (t1 - (1 : Int32)).toInt.toNat ((ω.1 106 (t1 - (1 : Int32)).toInt.toNat) + (ω.1 106 t1.toInt.toNat))) r μ' := h
            obtain ⟨n2, hn2, h⟩ := tx_gotoS (t := 5) h em232_162 (by decide)
            exfalso
            omega
        · replace c94 : ¬ ¬ (ω.1 106 t1.toInt.toNat).toInt = 0 := c94
          replace h := tx_aload_n (p' := 98) h em232_97 rfl rfl
          replace h := tx_iconst (v := 1) (p' := 99) h em232_98 (by decide +kernel) rfl
          replace h := tx_putf (a := 75) (c := 12) (j := 58) (p' := 102) h em232_99 ((congrFun xo_12 320).trans rfl) rfl
          replace h := tx_iconst (v := 0) (p' := 103) h em232_102 (by decide +kernel) rfl
          obtain ⟨rfl, hμ⟩ := tx_ireturn h em232_103
          exfalso
          omega
    · replace c23 : ¬ 2 ≤ (ω.1 101 c.toInt.toNat).toInt := c23
      replace h := tx_aload_n (p' := 27) h em232_26 rfl rfl
      replace h := tx_getc (c := 12) (j := 57) (p' := 30) h em232_27 ((congrFun xo_12 110).trans rfl) rfl rfl rfl
      replace h := tx_iload_n (p' := 31) h em232_30 rfl rfl
      replace h := tx_iload (p' := 33) h em232_31 rfl rfl
      rcases tx_if (t := 46) (p' := 36) h em232_33 (by decide) rfl with ⟨c33, h⟩ | ⟨c33, h⟩
      · replace c33 : ¬ (ω.1 101 c.toInt.toNat).toInt = 0 := c33
        replace h := tx_aload_n (p' := 47) h em232_46 rfl rfl
        replace h := tx_getc (c := 12) (j := 56) (p' := 50) h em232_47 ((congrFun xo_12 107).trans rfl) rfl rfl rfl
        replace h := tx_aload_n (p' := 51) h em232_50 rfl rfl
        replace h := tx_getc (c := 12) (j := 51) (p' := 54) h em232_51 ((congrFun xo_12 98).trans rfl) rfl rfl rfl
        replace h := tx_iload (p' := 56) h em232_54 rfl rfl
        obtain ⟨hb56, h⟩ := tx_iald (len := 840) (p' := 57) h em232_56 rfl rfl
        replace hb56 : (0 : Int) ≤ c.toInt ∧ c.toInt < 840 := hb56
        obtain ⟨hb57, h⟩ := tx_iald (len := 9) (p' := 58) h em232_57 rfl rfl
        replace hb57 : (0 : Int) ≤ (ω.1 102 c.toInt.toNat).toInt ∧ (ω.1 102 c.toInt.toNat).toInt < 9 := hb57
        obtain ⟨hb58, h⟩ := tx_iast (len := 400) (p' := 59) h em232_58 rfl rfl
        replace hb58 : (0 : Int) ≤ t.toInt ∧ t.toInt < 400 := hb58
        replace h := tx_iinc (v := 1) (p' := 62) h em232_59 (by decide +kernel) rfl rfl
        replace h : eT xq_232 _ 62 [some (.inr (.inl (some 75))), some (.inl f), some (.inl y), some (.inl (t + 1)), some (.inl c), some (.inl (ω.1 101 c.toInt.toNat)), o6, o7] [] (xpi ω 106 t.toInt.toNat (ω.1 105 (ω.1 102 c.toInt.toNat).toInt.toNat)) r μ' := h
        replace h := tx_goto (t := 159) h em232_62 (by decide)
        replace h := tx_iinc (v := 1) (p' := 162) h em232_159 (by decide +kernel) rfl rfl
        replace h : eT xq_232 _ 162 [some (.inr (.inl (some 75))), some (.inl f), some (.inl y), some (.inl (t + 1)), some (.inl (c + 1)), some (.inl (ω.1 101 c.toInt.toNat)), o6, o7] [] (xpi ω 106 t.toInt.toNat (ω.1 105 (ω.1 102 c.toInt.toNat).toInt.toNat)) r μ' := h
        obtain ⟨n2, hn2, h⟩ := tx_gotoS (t := 5) h em232_162 (by decide)
        exfalso
        omega
      · replace c33 : ¬ ¬ (ω.1 101 c.toInt.toNat).toInt = 0 := c33
        replace h := tx_aload_n (p' := 37) h em232_36 rfl rfl
        replace h := tx_getc (c := 12) (j := 51) (p' := 40) h em232_37 ((congrFun xo_12 98).trans rfl) rfl rfl rfl
        replace h := tx_iload (p' := 42) h em232_40 rfl rfl
        obtain ⟨hb42, h⟩ := tx_iald (len := 840) (p' := 43) h em232_42 rfl rfl
        replace hb42 : (0 : Int) ≤ c.toInt ∧ c.toInt < 840 := hb42
        replace h := tx_goto (t := 58) h em232_43 (by decide)
        obtain ⟨hb58_1, h⟩ := tx_iast (len := 400) (p' := 59) h em232_58 rfl rfl
        replace hb58_1 : (0 : Int) ≤ t.toInt ∧ t.toInt < 400 := hb58_1
        replace h := tx_iinc (v := 1) (p' := 62) h em232_59 (by decide +kernel) rfl rfl
        replace h : eT xq_232 _ 62 [some (.inr (.inl (some 75))), some (.inl f), some (.inl y), some (.inl (t + 1)), some (.inl c), some (.inl (ω.1 101 c.toInt.toNat)), o6, o7] [] (xpi ω 106 t.toInt.toNat (ω.1 102 c.toInt.toNat)) r μ' := h
        replace h := tx_goto (t := 159) h em232_62 (by decide)
        replace h := tx_iinc (v := 1) (p' := 162) h em232_159 (by decide +kernel) rfl rfl
        replace h : eT xq_232 _ 162 [some (.inr (.inl (some 75))), some (.inl f), some (.inl y), some (.inl (t + 1)), some (.inl (c + 1)), some (.inl (ω.1 101 c.toInt.toNat)), o6, o7] [] (xpi ω 106 t.toInt.toNat (ω.1 102 c.toInt.toNat)) r μ' := h
        obtain ⟨n2, hn2, h⟩ := tx_gotoS (t := 5) h em232_162 (by decide)
        exfalso
        omega
set_option maxRecDepth 10000 in
set_option maxHeartbeats 4000000 in
theorem tr_op5 {n : Nat} {f y t c : Int32} {o5 o6 o7 : Option zV} {ω μ' : xM} {r : Option zV} (h : eT xq_232 n 5 [some (.inr (.inl (some 75))), some (.inl f), some (.inl y), some (.inl t), some (.inl c), o5, o6, o7] [] ω r μ') (hc : c.toInt < y.toInt) (ht0 : 0 ≤ t.toInt) (ht4 : t.toInt ≤ 1000) (ho : (ω.1 101 c.toInt.toNat).toInt = 5) (hf : 2 ≤ t.toInt) (hz : ¬ (ω.1 106 (t.toInt - 1).toNat) = 0) : ∃ n' o5' o6' o7' t1, t1.toInt = t.toInt - 1 ∧ eT xq_232 n' 5 [some (.inr (.inl (some 75))), some (.inl f), some (.inl y), some (.inl t1), some (.inl (c + 1)), o5', o6', o7'] [] (xpi ω 106 (t.toInt - 2).toNat ((ω.1 106 (t.toInt - 2).toNat) / (ω.1 106 (t.toInt - 1).toNat))) r μ' := by
  have e1i : (1 : Int32).toInt = 1 := by decide
  replace h := tx_iload (p' := 7) h em232_5 rfl rfl
  replace h := tx_iload_n (p' := 8) h em232_7 rfl rfl
  rcases tx_icmp (t := 165) (p' := 11) h em232_8 (by decide) rfl with ⟨c8, h⟩ | ⟨c8, h⟩
  · replace c8 : y.toInt ≤ c.toInt := c8
    replace h := tx_aload_n (p' := 166) h em232_165 rfl rfl
    replace h := tx_getc (c := 12) (j := 57) (p' := 169) h em232_166 ((congrFun xo_12 110).trans rfl) rfl rfl rfl
    replace h := tx_iconst (v := 0) (p' := 170) h em232_169 (by decide +kernel) rfl
    obtain ⟨hb170, h⟩ := tx_iald (len := 400) (p' := 171) h em232_170 rfl rfl
    replace hb170 : (0 : Int) ≤ 0 ∧ (0 : Int) < 400 := hb170
    replace h : eT xq_232 _ 171 [some (.inr (.inl (some 75))), some (.inl f), some (.inl y), some (.inl t), some (.inl c), o5, o6, o7] [.inl (ω.1 106 0)] ω r μ' := h
    obtain ⟨rfl, hμ⟩ := tx_ireturn h em232_171
    exfalso
    omega
  · replace c8 : ¬ y.toInt ≤ c.toInt := c8
    replace h := tx_aload_n (p' := 12) h em232_11 rfl rfl
    replace h := tx_getc (c := 12) (j := 50) (p' := 15) h em232_12 ((congrFun xo_12 95).trans rfl) rfl rfl rfl
    replace h := tx_iload (p' := 17) h em232_15 rfl rfl
    obtain ⟨hb17, h⟩ := tx_iald (len := 840) (p' := 18) h em232_17 rfl rfl
    replace hb17 : (0 : Int) ≤ c.toInt ∧ c.toInt < 840 := hb17
    replace h := tx_istore (p' := 20) h em232_18 rfl
    replace h : eT xq_232 _ 20 [some (.inr (.inl (some 75))), some (.inl f), some (.inl y), some (.inl t), some (.inl c), some (.inl (ω.1 101 c.toInt.toNat)), o6, o7] [] ω r μ' := h
    replace h := tx_iload (p' := 22) h em232_20 rfl rfl
    replace h := tx_iconst (v := 2) (p' := 23) h em232_22 (by decide +kernel) rfl
    rcases tx_icmp (t := 65) (p' := 26) h em232_23 (by decide) rfl with ⟨c23, h⟩ | ⟨c23, h⟩
    · replace c23 : 2 ≤ (ω.1 101 c.toInt.toNat).toInt := c23
      replace h := tx_iinc (v := (-1)) (p' := 68) h em232_65 (by decide +kernel) rfl rfl
      replace h : eT xq_232 _ 68 [some (.inr (.inl (some 75))), some (.inl f), some (.inl y), some (.inl (t + (-1))), some (.inl c), some (.inl (ω.1 101 c.toInt.toNat)), o6, o7] [] ω r μ' := h
      have et1 : (t + -1).toInt = t.toInt - 1 := ka1 (by omega)
      obtain ⟨t1, ht1⟩ : ∃ z, z = t + -1 := ⟨_, rfl⟩
      rw [← ht1] at et1 h
      clear ht1
      have et2 : (t1 - (1 : Int32)).toInt = t.toInt - 2 := by rw [an_sub (by rw [e1i]; omega) (by rw [e1i]; omega), e1i]; omega
      replace h := tx_aload_n (p' := 69) h em232_68 rfl rfl
      replace h := tx_getc (c := 12) (j := 57) (p' := 72) h em232_69 ((congrFun xo_12 110).trans rfl) rfl rfl rfl
      replace h := tx_iload_n (p' := 73) h em232_72 rfl rfl
      replace h := tx_iconst (v := 1) (p' := 74) h em232_73 (by decide +kernel) rfl
      replace h := tx_isub (p' := 75) h em232_74 rfl
      obtain ⟨hb75, h⟩ := tx_iald (len := 400) (p' := 76) h em232_75 rfl rfl
      replace hb75 : (0 : Int) ≤ (t1 - (1 : Int32)).toInt ∧ (t1 - (1 : Int32)).toInt < 400 := hb75
      replace h := tx_istore (p' := 78) h em232_76 rfl
      replace h : eT xq_232 _ 78 [some (.inr (.inl (some 75))), some (.inl f), some (.inl y), some (.inl t1), some (.inl c), some (.inl (ω.1 101 c.toInt.toNat)), some (.inl (ω.1 106 (t1 - (1 : Int32)).toInt.toNat)), o7] [] ω r μ' := h
      replace h := tx_aload_n (p' := 79) h em232_78 rfl rfl
      replace h := tx_getc (c := 12) (j := 57) (p' := 82) h em232_79 ((congrFun xo_12 110).trans rfl) rfl rfl rfl
      replace h := tx_iload_n (p' := 83) h em232_82 rfl rfl
      obtain ⟨hb83, h⟩ := tx_iald (len := 400) (p' := 84) h em232_83 rfl rfl
      replace hb83 : (0 : Int) ≤ t1.toInt ∧ t1.toInt < 400 := hb83
      replace h := tx_istore (p' := 86) h em232_84 rfl
      replace h : eT xq_232 _ 86 [some (.inr (.inl (some 75))), some (.inl f), some (.inl y), some (.inl t1), some (.inl c), some (.inl (ω.1 101 c.toInt.toNat)), some (.inl (ω.1 106 (t1 - (1 : Int32)).toInt.toNat)), some (.inl (ω.1 106 t1.toInt.toNat))] [] ω r μ' := h
      replace h := tx_iload (p' := 88) h em232_86 rfl rfl
      replace h := tx_iconst (v := 5) (p' := 89) h em232_88 (by decide +kernel) rfl
      rcases tx_icmp (t := 104) (p' := 92) h em232_89 (by decide) rfl with ⟨c89, h⟩ | ⟨c89, h⟩
      · replace c89 : ¬ (ω.1 101 c.toInt.toNat).toInt = 5 := c89
        replace h := tx_aload_n (p' := 105) h em232_104 rfl rfl
        replace h := tx_getc (c := 12) (j := 57) (p' := 108) h em232_105 ((congrFun xo_12 110).trans rfl) rfl rfl rfl
        replace h := tx_iload_n (p' := 109) h em232_108 rfl rfl
        replace h := tx_iconst (v := 1) (p' := 110) h em232_109 (by decide +kernel) rfl
        replace h := tx_isub (p' := 111) h em232_110 rfl
        replace h := tx_iload (p' := 113) h em232_111 rfl rfl
        replace h := tx_iconst (v := 2) (p' := 114) h em232_113 (by decide +kernel) rfl
        rcases tx_icmp (t := 125) (p' := 117) h em232_114 (by decide) rfl with ⟨c114, h⟩ | ⟨c114, h⟩
        · replace c114 : ¬ (ω.1 101 c.toInt.toNat).toInt = 2 := c114
          replace h := tx_iload (p' := 127) h em232_125 rfl rfl
          replace h := tx_iconst (v := 3) (p' := 128) h em232_127 (by decide +kernel) rfl
          rcases tx_icmp (t := 139) (p' := 131) h em232_128 (by decide) rfl with ⟨c128, h⟩ | ⟨c128, h⟩
          · replace c128 : ¬ (ω.1 101 c.toInt.toNat).toInt = 3 := c128
            replace h := tx_iload (p' := 141) h em232_139 rfl rfl
            replace h := tx_iconst (v := 4) (p' := 142) h em232_141 (by decide +kernel) rfl
            rcases tx_icmp (t := 153) (p' := 145) h em232_142 (by decide) rfl with ⟨c142, h⟩ | ⟨c142, h⟩
            · replace c142 : ¬ (ω.1 101 c.toInt.toNat).toInt = 4 := c142
              replace h := tx_iload (p' := 155) h em232_153 rfl rfl
              replace h := tx_iload (p' := 157) h em232_155 rfl rfl
              obtain ⟨hz157, h⟩ := tx_idiv (p' := 158) h em232_157 rfl
              obtain ⟨hb158, h⟩ := tx_iast (len := 400) (p' := 159) h em232_158 rfl rfl
              replace hb158 : (0 : Int) ≤ (t1 - (1 : Int32)).toInt ∧ (t1 - (1 : Int32)).toInt < 400 := hb158
              replace h := tx_iinc (v := 1) (p' := 162) h em232_159 (by decide +kernel) rfl rfl
              replace h : eT xq_232 _ 162 [some (.inr (.inl (some 75))), some (.inl f), some (.inl y), some (.inl t1), some (.inl (c + 1)), some (.inl (ω.1 101 c.toInt.toNat)), some (.inl (ω.1 106 (t1 - (1 : Int32)).toInt.toNat)), some (.inl (ω.1 106 t1.toInt.toNat))] [] (xpi ω 106 (t1 - (1 : Int32)).toInt.toNat ((ω.1 106 (t1 - (1 : Int32)).toInt.toNat) / (ω.1 106 t1.toInt.toNat))) r μ' := h
              obtain ⟨n2, hn2, h⟩ := tx_gotoS (t := 5) h em232_162 (by decide)
              exfalso
              omega
            · replace c142 : ¬ ¬ (ω.1 101 c.toInt.toNat).toInt = 4 := c142
              replace h := tx_iload (p' := 147) h em232_145 rfl rfl
              replace h := tx_iload (p' := 149) h em232_147 rfl rfl
              replace h := tx_imul (p' := 150) h em232_149 rfl
              replace h := tx_goto (t := 158) h em232_150 (by decide)
              obtain ⟨hb158_1, h⟩ := tx_iast (len := 400) (p' := 159) h em232_158 rfl rfl
              replace hb158_1 : (0 : Int) ≤ (t1 - (1 : Int32)).toInt ∧ (t1 - (1 : Int32)).toInt < 400 := hb158_1
              replace h := tx_iinc (v := 1) (p' := 162) h em232_159 (by decide +kernel) rfl rfl
              replace h : eT xq_232 _ 162 [some (.inr (.inl (some 75))), some (.inl f), some (.inl y), some (.inl t1), some (.inl (c + 1)), some (.inl (ω.1 101 c.toInt.toNat)), some (.inl (ω.1 106 (t1 - (1 : Int32)).toInt.toNat)), some (.inl (ω.1 106 t1.toInt.toNat))] [] (xpi ω 106 (t1 - (1 : Int32)).toInt.toNat ((ω.1 106 (t1 - (1 : Int32)).toInt.toNat) * (ω.1 106 t1.toInt.toNat))) r μ' := h
              obtain ⟨n2, hn2, h⟩ := tx_gotoS (t := 5) h em232_162 (by decide)
              exfalso
              omega
          · replace c128 : ¬ ¬ (ω.1 101 c.toInt.toNat).toInt = 3 := c128
            replace h := tx_iload (p' := 133) h em232_131 rfl rfl
            replace h := tx_iload (p' := 135) h em232_133 rfl rfl
            replace h := tx_isub (p' := 136) h em232_135 rfl
            replace h := tx_goto (t := 158) h em232_136 (by decide)
            obtain ⟨hb158_2, h⟩ := tx_iast (len := 400) (p' := 159) h em232_158 rfl rfl
            replace hb158_2 : (0 : Int) ≤ (t1 - (1 : Int32)).toInt ∧ (t1 - (1 : Int32)).toInt < 400 := hb158_2
            replace h := tx_iinc (v := 1) (p' := 162) h em232_159 (by decide +kernel) rfl rfl
            replace h : eT xq_232 _ 162 [some (.inr (.inl (some 75))), some (.inl f), some (.inl y), some (.inl t1), some (.inl (c + 1)), some (.inl (ω.1 101 c.toInt.toNat)), some (.inl (ω.1 106 (t1 - (1 : Int32)).toInt.toNat)), some (.inl (ω.1 106 t1.toInt.toNat))] [] (xpi ω 106 (t1 - (1 : Int32)).toInt.toNat ((ω.1 106 (t1 - (1 : Int32)).toInt.toNat) - (ω.1 106 t1.toInt.toNat))) r μ' := h
            obtain ⟨n2, hn2, h⟩ := tx_gotoS (t := 5) h em232_162 (by decide)
            exfalso
            omega
        · replace c114 : ¬ ¬ (ω.1 101 c.toInt.toNat).toInt = 2 := c114
          replace h := tx_iload (p' := 119) h em232_117 rfl rfl
          replace h := tx_iload (p' := 121) h em232_119 rfl rfl
          replace h := tx_iadd (p' := 122) h em232_121 rfl
          replace h := tx_goto (t := 158) h em232_122 (by decide)
          obtain ⟨hb158_3, h⟩ := tx_iast (len := 400) (p' := 159) h em232_158 rfl rfl
          replace hb158_3 : (0 : Int) ≤ (t1 - (1 : Int32)).toInt ∧ (t1 - (1 : Int32)).toInt < 400 := hb158_3
          replace h := tx_iinc (v := 1) (p' := 162) h em232_159 (by decide +kernel) rfl rfl
          replace h : eT xq_232 _ 162 [some (.inr (.inl (some 75))), some (.inl f), some (.inl y), some (.inl t1), some (.inl (c + 1)), some (.inl (ω.1 101 c.toInt.toNat)), some (.inl (ω.1 106 (t1 - (1 : Int32)).toInt.toNat)), some (.inl (ω.1 106 t1.toInt.toNat))] [] (xpi ω 106 (t1 - (1 : Int32)).toInt.toNat ((ω.1 106 (t1 - (1 : Int32)).toInt.toNat) + (ω.1 106 t1.toInt.toNat))) r μ' := h
          obtain ⟨n2, hn2, h⟩ := tx_gotoS (t := 5) h em232_162 (by decide)
          exfalso
          omega
      · replace c89 : ¬ ¬ (ω.1 101 c.toInt.toNat).toInt = 5 := c89
        replace h := tx_iload (p' := 94) h em232_92 rfl rfl
        rcases tx_if (t := 104) (p' := 97) h em232_94 (by decide) rfl with ⟨c94, h⟩ | ⟨c94, h⟩
        · replace c94 : ¬ (ω.1 106 t1.toInt.toNat).toInt = 0 := c94
          replace h := tx_aload_n (p' := 105) h em232_104 rfl rfl
          replace h := tx_getc (c := 12) (j := 57) (p' := 108) h em232_105 ((congrFun xo_12 110).trans rfl) rfl rfl rfl
          replace h := tx_iload_n (p' := 109) h em232_108 rfl rfl
          replace h := tx_iconst (v := 1) (p' := 110) h em232_109 (by decide +kernel) rfl
          replace h := tx_isub (p' := 111) h em232_110 rfl
          replace h := tx_iload (p' := 113) h em232_111 rfl rfl
          replace h := tx_iconst (v := 2) (p' := 114) h em232_113 (by decide +kernel) rfl
          rcases tx_icmp (t := 125) (p' := 117) h em232_114 (by decide) rfl with ⟨c114_1, h⟩ | ⟨c114_1, h⟩
          · replace c114_1 : ¬ (ω.1 101 c.toInt.toNat).toInt = 2 := c114_1
            replace h := tx_iload (p' := 127) h em232_125 rfl rfl
            replace h := tx_iconst (v := 3) (p' := 128) h em232_127 (by decide +kernel) rfl
            rcases tx_icmp (t := 139) (p' := 131) h em232_128 (by decide) rfl with ⟨c128_1, h⟩ | ⟨c128_1, h⟩
            · replace c128_1 : ¬ (ω.1 101 c.toInt.toNat).toInt = 3 := c128_1
              replace h := tx_iload (p' := 141) h em232_139 rfl rfl
              replace h := tx_iconst (v := 4) (p' := 142) h em232_141 (by decide +kernel) rfl
              rcases tx_icmp (t := 153) (p' := 145) h em232_142 (by decide) rfl with ⟨c142_1, h⟩ | ⟨c142_1, h⟩
              · replace c142_1 : ¬ (ω.1 101 c.toInt.toNat).toInt = 4 := c142_1
                replace h := tx_iload (p' := 155) h em232_153 rfl rfl
                replace h := tx_iload (p' := 157) h em232_155 rfl rfl
                obtain ⟨hz157_1, h⟩ := tx_idiv (p' := 158) h em232_157 rfl
                obtain ⟨hb158_4, h⟩ := tx_iast (len := 400) (p' := 159) h em232_158 rfl rfl
                replace hb158_4 : (0 : Int) ≤ (t1 - (1 : Int32)).toInt ∧ (t1 - (1 : Int32)).toInt < 400 := hb158_4
                replace h := tx_iinc (v := 1) (p' := 162) h em232_159 (by decide +kernel) rfl rfl
                replace h : eT xq_232 _ 162 [some (.inr (.inl (some 75))), some (.inl f), some (.inl y), some (.inl t1), some (.inl (c + 1)), some (.inl (ω.1 101 c.toInt.toNat)), some (.inl (ω.1 106 (t1 - (1 : Int32)).toInt.toNat)), some (.inl (ω.1 106 t1.toInt.toNat))] [] (xpi ω 106 (t1 - (1 : Int32)).toInt.toNat ((ω.1 106 (t1 - (1 : Int32)).toInt.toNat) / (ω.1 106 t1.toInt.toNat))) r μ' := h
                obtain ⟨n2, hn2, h⟩ := tx_gotoS (t := 5) h em232_162 (by decide)
                rw [et2, et1] at h
                exact ⟨_, _, _, _, t1, et1, h⟩
              · replace c142_1 : ¬ ¬ (ω.1 101 c.toInt.toNat).toInt = 4 := c142_1
                replace h := tx_iload (p' := 147) h em232_145 rfl rfl
                replace h := tx_iload (p' := 149) h em232_147 rfl rfl
                replace h := tx_imul (p' := 150) h em232_149 rfl
                replace h := tx_goto (t := 158) h em232_150 (by decide)
                obtain ⟨hb158_5, h⟩ := tx_iast (len := 400) (p' := 159) h em232_158 rfl rfl
                replace hb158_5 : (0 : Int) ≤ (t1 - (1 : Int32)).toInt ∧ (t1 - (1 : Int32)).toInt < 400 := hb158_5
                replace h := tx_iinc (v := 1) (p' := 162) h em232_159 (by decide +kernel) rfl rfl
                replace h : eT xq_232 _ 162 [some (.inr (.inl (some 75))), some (.inl f), some (.inl y), some (.inl t1), some (.inl (c + 1)), some (.inl (ω.1 101 c.toInt.toNat)), some (.inl (ω.1 106 (t1 - (1 : Int32)).toInt.toNat)), some (.inl (ω.1 106 t1.toInt.toNat))] [] (xpi ω 106 (t1 - (1 : Int32)).toInt.toNat ((ω.1 106 (t1 - (1 : Int32)).toInt.toNat) * (ω.1 106 t1.toInt.toNat))) r μ' := h
                obtain ⟨n2, hn2, h⟩ := tx_gotoS (t := 5) h em232_162 (by decide)
                exfalso
                omega
            · replace c128_1 : ¬ ¬ (ω.1 101 c.toInt.toNat).toInt = 3 := c128_1
              replace h := tx_iload (p' := 133) h em232_131 rfl rfl
              replace h := tx_iload (p' := 135) h em232_133 rfl rfl
              replace h := tx_isub (p' := 136) h em232_135 rfl
              replace h := tx_goto (t := 158) h em232_136 (by decide)
              obtain ⟨hb158_6, h⟩ := tx_iast (len := 400) (p' := 159) h em232_158 rfl rfl
              replace hb158_6 : (0 : Int) ≤ (t1 - (1 : Int32)).toInt ∧ (t1 - (1 : Int32)).toInt < 400 := hb158_6
              replace h := tx_iinc (v := 1) (p' := 162) h em232_159 (by decide +kernel) rfl rfl
              replace h : eT xq_232 _ 162 [some (.inr (.inl (some 75))), some (.inl f), some (.inl y), some (.inl t1), some (.inl (c + 1)), some (.inl (ω.1 101 c.toInt.toNat)), some (.inl (ω.1 106 (t1 - (1 : Int32)).toInt.toNat)), some (.inl (ω.1 106 t1.toInt.toNat))] [] (xpi ω 106 (t1 - (1 : Int32)).toInt.toNat ((ω.1 106 (t1 - (1 : Int32)).toInt.toNat) - (ω.1 106 t1.toInt.toNat))) r μ' := h
              obtain ⟨n2, hn2, h⟩ := tx_gotoS (t := 5) h em232_162 (by decide)
              exfalso
              omega
          · replace c114_1 : ¬ ¬ (ω.1 101 c.toInt.toNat).toInt = 2 := c114_1
            replace h := tx_iload (p' := 119) h em232_117 rfl rfl
            replace h := tx_iload (p' := 121) h em232_119 rfl rfl
            replace h := tx_iadd (p' := 122) h em232_121 rfl
            replace h := tx_goto (t := 158) h em232_122 (by decide)
            obtain ⟨hb158_7, h⟩ := tx_iast (len := 400) (p' := 159) h em232_158 rfl rfl
            replace hb158_7 : (0 : Int) ≤ (t1 - (1 : Int32)).toInt ∧ (t1 - (1 : Int32)).toInt < 400 := hb158_7
            replace h := tx_iinc (v := 1) (p' := 162) h em232_159 (by decide +kernel) rfl rfl
            replace h : eT xq_232 _ 162 [some (.inr (.inl (some 75))), some (.inl f), some (.inl y), some (.inl t1), some (.inl (c + 1)), some (.inl (ω.1 101 c.toInt.toNat)), some (.inl (ω.1 106 (t1 - (1 : Int32)).toInt.toNat)), some (.inl (ω.1 106 t1.toInt.toNat))] [] (xpi ω 106 (t1 - (1 : Int32)).toInt.toNat ((ω.1 106 (t1 - (1 : Int32)).toInt.toNat) + (ω.1 106 t1.toInt.toNat))) r μ' := h
            obtain ⟨n2, hn2, h⟩ := tx_gotoS (t := 5) h em232_162 (by decide)
            exfalso
            omega
        · replace c94 : ¬ ¬ (ω.1 106 t1.toInt.toNat).toInt = 0 := c94
          replace h := tx_aload_n (p' := 98) h em232_97 rfl rfl
          replace h := tx_iconst (v := 1) (p' := 99) h em232_98 (by decide +kernel) rfl
          replace h := tx_putf (a := 75) (c := 12) (j := 58) (p' := 102) h em232_99 ((congrFun xo_12 320).trans rfl) rfl
          replace h := tx_iconst (v := 0) (p' := 103) h em232_102 (by decide +kernel) rfl
          obtain ⟨rfl, hμ⟩ := tx_ireturn h em232_103
          exfalso
          rw [et1] at c94
          exact hz (Int32.toInt_inj.mp ((by omega : (ω.1 106 (t.toInt - 1).toNat).toInt = 0).trans (by decide)))
    · replace c23 : ¬ 2 ≤ (ω.1 101 c.toInt.toNat).toInt := c23
      replace h := tx_aload_n (p' := 27) h em232_26 rfl rfl
      replace h := tx_getc (c := 12) (j := 57) (p' := 30) h em232_27 ((congrFun xo_12 110).trans rfl) rfl rfl rfl
      replace h := tx_iload_n (p' := 31) h em232_30 rfl rfl
      replace h := tx_iload (p' := 33) h em232_31 rfl rfl
      rcases tx_if (t := 46) (p' := 36) h em232_33 (by decide) rfl with ⟨c33, h⟩ | ⟨c33, h⟩
      · replace c33 : ¬ (ω.1 101 c.toInt.toNat).toInt = 0 := c33
        replace h := tx_aload_n (p' := 47) h em232_46 rfl rfl
        replace h := tx_getc (c := 12) (j := 56) (p' := 50) h em232_47 ((congrFun xo_12 107).trans rfl) rfl rfl rfl
        replace h := tx_aload_n (p' := 51) h em232_50 rfl rfl
        replace h := tx_getc (c := 12) (j := 51) (p' := 54) h em232_51 ((congrFun xo_12 98).trans rfl) rfl rfl rfl
        replace h := tx_iload (p' := 56) h em232_54 rfl rfl
        obtain ⟨hb56, h⟩ := tx_iald (len := 840) (p' := 57) h em232_56 rfl rfl
        replace hb56 : (0 : Int) ≤ c.toInt ∧ c.toInt < 840 := hb56
        obtain ⟨hb57, h⟩ := tx_iald (len := 9) (p' := 58) h em232_57 rfl rfl
        replace hb57 : (0 : Int) ≤ (ω.1 102 c.toInt.toNat).toInt ∧ (ω.1 102 c.toInt.toNat).toInt < 9 := hb57
        obtain ⟨hb58, h⟩ := tx_iast (len := 400) (p' := 59) h em232_58 rfl rfl
        replace hb58 : (0 : Int) ≤ t.toInt ∧ t.toInt < 400 := hb58
        replace h := tx_iinc (v := 1) (p' := 62) h em232_59 (by decide +kernel) rfl rfl
        replace h : eT xq_232 _ 62 [some (.inr (.inl (some 75))), some (.inl f), some (.inl y), some (.inl (t + 1)), some (.inl c), some (.inl (ω.1 101 c.toInt.toNat)), o6, o7] [] (xpi ω 106 t.toInt.toNat (ω.1 105 (ω.1 102 c.toInt.toNat).toInt.toNat)) r μ' := h
        replace h := tx_goto (t := 159) h em232_62 (by decide)
        replace h := tx_iinc (v := 1) (p' := 162) h em232_159 (by decide +kernel) rfl rfl
        replace h : eT xq_232 _ 162 [some (.inr (.inl (some 75))), some (.inl f), some (.inl y), some (.inl (t + 1)), some (.inl (c + 1)), some (.inl (ω.1 101 c.toInt.toNat)), o6, o7] [] (xpi ω 106 t.toInt.toNat (ω.1 105 (ω.1 102 c.toInt.toNat).toInt.toNat)) r μ' := h
        obtain ⟨n2, hn2, h⟩ := tx_gotoS (t := 5) h em232_162 (by decide)
        exfalso
        omega
      · replace c33 : ¬ ¬ (ω.1 101 c.toInt.toNat).toInt = 0 := c33
        replace h := tx_aload_n (p' := 37) h em232_36 rfl rfl
        replace h := tx_getc (c := 12) (j := 51) (p' := 40) h em232_37 ((congrFun xo_12 98).trans rfl) rfl rfl rfl
        replace h := tx_iload (p' := 42) h em232_40 rfl rfl
        obtain ⟨hb42, h⟩ := tx_iald (len := 840) (p' := 43) h em232_42 rfl rfl
        replace hb42 : (0 : Int) ≤ c.toInt ∧ c.toInt < 840 := hb42
        replace h := tx_goto (t := 58) h em232_43 (by decide)
        obtain ⟨hb58_1, h⟩ := tx_iast (len := 400) (p' := 59) h em232_58 rfl rfl
        replace hb58_1 : (0 : Int) ≤ t.toInt ∧ t.toInt < 400 := hb58_1
        replace h := tx_iinc (v := 1) (p' := 62) h em232_59 (by decide +kernel) rfl rfl
        replace h : eT xq_232 _ 62 [some (.inr (.inl (some 75))), some (.inl f), some (.inl y), some (.inl (t + 1)), some (.inl c), some (.inl (ω.1 101 c.toInt.toNat)), o6, o7] [] (xpi ω 106 t.toInt.toNat (ω.1 102 c.toInt.toNat)) r μ' := h
        replace h := tx_goto (t := 159) h em232_62 (by decide)
        replace h := tx_iinc (v := 1) (p' := 162) h em232_159 (by decide +kernel) rfl rfl
        replace h : eT xq_232 _ 162 [some (.inr (.inl (some 75))), some (.inl f), some (.inl y), some (.inl (t + 1)), some (.inl (c + 1)), some (.inl (ω.1 101 c.toInt.toNat)), o6, o7] [] (xpi ω 106 t.toInt.toNat (ω.1 102 c.toInt.toNat)) r μ' := h
        obtain ⟨n2, hn2, h⟩ := tx_gotoS (t := 5) h em232_162 (by decide)
        exfalso
        omega
set_option maxRecDepth 10000 in
set_option maxHeartbeats 4000000 in
theorem tr_end {n : Nat} {f y t c : Int32} {o5 o6 o7 : Option zV} {ω μ' : xM} {r : Option zV} (h : eT xq_232 n 5 [some (.inr (.inl (some 75))), some (.inl f), some (.inl y), some (.inl t), some (.inl c), o5, o6, o7] [] ω r μ') (hc : ¬ c.toInt < y.toInt) : r = some (.inl (ω.1 106 0)) ∧ μ' = ω := by
  replace h := tx_iload (p' := 7) h em232_5 rfl rfl
  replace h := tx_iload_n (p' := 8) h em232_7 rfl rfl
  rcases tx_icmp (t := 165) (p' := 11) h em232_8 (by decide) rfl with ⟨c8, h⟩ | ⟨c8, h⟩
  · replace c8 : y.toInt ≤ c.toInt := c8
    replace h := tx_aload_n (p' := 166) h em232_165 rfl rfl
    replace h := tx_getc (c := 12) (j := 57) (p' := 169) h em232_166 ((congrFun xo_12 110).trans rfl) rfl rfl rfl
    replace h := tx_iconst (v := 0) (p' := 170) h em232_169 (by decide +kernel) rfl
    obtain ⟨hb170, h⟩ := tx_iald (len := 400) (p' := 171) h em232_170 rfl rfl
    replace hb170 : (0 : Int) ≤ 0 ∧ (0 : Int) < 400 := hb170
    replace h : eT xq_232 _ 171 [some (.inr (.inl (some 75))), some (.inl f), some (.inl y), some (.inl t), some (.inl c), o5, o6, o7] [.inl (ω.1 106 0)] ω r μ' := h
    obtain ⟨rfl, hμ⟩ := tx_ireturn h em232_171
    exact ⟨rfl, hμ⟩
  · replace c8 : ¬ y.toInt ≤ c.toInt := c8
    exfalso
    omega
theorem tr_seg {f y : Int32} {ω0 μ' : xM} {r : Option zV} : ∀ (C : List kOp) (n : Nat) (c t : Int32) (o5 o6 o7 : Option zV) (ω : xM) (st : List Int32), eT xq_232 n 5 [some (.inr (.inl (some 75))), some (.inl f), some (.inl y), some (.inl t), some (.inl c), o5, o6, o7] [] ω r μ' → pK ω0 ω st t → st.length ≤ 400 → 0 ≤ c.toInt → c.toInt + C.length = y.toInt → oLs C → rAt ω0 c.toInt.toNat C → (∃ st' ω', runV (fun i => ω0.1 105 i) C st = some st' ∧ pEa ω0 ω' ∧ r = some (.inl (ω'.1 106 0)) ∧ μ' = ω' ∧ ∃ t', pK ω0 ω' st' t') ∨ (runV (fun i => ω0.1 105 i) C st = none ∧ r = some (.inl 0) ∧ ∃ ω', pEa ω0 ω' ∧ μ' = xpi ω' 75 58 (1 : Int32))
  | [], n, c, t, o5, o6, o7, ω, st, h, hK, h4, hq, hl, _, _ => by
    obtain ⟨g1, g2⟩ := tr_end h (by have e : ([] : List kOp).length = 0 := rfl; rw [e] at hl; omega)
    exact Or.inl ⟨st, ω, rfl, hK.1, g1, g2, t, hK⟩
  | o :: C, n, c, t, o5, o6, o7, ω, st, h, hK, h4, hq, hl, ho, hA => by
    rw [List.length_cons] at hl
    have hy := an_hi y
    have e1 : (1 : Int32).toInt = 1 := by decide
    have hc1 : (c + 1).toInt = c.toInt + 1 := by rw [an_add (by rw [e1]; omega) (by rw [e1]; omega), e1]
    obtain ⟨hE, hT, hS⟩ := hK
    have hK : pK ω0 ω st t := ⟨hE, hT, hS⟩
    have ht1 : (t + 1).toInt = t.toInt + 1 := by rw [an_add (by rw [e1]; omega) (by rw [e1]; omega), e1]
    obtain ⟨a1, a2⟩ := rAt_h hA
    have b1 : (ω.1 101 c.toInt.toNat).toInt = o.1 := by rw [hE.1 101 _ (by decide)]; exact a1
    have e11 : ω.1 102 c.toInt.toNat = ω0.1 102 c.toInt.toNat := hE.1 102 _ (by decide)
    have hoo := ho o List.mem_cons_self
    have hoC : oLs C := fun x hx => ho x (List.mem_cons_of_mem _ hx)
    have hA1 : rAt ω0 (c + 1).toInt.toNat C := by
      rw [show (c + 1).toInt.toNat = c.toInt.toNat + 1 by omega]
      exact rAt_t hA
    show (∃ st' ω', ((opV (fun i => ω0.1 105 i) o st).bind (runV (fun i => ω0.1 105 i) C)) = some st' ∧ _ ∧ _ ∧ _ ∧ _) ∨ (((opV (fun i => ω0.1 105 i) o st).bind (runV (fun i => ω0.1 105 i) C)) = none ∧ _ ∧ _)
    have hcl : c.toInt < y.toInt := by omega
    have ht4 : t.toInt ≤ 1000 := by omega
    have ht0 : 0 ≤ t.toInt := by omega
    by_cases c0 : o.1 = 0
    · obtain ⟨g0, n', x5, x6, x7, g⟩ := tr_push0 h hcl ht0 ht4 (by omega)
      have ev0 : opV (fun i => ω0.1 105 i) o st = some (ω.1 102 c.toInt.toNat :: st) := by
        unfold opV
        rw [if_pos c0, e11, ← a2, Int32.ofInt_toInt]
      rw [ev0]
      exact tr_seg C n' (c + 1) (t + 1) x5 x6 x7 _ _ g (pK_push hK ht1) (by rw [List.length_cons]; omega) (by omega) (by omega) hoC hA1
    · by_cases c1 : o.1 = 1
      · obtain ⟨g0, n', x5, x6, x7, g⟩ := tr_push1 h hcl ht0 ht4 (by omega)
        have ev0 : opV (fun i => ω0.1 105 i) o st = some (ω.1 105 (ω.1 102 c.toInt.toNat).toInt.toNat :: st) := by
          unfold opV
          rw [if_neg c0, if_pos c1, e11, ← a2, hE.1 105 _ (by decide)]
        rw [ev0]
        exact tr_seg C n' (c + 1) (t + 1) x5 x6 x7 _ _ g (pK_push hK ht1) (by rw [List.length_cons]; omega) (by omega) (by omega) hoC hA1
      · have c25 : 2 ≤ o.1 ∧ o.1 ≤ 5 := by rcases hoo with q | q | q <;> omega
        match st, hK, hT, h4, hS, ht1 with
        | [], hK, hT, h4, hS, ht1 => exact absurd (tr_few h hcl ht0 ht4 (by omega) (by rw [hT]; decide)) (fun q => q)
        | [x], hK, hT, h4, hS, ht1 => exact absurd (tr_few h hcl ht0 ht4 (by omega) (by rw [hT]; show ((1 : Nat) : Int) < 2; decide)) (fun q => q)
        | b :: a :: st, hK, hT, h4, hS, ht1 =>
          rw [List.length_cons, List.length_cons] at hT h4
          have hb : ω.1 106 (t.toInt - 1).toNat = b := by
            have q := pK_0 hK
            rw [List.length_cons] at q
            rw [show (t.toInt - 1).toNat = st.length + 1 by omega]; exact q
          have ha : ω.1 106 (t.toInt - 2).toNat = a := by
            have q := hS 1 (by rw [List.length_cons, List.length_cons]; omega)
            rw [List.length_cons, List.length_cons] at q
            rw [show (t.toInt - 2).toNat = st.length + 1 + 1 - 1 - 1 by omega]; exact q
          have hK2 : ∀ (v : Int32) (t1 : Int32), t1.toInt = t.toInt - 1 → pK ω0 (xpi ω 106 (t.toInt - 2).toNat v) (v :: st) t1 := fun v t1 e => by
            refine ⟨pEa_i hE, by rw [e, List.length_cons]; omega, fun i hi => ?_⟩
            rw [List.length_cons] at hi ⊢
            cases i with
            | zero => rw [show st.length + 1 - 1 - 0 = (t.toInt - 2).toNat by omega, xpi_at]; rfl
            | succ i =>
              have q := hS (i + 1 + 1) (by rw [List.length_cons, List.length_cons]; omega)
              rw [List.length_cons, List.length_cons, show st.length + 1 + 1 - 1 - (i + 1 + 1) = st.length + 1 - 1 - (i + 1) by omega] at q
              rw [xpi_ne (fun z => by omega)]
              exact q
          have eop : opV (fun i => ω0.1 105 i) o (b :: a :: st) = if o.1 = 5 ∧ b = 0 then none else some ((if o.1 = 2 then a + b else if o.1 = 3 then a - b else if o.1 = 4 then a * b else a / b) :: st) := by
            unfold opV
            rw [if_neg c0, if_neg c1]
          rw [eop]
          have h4c : o.1 = 2 ∨ o.1 = 3 ∨ o.1 = 4 ∨ o.1 = 5 := by omega
          rcases h4c with z | z | z | z
          · obtain ⟨n', x5, x6, x7, t1, e1, g⟩ := tr_op2 h hcl ht0 ht4 (by omega) (by omega)
            rw [ha, hb] at g
            rw [if_neg (fun q => by omega), if_pos z]
            exact tr_seg C n' (c + 1) t1 x5 x6 x7 _ _ g (hK2 _ _ e1) (by rw [List.length_cons]; omega) (by omega) (by omega) hoC hA1
          · obtain ⟨n', x5, x6, x7, t1, e1, g⟩ := tr_op3 h hcl ht0 ht4 (by omega) (by omega)
            rw [ha, hb] at g
            rw [if_neg (fun q => by omega), if_neg (by omega), if_pos z]
            exact tr_seg C n' (c + 1) t1 x5 x6 x7 _ _ g (hK2 _ _ e1) (by rw [List.length_cons]; omega) (by omega) (by omega) hoC hA1
          · obtain ⟨n', x5, x6, x7, t1, e1, g⟩ := tr_op4 h hcl ht0 ht4 (by omega) (by omega)
            rw [ha, hb] at g
            rw [if_neg (fun q => by omega), if_neg (by omega), if_neg (by omega), if_pos z]
            exact tr_seg C n' (c + 1) t1 x5 x6 x7 _ _ g (hK2 _ _ e1) (by rw [List.length_cons]; omega) (by omega) (by omega) hoC hA1
          · by_cases hz : b = 0
            · obtain ⟨g1, g2⟩ := tr_div0 h hcl ht0 ht4 (by omega) (by omega) (by rw [hb]; exact hz)
              rw [if_pos ⟨z, hz⟩]
              exact Or.inr ⟨rfl, g1, ω, hE, g2⟩
            · obtain ⟨n', x5, x6, x7, t1, e1, g⟩ := tr_op5 h hcl ht0 ht4 (by omega) (by omega) (by rw [hb]; exact hz)
              rw [ha, hb] at g
              rw [if_neg (fun q => hz q.2), if_neg (by omega), if_neg (by omega), if_neg (by omega)]
              exact tr_seg C n' (c + 1) t1 x5 x6 x7 _ _ g (hK2 _ _ e1) (by rw [List.length_cons]; omega) (by omega) (by omega) hoC hA1
set_option maxRecDepth 10000 in
set_option maxHeartbeats 4000000 in
theorem ex_termOf {f y : Int32} {lo hi : Int} {C : List kOp} {μ μ' : xM} {r : Option zV} (h0 : Ex gx xq_232 [.inr (.inl (some 75)), .inl f, .inl y] μ r μ') (hs : sg μ lo hi f.toInt y.toInt C) (h0l : 0 ≤ lo) (ho : oLs C) (hk : eOk 15 C) : (∃ v, ev (fun i => μ.1 105 i) C = some v ∧ r = some (.inl v) ∧ pEa μ μ') ∨ (ev (fun i => μ.1 105 i) C = none ∧ r = some (.inl 0) ∧ pE9 μ μ' ∧ μ'.1 75 58 = 1) := by
  obtain ⟨n, h⟩ := tx_in (L := [some (.inr (.inl (some 75))), some (.inl f), some (.inl y), none, none, none, none, none]) h0 rfl
  replace h := tx_iconst (v := 0) (p' := 1) h em232_0 (by decide +kernel) rfl
  replace h := tx_istore_n (p' := 2) h em232_1 rfl
  replace h : eT xq_232 _ 2 [some (.inr (.inl (some 75))), some (.inl f), some (.inl y), some (.inl (0 : Int32)), none, none, none, none] [] μ r μ' := h
  replace h := tx_iload_n (p' := 3) h em232_2 rfl rfl
  replace h := tx_istore (p' := 5) h em232_3 rfl
  replace h : eT xq_232 _ 5 [some (.inr (.inl (some 75))), some (.inl f), some (.inl y), some (.inl (0 : Int32)), some (.inl f), none, none, none] [] μ r μ' := h
  obtain ⟨s1, s2, s3, s4⟩ := hs
  have e0 : (0 : Int32).toInt = 0 := by decide
  have hr := (hk (fun i => μ.1 105 i) []).1
  rcases tr_seg (ω0 := μ) C _ _ _ _ _ _ _ [] h ⟨⟨fun _ _ _ => rfl, rfl⟩, e0, fun i hi => absurd hi (Nat.not_lt_zero i)⟩ (by decide) (by omega) (by omega) ho (fun i hi => s4 i hi) with ⟨st, ω', e1, e2, e3, e4, t', e5⟩ | ⟨e1, e2, ω', e3, e4⟩
  · rw [hr] at e1
    cases hv : ev (fun i => μ.1 105 i) C with
    | none => rw [hv] at e1; cases e1
    | some w =>
      rw [hv] at e1
      have e1 : [w] = st := Option.some.inj e1
      subst e1
      refine Or.inl ⟨w, rfl, ?_, by rw [e4]; exact e2⟩
      have q := pK_0 e5
      rw [e3, show ω'.1 106 0 = w from q]
  · rw [hr] at e1
    cases hv : ev (fun i => μ.1 105 i) C with
    | none => exact Or.inr ⟨rfl, e2, by rw [e4]; exact ⟨fun k j a b => (xpi_ne b).trans (e3.1 k j a), e3.2⟩, by rw [e4]; exact xpi_at⟩
    | some w => rw [hv] at e1; cases e1
theorem rLw_tl {ω : xM} {lo hi f l : Int} {X : List kOp × List kOp × List kOp} {B : List (List kOp × List kOp × List kOp)} {D : List kOp} (h : rLw ω lo hi f l (X :: B, D)) : brc ω lo hi f.toNat X ∧ f < l ∧ rLw ω lo hi (f + 1) l (B, D) := by
  obtain ⟨a, b, c, d, e⟩ := h
  have b : l = f + ((B.length + 1 : Nat) : Int) + 1 := b
  have d : (ω.1 96 (f.toNat + (B.length + 1))).toInt = 0 := d
  have e : sg ω lo hi (ω.1 99 (f.toNat + (B.length + 1))).toInt (ω.1 100 (f.toNat + (B.length + 1))).toInt D := e
  have ef : (f + 1).toNat = f.toNat + 1 := by omega
  refine ⟨c 0 (Nat.succ_pos _), by omega, by omega, by show l = f + 1 + (B.length : Int) + 1; omega, fun i hi => ?_, ?_, ?_⟩
  · have q := c (i + 1) (Nat.succ_lt_succ hi)
    rw [ef, show f.toNat + 1 + i = f.toNat + (i + 1) by omega]
    exact q
  · show (ω.1 96 ((f + 1).toNat + B.length)).toInt = 0
    rw [ef, show f.toNat + 1 + B.length = f.toNat + (B.length + 1) by omega]; exact d
  · show sg ω lo hi (ω.1 99 ((f + 1).toNat + B.length)).toInt (ω.1 100 ((f + 1).toNat + B.length)).toInt D
    rw [ef, show f.toNat + 1 + B.length = f.toNat + (B.length + 1) by omega]; exact e
theorem sg_9 {ω m : xM} {lo hi x y : Int} {C : List kOp} (h : sg ω lo hi x y C) (e : pE9 ω m) : sg m lo hi x y C := sg_u h (fun j => e.1 101 j (by decide) (fun q => absurd q.1 (by decide))) (fun j => e.1 102 j (by decide) (fun q => absurd q.1 (by decide)))
theorem pE9_c {ω m : xM} (e : pE9 ω m) {k j : Nat} (h1 : k ≠ 106) (h2 : k ≠ 75) : m.1 k j = ω.1 k j := e.1 k j h1 (fun q => h2 q.1)
theorem evV_9 {ω m : xM} (e : pE9 ω m) : (fun i => m.1 105 i) = fun i => ω.1 105 i := funext fun i => pE9_c e (by decide) (by decide)
abbrev xq_159 : xP := (⟨"CapitalCaseModel", "lawTells", "(II)I"⟩, prog_14_method_58_code, 7, (some .int))
set_option maxRecDepth 10000 in
set_option maxHeartbeats 4000000 in
theorem lt_term {l pl aa b : Int32} {o5 o6 : Option zV} {n : Nat} {μ ω μ' : xM} {r : Option zV} {lo hi : Int} {C : List kOp} (h : eT xq_159 n 119 [some (.inr (.inl (some 75))), some (.inl l), some (.inl pl), some (.inl aa), some (.inl b), o5, o6] [] ω r μ') (hF : pE9 μ ω) (hB : ω.1 75 58 = 0) (h0l : 0 ≤ lo) (sC9 : sg μ lo hi (μ.1 99 b.toInt.toNat).toInt (μ.1 100 b.toInt.toNat).toInt C) (oC : oLs C) (kC : eOk 15 C) : r = some (.inl ((ev (fun i => μ.1 105 i) C).getD 0)) ∧ pE9 μ μ' := by
  replace h := tx_aload_n (p' := 120) h em159_119 rfl rfl
  replace h := tx_aload_n (p' := 121) h em159_120 rfl rfl
  replace h := tx_getc (c := 12) (j := 47) (p' := 124) h em159_121 ((congrFun xo_12 89).trans rfl) rfl rfl rfl
  replace h := tx_iload (p' := 126) h em159_124 rfl rfl
  obtain ⟨hb126, h⟩ := tx_iald (len := 260) (p' := 127) h em159_126 rfl rfl
  replace hb126 : (0 : Int) ≤ b.toInt ∧ b.toInt < 260 := hb126
  replace h := tx_aload_n (p' := 128) h em159_127 rfl rfl
  replace h := tx_getc (c := 12) (j := 48) (p' := 131) h em159_128 ((congrFun xo_12 92).trans rfl) rfl rfl rfl
  replace h := tx_iload (p' := 133) h em159_131 rfl rfl
  obtain ⟨hb133, h⟩ := tx_iald (len := 260) (p' := 134) h em159_133 rfl rfl
  replace hb133 : (0 : Int) ≤ b.toInt ∧ b.toInt < 260 := hb133
  obtain ⟨r134, μ134, hE134, h⟩ := tx_invV (na := 3) (mn := 232) (as := [.inr (.inl (some 75)), .inl (ω.1 99 b.toInt.toNat), .inl (ω.1 100 b.toInt.toNat)]) (rest := []) (p' := 137) h em159_134 ((congrFun xo_12 350).trans rfl) xm_232 rfl rfl
  have hs134 := sg_9 sC9 (hF)
  rcases ex_termOf (C := C) hE134 (by rw [pE9_c (hF) (by decide) (by decide), pE9_c (hF) (by decide) (by decide)]; exact hs134) h0l oC kC with ⟨v134, ev134, rfl, fe134⟩ | ⟨ev134, rfl, fe134, br134⟩
  · have fr134 := pE9_tr (hF) (pEa_9 fe134)
    rw [evV_9 (hF)] at ev134
    replace h : eT xq_159 _ 137 [some (.inr (.inl (some 75))), some (.inl l), some (.inl pl), some (.inl aa), some (.inl b), o5, o6] [.inl v134] μ134 r μ' := h
    replace h := tx_istore (p' := 139) h em159_137 rfl
    replace h : eT xq_159 _ 139 [some (.inr (.inl (some 75))), some (.inl l), some (.inl pl), some (.inl aa), some (.inl b), some (.inl v134), o6] [] μ134 r μ' := h
    replace h := tx_aload_n (p' := 140) h em159_139 rfl rfl
    replace h := tx_getf (c := 12) (j := 58) (p' := 143) h em159_140 ((congrFun xo_12 320).trans rfl) rfl rfl (by decide) rfl
    rcases tx_if (t := 150) (p' := 146) h em159_143 (by decide) rfl with ⟨c143, h⟩ | ⟨c143, h⟩
    · replace c143 : (μ134.1 75 58).toInt = 0 := c143
      replace h := tx_iload (p' := 152) h em159_150 rfl rfl
      obtain ⟨rfl, hμ⟩ := tx_ireturn h em159_152
      rw [hμ]
      rw [ev134]
      exact ⟨rfl, fr134⟩
    · replace c143 : ¬ (μ134.1 75 58).toInt = 0 := c143
      replace h := tx_iconst (v := 0) (p' := 147) h em159_146 (by decide +kernel) rfl
      replace h := tx_goto (t := 152) h em159_147 (by decide)
      obtain ⟨rfl, hμ⟩ := tx_ireturn h em159_152
      rw [hμ]
      exfalso
      have q := fe134.1 75 58 (by decide)
      rw [hB] at q
      rw [q] at c143
      exact absurd (by decide) c143
  · have fr134 := pE9_tr (hF) fe134
    rw [evV_9 (hF)] at ev134
    replace h : eT xq_159 _ 137 [some (.inr (.inl (some 75))), some (.inl l), some (.inl pl), some (.inl aa), some (.inl b), o5, o6] [.inl (0 : Int32)] μ134 r μ' := h
    replace h := tx_istore (p' := 139) h em159_137 rfl
    replace h : eT xq_159 _ 139 [some (.inr (.inl (some 75))), some (.inl l), some (.inl pl), some (.inl aa), some (.inl b), some (.inl (0 : Int32)), o6] [] μ134 r μ' := h
    replace h := tx_aload_n (p' := 140) h em159_139 rfl rfl
    replace h := tx_getf (c := 12) (j := 58) (p' := 143) h em159_140 ((congrFun xo_12 320).trans rfl) rfl rfl (by decide) rfl
    rcases tx_if (t := 150) (p' := 146) h em159_143 (by decide) rfl with ⟨c143_1, h⟩ | ⟨c143_1, h⟩
    · replace c143_1 : (μ134.1 75 58).toInt = 0 := c143_1
      replace h := tx_iload (p' := 152) h em159_150 rfl rfl
      obtain ⟨rfl, hμ⟩ := tx_ireturn h em159_152
      rw [hμ]
      exfalso
      rw [br134] at c143_1
      exact absurd c143_1 (by decide)
    · replace c143_1 : ¬ (μ134.1 75 58).toInt = 0 := c143_1
      replace h := tx_iconst (v := 0) (p' := 147) h em159_146 (by decide +kernel) rfl
      replace h := tx_goto (t := 152) h em159_147 (by decide)
      obtain ⟨rfl, hμ⟩ := tx_ireturn h em159_152
      rw [hμ]
      rw [ev134]
      exact ⟨rfl, fr134⟩
theorem evL_nn {V : kVr} {A B C D : List kOp} {t : List (List kOp × List kOp × List kOp)} (h : ev V A = none) : evL V ((A, B, C) :: t) D = 0 := by
  show (match ev V A, ev V B with
    | some u, some v => if u < v then (ev V C).getD 0 else evL V t D
    | _, _ => 0) = 0
  rw [h]
theorem evL_sn {V : kVr} {A B C D : List kOp} {t : List (List kOp × List kOp × List kOp)} {u : Int32} (h : ev V A = some u) (h2 : ev V B = none) : evL V ((A, B, C) :: t) D = 0 := by
  show (match ev V A, ev V B with
    | some u, some v => if u < v then (ev V C).getD 0 else evL V t D
    | _, _ => 0) = 0
  rw [h, h2]
theorem evL_ss {V : kVr} {A B C D : List kOp} {t : List (List kOp × List kOp × List kOp)} {u v : Int32} (h : ev V A = some u) (h2 : ev V B = some v) : evL V ((A, B, C) :: t) D = if u < v then (ev V C).getD 0 else evL V t D := by
  show (match ev V A, ev V B with
    | some u, some v => if u < v then (ev V C).getD 0 else evL V t D
    | _, _ => 0) = _
  rw [h, h2]
set_option maxRecDepth 10000 in
set_option maxHeartbeats 4000000 in
theorem lt_loop {l pl aa : Int32} {μ μ' : xM} {r : Option zV} {lo hi la : Int} {D : List kOp} (h0l : 0 ≤ lo) (hoD : oLs D) (hkD : eOk 15 D) : ∀ (BB : List (List kOp × List kOp × List kOp)) (n : Nat) (b : Int32) (o5 o6 : Option zV) (ω : xM), eT xq_159 n 39 [some (.inr (.inl (some 75))), some (.inl l), some (.inl pl), some (.inl aa), some (.inl b), o5, o6] [] ω r μ' → pE9 μ ω → ω.1 75 58 = 0 → rLw μ lo hi b.toInt la (BB, D) → la = (μ.1 95 aa.toInt.toNat).toInt → (∀ X, X ∈ BB → oLs X.1 ∧ oLs X.2.1 ∧ oLs X.2.2) → (∀ X, X ∈ BB → eOk 15 X.1 ∧ eOk 15 X.2.1 ∧ eOk 15 X.2.2) → r = some (.inl (evL (fun i => μ.1 105 i) BB D)) ∧ pE9 μ μ'
  | [], n, b, o5, o6, ω, h, hF, hB, hL, hla, _, _ => by
    have e1i : (1 : Int32).toInt = 1 := by decide
    obtain ⟨r1, r2, r3, r4, sD⟩ := hL
    have r2 : la = b.toInt + ((0 : Nat) : Int) + 1 := r2
    have r4 : (μ.1 96 b.toInt.toNat).toInt = 0 := r4
    have r4' : (ω.1 96 b.toInt.toNat).toInt = 0 := by rw [pE9_c hF (by decide) (by decide)]; exact r4
    have r5 : (ω.1 95 aa.toInt.toNat).toInt = la := by rw [pE9_c hF (by decide) (by decide)]; exact hla.symm
    have sD : sg μ lo hi (μ.1 99 b.toInt.toNat).toInt (μ.1 100 b.toInt.toNat).toInt D := sD
    replace h := tx_iload (p' := 41) h em159_39 rfl rfl
    replace h := tx_aload_n (p' := 42) h em159_41 rfl rfl
    replace h := tx_getc (c := 12) (j := 42) (p' := 45) h em159_42 ((congrFun xo_12 76).trans rfl) rfl rfl rfl
    replace h := tx_iload_n (p' := 46) h em159_45 rfl rfl
    obtain ⟨hb46, h⟩ := tx_iald (len := 8) (p' := 47) h em159_46 rfl rfl
    replace hb46 : (0 : Int) ≤ aa.toInt ∧ aa.toInt < 8 := hb46
    rcases tx_icmp (t := 159) (p' := 50) h em159_47 (by decide) rfl with ⟨c47, h⟩ | ⟨c47, h⟩
    · replace c47 : (ω.1 95 aa.toInt.toNat).toInt ≤ b.toInt := c47
      replace h := tx_iconst (v := 0) (p' := 160) h em159_159 (by decide +kernel) rfl
      obtain ⟨rfl, hμ⟩ := tx_ireturn h em159_160
      exfalso
      omega
    · replace c47 : ¬ (ω.1 95 aa.toInt.toNat).toInt ≤ b.toInt := c47
      replace h := tx_aload_n (p' := 51) h em159_50 rfl rfl
      replace h := tx_getc (c := 12) (j := 44) (p' := 54) h em159_51 ((congrFun xo_12 79).trans rfl) rfl rfl rfl
      replace h := tx_iload (p' := 56) h em159_54 rfl rfl
      obtain ⟨hb56, h⟩ := tx_bald (len := 260) (p' := 57) h em159_56 rfl rfl
      replace hb56 : (0 : Int) ≤ b.toInt ∧ b.toInt < 260 := hb56
      rcases tx_if (t := 119) (p' := 60) h em159_57 (by decide) rfl with ⟨c57, h⟩ | ⟨c57, h⟩
      · replace c57 : (ω.1 96 b.toInt.toNat).toInt = 0 := c57
        exact lt_term h hF hB h0l sD hoD hkD
      · replace c57 : ¬ (ω.1 96 b.toInt.toNat).toInt = 0 := c57
        exfalso
        omega
  | (A, B1, C) :: t, n, b, o5, o6, ω, h, hF, hB, hL, hla, hoB, hkB => by
    have e1i : (1 : Int32).toInt = 1 := by decide
    have hL := rLw_tl hL
    obtain ⟨r4, sA, sB, sC9⟩ := hL.1
    obtain ⟨oA, oB, oC⟩ := hoB _ List.mem_cons_self
    obtain ⟨kA, kB, kC⟩ := hkB _ List.mem_cons_self
    have r6 := hL.2.1
    have r4' : (ω.1 96 b.toInt.toNat).toInt = 1 := by rw [pE9_c hF (by decide) (by decide)]; exact r4
    have r5 : (ω.1 95 aa.toInt.toNat).toInt = la := by rw [pE9_c hF (by decide) (by decide)]; exact hla.symm
    replace h := tx_iload (p' := 41) h em159_39 rfl rfl
    replace h := tx_aload_n (p' := 42) h em159_41 rfl rfl
    replace h := tx_getc (c := 12) (j := 42) (p' := 45) h em159_42 ((congrFun xo_12 76).trans rfl) rfl rfl rfl
    replace h := tx_iload_n (p' := 46) h em159_45 rfl rfl
    obtain ⟨hb46, h⟩ := tx_iald (len := 8) (p' := 47) h em159_46 rfl rfl
    replace hb46 : (0 : Int) ≤ aa.toInt ∧ aa.toInt < 8 := hb46
    rcases tx_icmp (t := 159) (p' := 50) h em159_47 (by decide) rfl with ⟨c47, h⟩ | ⟨c47, h⟩
    · replace c47 : (ω.1 95 aa.toInt.toNat).toInt ≤ b.toInt := c47
      replace h := tx_iconst (v := 0) (p' := 160) h em159_159 (by decide +kernel) rfl
      obtain ⟨rfl, hμ⟩ := tx_ireturn h em159_160
      exfalso
      omega
    · replace c47 : ¬ (ω.1 95 aa.toInt.toNat).toInt ≤ b.toInt := c47
      replace h := tx_aload_n (p' := 51) h em159_50 rfl rfl
      replace h := tx_getc (c := 12) (j := 44) (p' := 54) h em159_51 ((congrFun xo_12 79).trans rfl) rfl rfl rfl
      replace h := tx_iload (p' := 56) h em159_54 rfl rfl
      obtain ⟨hb56, h⟩ := tx_bald (len := 260) (p' := 57) h em159_56 rfl rfl
      replace hb56 : (0 : Int) ≤ b.toInt ∧ b.toInt < 260 := hb56
      rcases tx_if (t := 119) (p' := 60) h em159_57 (by decide) rfl with ⟨c57, h⟩ | ⟨c57, h⟩
      · replace c57 : (ω.1 96 b.toInt.toNat).toInt = 0 := c57
        exfalso
        omega
      · replace c57 : ¬ (ω.1 96 b.toInt.toNat).toInt = 0 := c57
        replace h := tx_aload_n (p' := 61) h em159_60 rfl rfl
        replace h := tx_aload_n (p' := 62) h em159_61 rfl rfl
        replace h := tx_getc (c := 12) (j := 45) (p' := 65) h em159_62 ((congrFun xo_12 83).trans rfl) rfl rfl rfl
        replace h := tx_iload (p' := 67) h em159_65 rfl rfl
        obtain ⟨hb67, h⟩ := tx_iald (len := 260) (p' := 68) h em159_67 rfl rfl
        replace hb67 : (0 : Int) ≤ b.toInt ∧ b.toInt < 260 := hb67
        replace h := tx_aload_n (p' := 69) h em159_68 rfl rfl
        replace h := tx_getc (c := 12) (j := 46) (p' := 72) h em159_69 ((congrFun xo_12 86).trans rfl) rfl rfl rfl
        replace h := tx_iload (p' := 74) h em159_72 rfl rfl
        obtain ⟨hb74, h⟩ := tx_iald (len := 260) (p' := 75) h em159_74 rfl rfl
        replace hb74 : (0 : Int) ≤ b.toInt ∧ b.toInt < 260 := hb74
        obtain ⟨r75, μ75, hE75, h⟩ := tx_invV (na := 3) (mn := 232) (as := [.inr (.inl (some 75)), .inl (ω.1 97 b.toInt.toNat), .inl (ω.1 98 b.toInt.toNat)]) (rest := []) (p' := 78) h em159_75 ((congrFun xo_12 350).trans rfl) xm_232 rfl rfl
        have hs75 := sg_9 sA (hF)
        rcases ex_termOf (C := A) hE75 (by rw [pE9_c (hF) (by decide) (by decide), pE9_c (hF) (by decide) (by decide)]; exact hs75) h0l oA kA with ⟨v75, ev75, rfl, fe75⟩ | ⟨ev75, rfl, fe75, br75⟩
        · have fr75 := pE9_tr (hF) (pEa_9 fe75)
          rw [evV_9 (hF)] at ev75
          replace h : eT xq_159 _ 78 [some (.inr (.inl (some 75))), some (.inl l), some (.inl pl), some (.inl aa), some (.inl b), o5, o6] [.inl v75] μ75 r μ' := h
          replace h := tx_istore (p' := 80) h em159_78 rfl
          replace h : eT xq_159 _ 80 [some (.inr (.inl (some 75))), some (.inl l), some (.inl pl), some (.inl aa), some (.inl b), some (.inl v75), o6] [] μ75 r μ' := h
          replace h := tx_aload_n (p' := 81) h em159_80 rfl rfl
          replace h := tx_aload_n (p' := 82) h em159_81 rfl rfl
          replace h := tx_getc (c := 12) (j := 46) (p' := 85) h em159_82 ((congrFun xo_12 86).trans rfl) rfl rfl rfl
          replace h := tx_iload (p' := 87) h em159_85 rfl rfl
          obtain ⟨hb87, h⟩ := tx_iald (len := 260) (p' := 88) h em159_87 rfl rfl
          replace hb87 : (0 : Int) ≤ b.toInt ∧ b.toInt < 260 := hb87
          replace h := tx_aload_n (p' := 89) h em159_88 rfl rfl
          replace h := tx_getc (c := 12) (j := 47) (p' := 92) h em159_89 ((congrFun xo_12 89).trans rfl) rfl rfl rfl
          replace h := tx_iload (p' := 94) h em159_92 rfl rfl
          obtain ⟨hb94, h⟩ := tx_iald (len := 260) (p' := 95) h em159_94 rfl rfl
          replace hb94 : (0 : Int) ≤ b.toInt ∧ b.toInt < 260 := hb94
          obtain ⟨r95, μ95, hE95, h⟩ := tx_invV (na := 3) (mn := 232) (as := [.inr (.inl (some 75)), .inl (μ75.1 98 b.toInt.toNat), .inl (μ75.1 99 b.toInt.toNat)]) (rest := []) (p' := 98) h em159_95 ((congrFun xo_12 350).trans rfl) xm_232 rfl rfl
          have hs95 := sg_9 sB (fr75)
          rcases ex_termOf (C := B1) hE95 (by rw [pE9_c (fr75) (by decide) (by decide), pE9_c (fr75) (by decide) (by decide)]; exact hs95) h0l oB kB with ⟨v95, ev95, rfl, fe95⟩ | ⟨ev95, rfl, fe95, br95⟩
          · have fr95 := pE9_tr (fr75) (pEa_9 fe95)
            rw [evV_9 (fr75)] at ev95
            replace h : eT xq_159 _ 98 [some (.inr (.inl (some 75))), some (.inl l), some (.inl pl), some (.inl aa), some (.inl b), some (.inl v75), o6] [.inl v95] μ95 r μ' := h
            replace h := tx_istore (p' := 100) h em159_98 rfl
            replace h : eT xq_159 _ 100 [some (.inr (.inl (some 75))), some (.inl l), some (.inl pl), some (.inl aa), some (.inl b), some (.inl v75), some (.inl v95)] [] μ95 r μ' := h
            replace h := tx_aload_n (p' := 101) h em159_100 rfl rfl
            replace h := tx_getf (c := 12) (j := 58) (p' := 104) h em159_101 ((congrFun xo_12 320).trans rfl) rfl rfl (by decide) rfl
            rcases tx_if (t := 109) (p' := 107) h em159_104 (by decide) rfl with ⟨c104, h⟩ | ⟨c104, h⟩
            · replace c104 : (μ95.1 75 58).toInt = 0 := c104
              replace h := tx_iload (p' := 111) h em159_109 rfl rfl
              replace h := tx_iload (p' := 113) h em159_111 rfl rfl
              rcases tx_icmp (t := 119) (p' := 116) h em159_113 (by decide) rfl with ⟨c113, h⟩ | ⟨c113, h⟩
              · replace c113 : v75.toInt < v95.toInt := c113
                have hlt : v75 < v95 := Int32.lt_iff_toInt_lt.mpr (by omega)
                rw [evL_ss ev75 ev95, if_pos hlt]
                exact lt_term h fr95 (by rw [fe95.1 75 58 (by decide), fe75.1 75 58 (by decide)]; exact hB) h0l sC9 oC kC
              · replace c113 : ¬ v75.toInt < v95.toInt := c113
                replace h := tx_goto (t := 153) h em159_116 (by decide)
                replace h := tx_iinc (v := 1) (p' := 156) h em159_153 (by decide +kernel) rfl rfl
                replace h : eT xq_159 _ 156 [some (.inr (.inl (some 75))), some (.inl l), some (.inl pl), some (.inl aa), some (.inl (b + 1)), some (.inl v75), some (.inl v95)] [] μ95 r μ' := h
                obtain ⟨n2, hn2, h⟩ := tx_gotoS (t := 39) h em159_156 (by decide)
                have hb1 : (b + 1).toInt = b.toInt + 1 := by rw [an_add (by rw [e1i]; omega) (by rw [e1i]; omega), e1i]
                have hge : ¬ v75 < v95 := fun q => by have := Int32.lt_iff_toInt_lt.mp q; omega
                rw [evL_ss ev75 ev95, if_neg hge]
                exact lt_loop h0l hoD hkD t _ _ _ _ _ h fr95 (by rw [fe95.1 75 58 (by decide), fe75.1 75 58 (by decide)]; exact hB) (by rw [hb1]; exact hL.2.2) hla (fun X hX => hoB X (List.mem_cons_of_mem _ hX)) (fun X hX => hkB X (List.mem_cons_of_mem _ hX))
            · replace c104 : ¬ (μ95.1 75 58).toInt = 0 := c104
              replace h := tx_iconst (v := 0) (p' := 108) h em159_107 (by decide +kernel) rfl
              obtain ⟨rfl, hμ⟩ := tx_ireturn h em159_108
              exfalso
              rw [fe95.1 75 58 (by decide), fe75.1 75 58 (by decide), hB] at c104
              exact absurd (by decide) c104
          · have fr95 := pE9_tr (fr75) fe95
            rw [evV_9 (fr75)] at ev95
            replace h : eT xq_159 _ 98 [some (.inr (.inl (some 75))), some (.inl l), some (.inl pl), some (.inl aa), some (.inl b), some (.inl v75), o6] [.inl (0 : Int32)] μ95 r μ' := h
            replace h := tx_istore (p' := 100) h em159_98 rfl
            replace h : eT xq_159 _ 100 [some (.inr (.inl (some 75))), some (.inl l), some (.inl pl), some (.inl aa), some (.inl b), some (.inl v75), some (.inl (0 : Int32))] [] μ95 r μ' := h
            replace h := tx_aload_n (p' := 101) h em159_100 rfl rfl
            replace h := tx_getf (c := 12) (j := 58) (p' := 104) h em159_101 ((congrFun xo_12 320).trans rfl) rfl rfl (by decide) rfl
            rcases tx_if (t := 109) (p' := 107) h em159_104 (by decide) rfl with ⟨c104_1, h⟩ | ⟨c104_1, h⟩
            · replace c104_1 : (μ95.1 75 58).toInt = 0 := c104_1
              replace h := tx_iload (p' := 111) h em159_109 rfl rfl
              replace h := tx_iload (p' := 113) h em159_111 rfl rfl
              rcases tx_icmp (t := 119) (p' := 116) h em159_113 (by decide) rfl with ⟨c113_1, h⟩ | ⟨c113_1, h⟩
              · replace c113_1 : v75.toInt < 0 := c113_1
                exfalso
                rw [br95] at c104_1
                exact absurd c104_1 (by decide)
              · replace c113_1 : ¬ v75.toInt < 0 := c113_1
                replace h := tx_goto (t := 153) h em159_116 (by decide)
                replace h := tx_iinc (v := 1) (p' := 156) h em159_153 (by decide +kernel) rfl rfl
                replace h : eT xq_159 _ 156 [some (.inr (.inl (some 75))), some (.inl l), some (.inl pl), some (.inl aa), some (.inl (b + 1)), some (.inl v75), some (.inl (0 : Int32))] [] μ95 r μ' := h
                obtain ⟨n2, hn2, h⟩ := tx_gotoS (t := 39) h em159_156 (by decide)
                exfalso
                rw [br95] at c104_1
                exact absurd c104_1 (by decide)
            · replace c104_1 : ¬ (μ95.1 75 58).toInt = 0 := c104_1
              replace h := tx_iconst (v := 0) (p' := 108) h em159_107 (by decide +kernel) rfl
              obtain ⟨rfl, hμ⟩ := tx_ireturn h em159_108
              rw [hμ, evL_sn ev75 ev95]
              exact ⟨rfl, fr95⟩
        · have fr75 := pE9_tr (hF) fe75
          rw [evV_9 (hF)] at ev75
          replace h : eT xq_159 _ 78 [some (.inr (.inl (some 75))), some (.inl l), some (.inl pl), some (.inl aa), some (.inl b), o5, o6] [.inl (0 : Int32)] μ75 r μ' := h
          replace h := tx_istore (p' := 80) h em159_78 rfl
          replace h : eT xq_159 _ 80 [some (.inr (.inl (some 75))), some (.inl l), some (.inl pl), some (.inl aa), some (.inl b), some (.inl (0 : Int32)), o6] [] μ75 r μ' := h
          replace h := tx_aload_n (p' := 81) h em159_80 rfl rfl
          replace h := tx_aload_n (p' := 82) h em159_81 rfl rfl
          replace h := tx_getc (c := 12) (j := 46) (p' := 85) h em159_82 ((congrFun xo_12 86).trans rfl) rfl rfl rfl
          replace h := tx_iload (p' := 87) h em159_85 rfl rfl
          obtain ⟨hb87_1, h⟩ := tx_iald (len := 260) (p' := 88) h em159_87 rfl rfl
          replace hb87_1 : (0 : Int) ≤ b.toInt ∧ b.toInt < 260 := hb87_1
          replace h := tx_aload_n (p' := 89) h em159_88 rfl rfl
          replace h := tx_getc (c := 12) (j := 47) (p' := 92) h em159_89 ((congrFun xo_12 89).trans rfl) rfl rfl rfl
          replace h := tx_iload (p' := 94) h em159_92 rfl rfl
          obtain ⟨hb94_1, h⟩ := tx_iald (len := 260) (p' := 95) h em159_94 rfl rfl
          replace hb94_1 : (0 : Int) ≤ b.toInt ∧ b.toInt < 260 := hb94_1
          obtain ⟨r95_1, μ95_1, hE95_1, h⟩ := tx_invV (na := 3) (mn := 232) (as := [.inr (.inl (some 75)), .inl (μ75.1 98 b.toInt.toNat), .inl (μ75.1 99 b.toInt.toNat)]) (rest := []) (p' := 98) h em159_95 ((congrFun xo_12 350).trans rfl) xm_232 rfl rfl
          have hs95_1 := sg_9 sB (fr75)
          rcases ex_termOf (C := B1) hE95_1 (by rw [pE9_c (fr75) (by decide) (by decide), pE9_c (fr75) (by decide) (by decide)]; exact hs95_1) h0l oB kB with ⟨v95_1, ev95_1, rfl, fe95_1⟩ | ⟨ev95_1, rfl, fe95_1, br95_1⟩
          · have fr95_1 := pE9_tr (fr75) (pEa_9 fe95_1)
            rw [evV_9 (fr75)] at ev95_1
            replace h : eT xq_159 _ 98 [some (.inr (.inl (some 75))), some (.inl l), some (.inl pl), some (.inl aa), some (.inl b), some (.inl (0 : Int32)), o6] [.inl v95_1] μ95_1 r μ' := h
            replace h := tx_istore (p' := 100) h em159_98 rfl
            replace h : eT xq_159 _ 100 [some (.inr (.inl (some 75))), some (.inl l), some (.inl pl), some (.inl aa), some (.inl b), some (.inl (0 : Int32)), some (.inl v95_1)] [] μ95_1 r μ' := h
            replace h := tx_aload_n (p' := 101) h em159_100 rfl rfl
            replace h := tx_getf (c := 12) (j := 58) (p' := 104) h em159_101 ((congrFun xo_12 320).trans rfl) rfl rfl (by decide) rfl
            rcases tx_if (t := 109) (p' := 107) h em159_104 (by decide) rfl with ⟨c104_2, h⟩ | ⟨c104_2, h⟩
            · replace c104_2 : (μ95_1.1 75 58).toInt = 0 := c104_2
              replace h := tx_iload (p' := 111) h em159_109 rfl rfl
              replace h := tx_iload (p' := 113) h em159_111 rfl rfl
              rcases tx_icmp (t := 119) (p' := 116) h em159_113 (by decide) rfl with ⟨c113_2, h⟩ | ⟨c113_2, h⟩
              · replace c113_2 : 0 < v95_1.toInt := c113_2
                exfalso
                rw [fe95_1.1 75 58 (by decide), br75] at c104_2
                exact absurd c104_2 (by decide)
              · replace c113_2 : ¬ 0 < v95_1.toInt := c113_2
                replace h := tx_goto (t := 153) h em159_116 (by decide)
                replace h := tx_iinc (v := 1) (p' := 156) h em159_153 (by decide +kernel) rfl rfl
                replace h : eT xq_159 _ 156 [some (.inr (.inl (some 75))), some (.inl l), some (.inl pl), some (.inl aa), some (.inl (b + 1)), some (.inl (0 : Int32)), some (.inl v95_1)] [] μ95_1 r μ' := h
                obtain ⟨n2, hn2, h⟩ := tx_gotoS (t := 39) h em159_156 (by decide)
                exfalso
                rw [fe95_1.1 75 58 (by decide), br75] at c104_2
                exact absurd c104_2 (by decide)
            · replace c104_2 : ¬ (μ95_1.1 75 58).toInt = 0 := c104_2
              replace h := tx_iconst (v := 0) (p' := 108) h em159_107 (by decide +kernel) rfl
              obtain ⟨rfl, hμ⟩ := tx_ireturn h em159_108
              rw [hμ, evL_nn ev75]
              exact ⟨rfl, fr95_1⟩
          · have fr95_1 := pE9_tr (fr75) fe95_1
            rw [evV_9 (fr75)] at ev95_1
            replace h : eT xq_159 _ 98 [some (.inr (.inl (some 75))), some (.inl l), some (.inl pl), some (.inl aa), some (.inl b), some (.inl (0 : Int32)), o6] [.inl (0 : Int32)] μ95_1 r μ' := h
            replace h := tx_istore (p' := 100) h em159_98 rfl
            replace h : eT xq_159 _ 100 [some (.inr (.inl (some 75))), some (.inl l), some (.inl pl), some (.inl aa), some (.inl b), some (.inl (0 : Int32)), some (.inl (0 : Int32))] [] μ95_1 r μ' := h
            replace h := tx_aload_n (p' := 101) h em159_100 rfl rfl
            replace h := tx_getf (c := 12) (j := 58) (p' := 104) h em159_101 ((congrFun xo_12 320).trans rfl) rfl rfl (by decide) rfl
            rcases tx_if (t := 109) (p' := 107) h em159_104 (by decide) rfl with ⟨c104_3, h⟩ | ⟨c104_3, h⟩
            · replace c104_3 : (μ95_1.1 75 58).toInt = 0 := c104_3
              replace h := tx_iload (p' := 111) h em159_109 rfl rfl
              replace h := tx_iload (p' := 113) h em159_111 rfl rfl
              rcases tx_icmp (t := 119) (p' := 116) h em159_113 (by decide) rfl with ⟨c113_3, h⟩ | ⟨c113_3, h⟩
              · replace c113_3 : (0 : Int) < (0 : Int) := c113_3
                exfalso
                omega
              · replace c113_3 : ¬ (0 : Int) < (0 : Int) := c113_3
                replace h := tx_goto (t := 153) h em159_116 (by decide)
                replace h := tx_iinc (v := 1) (p' := 156) h em159_153 (by decide +kernel) rfl rfl
                replace h : eT xq_159 _ 156 [some (.inr (.inl (some 75))), some (.inl l), some (.inl pl), some (.inl aa), some (.inl (b + 1)), some (.inl (0 : Int32)), some (.inl (0 : Int32))] [] μ95_1 r μ' := h
                obtain ⟨n2, hn2, h⟩ := tx_gotoS (t := 39) h em159_156 (by decide)
                exfalso
                rw [br95_1] at c104_3
                exact absurd c104_3 (by decide)
            · replace c104_3 : ¬ (μ95_1.1 75 58).toInt = 0 := c104_3
              replace h := tx_iconst (v := 0) (p' := 108) h em159_107 (by decide +kernel) rfl
              obtain ⟨rfl, hμ⟩ := tx_ireturn h em159_108
              rw [hμ, evL_nn ev75]
              exact ⟨rfl, fr95_1⟩
set_option maxRecDepth 10000 in
set_option maxHeartbeats 4000000 in
theorem ex_lawTells {l pl : Int32} {k s : Nat} {hi bh : Int} {o : Option kLw} {μ μ' : xM} {r : Option zV} (h0 : Ex gx xq_159 [.inr (.inl (some 75)), .inl l, .inl pl] μ r μ') (hl : l.toInt = (k : Int)) (hk4 : k < 4) (hs1 : s ≤ 1) (hs : (μ.1 75 2).toInt = (s : Int)) (hR : rL1 s k hi bh o μ) (hok : ∀ L, o = some L → oLw L ∧ kOkL L) : pE9 μ μ' ∧ (o = none → r = some (.inl pl)) ∧ ∀ L, o = some L → r = some (.inl (evL (fun i => μ.1 105 i) L.1 L.2)) := by
  obtain ⟨n, h⟩ := tx_in (L := [some (.inr (.inl (some 75))), some (.inl l), some (.inl pl), none, none, none, none]) h0 rfl
  have e4i : (4 : Int32).toInt = 4 := by decide
  have em : ((4 : Int32) * (μ.1 75 2)).toInt = 4 * (s : Int) := by rw [an_mul (by rw [e4i, hs]; omega) (by rw [e4i, hs]; omega), e4i, hs]
  have ea : (((4 : Int32) * (μ.1 75 2) + l)).toInt = 4 * (s : Int) + (k : Int) := by rw [an_add (by rw [em]; omega) (by rw [em]; omega), em, hl]
  have ei : (((4 : Int32) * (μ.1 75 2) + l)).toInt.toNat = 4 * s + k := by omega
  replace h := tx_iconst (v := 4) (p' := 1) h em159_0 (by decide +kernel) rfl
  replace h := tx_aload_n (p' := 2) h em159_1 rfl rfl
  replace h := tx_getf (c := 12) (j := 2) (p' := 5) h em159_2 ((congrFun xo_12 230).trans rfl) rfl rfl (by decide) rfl
  replace h := tx_imul (p' := 6) h em159_5 rfl
  replace h := tx_iload_n (p' := 7) h em159_6 rfl rfl
  replace h := tx_iadd (p' := 8) h em159_7 rfl
  replace h := tx_istore_n (p' := 9) h em159_8 rfl
  replace h : eT xq_159 _ 9 [some (.inr (.inl (some 75))), some (.inl l), some (.inl pl), some (.inl (((4 : Int32) * (μ.1 75 2)) + l)), none, none, none] [] μ r μ' := h
  replace h := tx_aload_n (p' := 10) h em159_9 rfl rfl
  replace h := tx_getc (c := 12) (j := 41) (p' := 13) h em159_10 ((congrFun xo_12 73).trans rfl) rfl rfl rfl
  replace h := tx_iload_n (p' := 14) h em159_13 rfl rfl
  obtain ⟨hb14, h⟩ := tx_iald (len := 8) (p' := 15) h em159_14 rfl rfl
  replace hb14 : (0 : Int) ≤ (((4 : Int32) * (μ.1 75 2)) + l).toInt ∧ (((4 : Int32) * (μ.1 75 2)) + l).toInt < 8 := hb14
  replace h := tx_aload_n (p' := 16) h em159_15 rfl rfl
  replace h := tx_getc (c := 12) (j := 42) (p' := 19) h em159_16 ((congrFun xo_12 76).trans rfl) rfl rfl rfl
  replace h := tx_iload_n (p' := 20) h em159_19 rfl rfl
  obtain ⟨hb20, h⟩ := tx_iald (len := 8) (p' := 21) h em159_20 rfl rfl
  replace hb20 : (0 : Int) ≤ (((4 : Int32) * (μ.1 75 2)) + l).toInt ∧ (((4 : Int32) * (μ.1 75 2)) + l).toInt < 8 := hb20
  rcases tx_icmp (t := 26) (p' := 24) h em159_21 (by decide) rfl with ⟨c21, h⟩ | ⟨c21, h⟩
  · replace c21 : ¬ (μ.1 94 (((4 : Int32) * (μ.1 75 2)) + l).toInt.toNat).toInt = (μ.1 95 (((4 : Int32) * (μ.1 75 2)) + l).toInt.toNat).toInt := c21
    replace h := tx_aload_n (p' := 27) h em159_26 rfl rfl
    replace h := tx_iconst (v := 0) (p' := 28) h em159_27 (by decide +kernel) rfl
    replace h := tx_putf (a := 75) (c := 12) (j := 58) (p' := 31) h em159_28 ((congrFun xo_12 320).trans rfl) rfl
    replace h := tx_aload_n (p' := 32) h em159_31 rfl rfl
    replace h := tx_getc (c := 12) (j := 41) (p' := 35) h em159_32 ((congrFun xo_12 73).trans rfl) rfl rfl rfl
    replace h := tx_iload_n (p' := 36) h em159_35 rfl rfl
    obtain ⟨hb36, h⟩ := tx_iald (len := 8) (p' := 37) h em159_36 rfl rfl
    replace hb36 : (0 : Int) ≤ (((4 : Int32) * (μ.1 75 2)) + l).toInt ∧ (((4 : Int32) * (μ.1 75 2)) + l).toInt < 8 := hb36
    replace h : eT xq_159 _ 37 [some (.inr (.inl (some 75))), some (.inl l), some (.inl pl), some (.inl (((4 : Int32) * (μ.1 75 2)) + l)), none, none, none] [.inl (μ.1 94 (((4 : Int32) * (μ.1 75 2)) + l).toInt.toNat)] (xpi μ 75 58 (0 : Int32)) r μ' := h
    replace h := tx_istore (p' := 39) h em159_37 rfl
    replace h : eT xq_159 _ 39 [some (.inr (.inl (some 75))), some (.inl l), some (.inl pl), some (.inl (((4 : Int32) * (μ.1 75 2)) + l)), some (.inl (μ.1 94 (((4 : Int32) * (μ.1 75 2)) + l).toInt.toNat)), none, none] [] (xpi μ 75 58 (0 : Int32)) r μ' := h
    cases o with
    | none =>
      exfalso
      have hR : (μ.1 94 (4 * s + k)).toInt = (μ.1 95 (4 * s + k)).toInt := hR
      rw [ei] at c21
      omega
    | some L =>
      obtain ⟨q1, q2, q3⟩ := hR
      obtain ⟨w1, w2⟩ := hok L rfl
      obtain ⟨g1, g2⟩ := lt_loop (μ := μ) (lo := 420 * (s : Int)) (hi := hi) (la := (μ.1 95 (4 * s + k)).toInt) (by omega) w1.2 w2.2 L.1 _ _ _ _ _ h ⟨fun k j a b => xpi_ne b, rfl⟩ xpi_at (by rw [ei]; exact q1) (by rw [ei]) w1.1 w2.1
      exact ⟨g2, (fun q => by cases q), fun L' q => by cases q; exact g1⟩
  · replace c21 : ¬ ¬ (μ.1 94 (((4 : Int32) * (μ.1 75 2)) + l).toInt.toNat).toInt = (μ.1 95 (((4 : Int32) * (μ.1 75 2)) + l).toInt.toNat).toInt := c21
    replace h := tx_iload_n (p' := 25) h em159_24 rfl rfl
    obtain ⟨rfl, hμ⟩ := tx_ireturn h em159_25
    cases o with
    | none => rw [hμ]; exact ⟨pE9_rf, fun _ => rfl, fun L q => by cases q⟩
    | some L =>
      exfalso
      obtain ⟨⟨-, q2, -⟩, -⟩ := hR
      rw [ei] at c21
      omega
