set_option maxRecDepth 10000 in
set_option maxHeartbeats 4000000 in
theorem ex_misHouse {a : Int32} {H : Int} {μ μ' : xM} {r : Option zV} (h0 : Ex gx xq_151 [.inr (.inl (some 75)), .inl a] μ r μ') (hV : (μ.1 84 (μ.1 75 2).toInt.toNat).toInt = H) (hV0 : 0 ≤ H ∧ H ≤ 5) : μ' = μ ∧ ((r = some (.inl 1) ∧ 0 ≤ a.toInt ∧ a.toInt < H) ∨ (r = some (.inl 0) ∧ ¬ (0 ≤ a.toInt ∧ a.toInt < H))) := by
  obtain ⟨n, h⟩ := tx_in (L := [some (.inr (.inl (some 75))), some (.inl a)]) h0 rfl
  have e1i : (1 : Int32).toInt = 1 := by decide
  have e0i : (0 : Int32).toInt = 0 := by decide
  have ev : ((μ.1 84 (μ.1 75 2).toInt.toNat) - (1 : Int32)).toInt = H - 1 := by rw [an_sub (by rw [e1i]; omega) (by rw [e1i]; omega), e1i, hV]
  replace h := tx_iload_n (p' := 1) h em151_0 rfl rfl
  replace h := tx_iconst (v := 0) (p' := 2) h em151_1 (by decide +kernel) rfl
  replace h := tx_aload_n (p' := 3) h em151_2 rfl rfl
  replace h := tx_getc (c := 12) (j := 3) (p' := 6) h em151_3 ((congrFun xo_12 43).trans rfl) rfl rfl rfl
  replace h := tx_aload_n (p' := 7) h em151_6 rfl rfl
  replace h := tx_getf (c := 12) (j := 2) (p' := 10) h em151_7 ((congrFun xo_12 230).trans rfl) rfl rfl (by decide) rfl
  obtain ⟨hb10, h⟩ := tx_iald (len := 2) (p' := 11) h em151_10 rfl rfl
  replace hb10 : (0 : Int) ≤ (μ.1 75 2).toInt ∧ (μ.1 75 2).toInt < 2 := hb10
  replace h := tx_iconst (v := 1) (p' := 12) h em151_11 (by decide +kernel) rfl
  replace h := tx_isub (p' := 13) h em151_12 rfl
  obtain ⟨r13, μ13, hE13, h⟩ := tx_invS (na := 3) (mn := 148) (as := [.inl a, .inl (0 : Int32), .inl ((μ.1 84 (μ.1 75 2).toInt.toNat) - (1 : Int32))]) (rest := []) (p' := 16) h em151_13 ((congrFun xo_12 324).trans rfl) xm_148 rfl rfl
  obtain ⟨hm, ⟨rfl, i131, i132⟩ | ⟨rfl, i131⟩⟩ := ex_in hE13
  · rw [hm] at h
    replace h : eT xq_151 _ 16 [some (.inr (.inl (some 75))), some (.inl a)] [.inl (1 : Int32)] μ r μ' := h
    obtain ⟨rfl, hμ⟩ := tx_ireturn h em151_16
    first
      | exact ⟨hμ, Or.inl ⟨rfl, by omega, by omega⟩⟩
      | exact ⟨hμ, Or.inr ⟨rfl, by omega⟩⟩
  · rw [hm] at h
    replace h : eT xq_151 _ 16 [some (.inr (.inl (some 75))), some (.inl a)] [.inl (0 : Int32)] μ r μ' := h
    obtain ⟨rfl, hμ⟩ := tx_ireturn h em151_16
    first
      | exact ⟨hμ, Or.inl ⟨rfl, by omega, by omega⟩⟩
      | exact ⟨hμ, Or.inr ⟨rfl, by omega⟩⟩
set_option maxRecDepth 10000 in
set_option maxHeartbeats 4000000 in
theorem ex_misSort {l : Int32} {μ μ' : xM} {r : Option zV} (h0 : Ex gx xq_154 [.inl l] μ r μ') : μ' = μ ∧ ((r = some (.inl 1) ∧ 0 ≤ l.toInt ∧ l.toInt < 8) ∨ (r = some (.inl 0) ∧ ¬ (0 ≤ l.toInt ∧ l.toInt < 8))) := by
  obtain ⟨n, h⟩ := tx_in (L := [some (.inl l)]) h0 rfl
  have e7i : (7 : Int32).toInt = 7 := by decide
  have e0i : (0 : Int32).toInt = 0 := by decide
  replace h := tx_iload_n (p' := 1) h em154_0 rfl rfl
  replace h := tx_iconst (v := 0) (p' := 2) h em154_1 (by decide +kernel) rfl
  replace h := tx_bipush (v := 7) (p' := 4) h em154_2 (by decide +kernel) rfl
  obtain ⟨r4, μ4, hE4, h⟩ := tx_invS (na := 3) (mn := 148) (as := [.inl l, .inl (0 : Int32), .inl (7 : Int32)]) (rest := []) (p' := 7) h em154_4 ((congrFun xo_12 324).trans rfl) xm_148 rfl rfl
  obtain ⟨hm, ⟨rfl, i41, i42⟩ | ⟨rfl, i41⟩⟩ := ex_in hE4
  · rw [hm] at h
    replace h : eT xq_154 _ 7 [some (.inl l)] [.inl (1 : Int32)] μ r μ' := h
    obtain ⟨rfl, hμ⟩ := tx_ireturn h em154_7
    first
      | exact ⟨hμ, Or.inl ⟨rfl, by omega, by omega⟩⟩
      | exact ⟨hμ, Or.inr ⟨rfl, by omega⟩⟩
  · rw [hm] at h
    replace h : eT xq_154 _ 7 [some (.inl l)] [.inl (0 : Int32)] μ r μ' := h
    obtain ⟨rfl, hμ⟩ := tx_ireturn h em154_7
    first
      | exact ⟨hμ, Or.inl ⟨rfl, by omega, by omega⟩⟩
      | exact ⟨hμ, Or.inr ⟨rfl, by omega⟩⟩
set_option maxRecDepth 10000 in
set_option maxHeartbeats 4000000 in
theorem ex_mareTwo {a b l : Int32} {H : Int} {μ μ' : xM} {r : Option zV} (h0 : Ex gx xq_117 [.inr (.inl (some 75)), .inl a, .inl b, .inl l] μ r μ') (hV : (μ.1 84 (μ.1 75 2).toInt.toNat).toInt = H) (hV0 : 0 ≤ H ∧ H ≤ 5) : μ' = μ ∧ ((r = some (.inl 1) ∧ ((0 ≤ a.toInt ∧ a.toInt < H) ∧ (0 ≤ b.toInt ∧ b.toInt < H) ∧ ¬ a.toInt = b.toInt ∧ 0 ≤ l.toInt ∧ l.toInt < 8)) ∨ (r = some (.inl 0) ∧ ¬ ((0 ≤ a.toInt ∧ a.toInt < H) ∧ (0 ≤ b.toInt ∧ b.toInt < H) ∧ ¬ a.toInt = b.toInt ∧ 0 ≤ l.toInt ∧ l.toInt < 8))) := by
  obtain ⟨n, h⟩ := tx_in (L := [some (.inr (.inl (some 75))), some (.inl a), some (.inl b), some (.inl l)]) h0 rfl
  replace h := tx_aload_n (p' := 1) h em117_0 rfl rfl
  replace h := tx_iload_n (p' := 2) h em117_1 rfl rfl
  obtain ⟨r2, μ2, hE2, h⟩ := tx_invV (na := 2) (mn := 151) (as := [.inr (.inl (some 75)), .inl a]) (rest := []) (p' := 5) h em117_2 ((congrFun xo_12 405).trans rfl) xm_151 rfl rfl
  obtain ⟨hm2, ⟨rfl, i2a, i2b⟩ | ⟨rfl, i2c⟩⟩ := ex_misHouse hE2 hV hV0
  · rw [hm2] at h
    replace h : eT xq_117 _ 5 [some (.inr (.inl (some 75))), some (.inl a), some (.inl b), some (.inl l)] [.inl (1 : Int32)] μ r μ' := h
    rcases tx_if (t := 32) (p' := 8) h em117_5 (by decide) rfl with ⟨c5, h⟩ | ⟨c5, h⟩
    · replace c5 : (1 : Int) = (0 : Int) := c5
      exfalso
      omega
    · replace c5 : ¬ (1 : Int) = (0 : Int) := c5
      replace h := tx_aload_n (p' := 9) h em117_8 rfl rfl
      replace h := tx_iload_n (p' := 10) h em117_9 rfl rfl
      obtain ⟨r10, μ10, hE10, h⟩ := tx_invV (na := 2) (mn := 151) (as := [.inr (.inl (some 75)), .inl b]) (rest := []) (p' := 13) h em117_10 ((congrFun xo_12 405).trans rfl) xm_151 rfl rfl
      obtain ⟨hm10, ⟨rfl, i10a, i10b⟩ | ⟨rfl, i10c⟩⟩ := ex_misHouse hE10 hV hV0
      · rw [hm10] at h
        replace h : eT xq_117 _ 13 [some (.inr (.inl (some 75))), some (.inl a), some (.inl b), some (.inl l)] [.inl (1 : Int32)] μ r μ' := h
        rcases tx_if (t := 32) (p' := 16) h em117_13 (by decide) rfl with ⟨c13, h⟩ | ⟨c13, h⟩
        · replace c13 : (1 : Int) = (0 : Int) := c13
          exfalso
          omega
        · replace c13 : ¬ (1 : Int) = (0 : Int) := c13
          replace h := tx_iload_n (p' := 17) h em117_16 rfl rfl
          replace h := tx_iload_n (p' := 18) h em117_17 rfl rfl
          rcases tx_icmp (t := 32) (p' := 21) h em117_18 (by decide) rfl with ⟨c18, h⟩ | ⟨c18, h⟩
          · replace c18 : a.toInt = b.toInt := c18
            replace h := tx_iconst (v := 0) (p' := 33) h em117_32 (by decide +kernel) rfl
            obtain ⟨rfl, hμ⟩ := tx_ireturn h em117_33
            first
              | exact ⟨hμ, Or.inl ⟨rfl, by omega⟩⟩
              | exact ⟨hμ, Or.inr ⟨rfl, by omega⟩⟩
          · replace c18 : ¬ a.toInt = b.toInt := c18
            replace h := tx_iload_n (p' := 22) h em117_21 rfl rfl
            obtain ⟨r22, μ22, hE22, h⟩ := tx_invS (na := 1) (mn := 154) (as := [.inl l]) (rest := []) (p' := 25) h em117_22 ((congrFun xo_12 408).trans rfl) xm_154 rfl rfl
            obtain ⟨hm22, ⟨rfl, i22a, i22b⟩ | ⟨rfl, i22c⟩⟩ := ex_misSort hE22
            · rw [hm22] at h
              replace h : eT xq_117 _ 25 [some (.inr (.inl (some 75))), some (.inl a), some (.inl b), some (.inl l)] [.inl (1 : Int32)] μ r μ' := h
              rcases tx_if (t := 32) (p' := 28) h em117_25 (by decide) rfl with ⟨c25, h⟩ | ⟨c25, h⟩
              · replace c25 : (1 : Int) = (0 : Int) := c25
                exfalso
                omega
              · replace c25 : ¬ (1 : Int) = (0 : Int) := c25
                replace h := tx_iconst (v := 1) (p' := 29) h em117_28 (by decide +kernel) rfl
                replace h := tx_goto (t := 33) h em117_29 (by decide)
                obtain ⟨rfl, hμ⟩ := tx_ireturn h em117_33
                first
                  | exact ⟨hμ, Or.inl ⟨rfl, by omega⟩⟩
                  | exact ⟨hμ, Or.inr ⟨rfl, by omega⟩⟩
            · rw [hm22] at h
              replace h : eT xq_117 _ 25 [some (.inr (.inl (some 75))), some (.inl a), some (.inl b), some (.inl l)] [.inl (0 : Int32)] μ r μ' := h
              rcases tx_if (t := 32) (p' := 28) h em117_25 (by decide) rfl with ⟨c25_1, h⟩ | ⟨c25_1, h⟩
              · replace c25_1 : (0 : Int) = (0 : Int) := c25_1
                replace h := tx_iconst (v := 0) (p' := 33) h em117_32 (by decide +kernel) rfl
                obtain ⟨rfl, hμ⟩ := tx_ireturn h em117_33
                first
                  | exact ⟨hμ, Or.inl ⟨rfl, by omega⟩⟩
                  | exact ⟨hμ, Or.inr ⟨rfl, by omega⟩⟩
              · replace c25_1 : ¬ (0 : Int) = (0 : Int) := c25_1
                exfalso
                omega
      · rw [hm10] at h
        replace h : eT xq_117 _ 13 [some (.inr (.inl (some 75))), some (.inl a), some (.inl b), some (.inl l)] [.inl (0 : Int32)] μ r μ' := h
        rcases tx_if (t := 32) (p' := 16) h em117_13 (by decide) rfl with ⟨c13_1, h⟩ | ⟨c13_1, h⟩
        · replace c13_1 : (0 : Int) = (0 : Int) := c13_1
          replace h := tx_iconst (v := 0) (p' := 33) h em117_32 (by decide +kernel) rfl
          obtain ⟨rfl, hμ⟩ := tx_ireturn h em117_33
          first
            | exact ⟨hμ, Or.inl ⟨rfl, by omega⟩⟩
            | exact ⟨hμ, Or.inr ⟨rfl, by omega⟩⟩
        · replace c13_1 : ¬ (0 : Int) = (0 : Int) := c13_1
          exfalso
          omega
  · rw [hm2] at h
    replace h : eT xq_117 _ 5 [some (.inr (.inl (some 75))), some (.inl a), some (.inl b), some (.inl l)] [.inl (0 : Int32)] μ r μ' := h
    rcases tx_if (t := 32) (p' := 8) h em117_5 (by decide) rfl with ⟨c5_1, h⟩ | ⟨c5_1, h⟩
    · replace c5_1 : (0 : Int) = (0 : Int) := c5_1
      replace h := tx_iconst (v := 0) (p' := 33) h em117_32 (by decide +kernel) rfl
      obtain ⟨rfl, hμ⟩ := tx_ireturn h em117_33
      first
        | exact ⟨hμ, Or.inl ⟨rfl, by omega⟩⟩
        | exact ⟨hμ, Or.inr ⟨rfl, by omega⟩⟩
    · replace c5_1 : ¬ (0 : Int) = (0 : Int) := c5_1
      exfalso
      omega
theorem row_x (ω : xM) (j : Nat) (v : Int32) (x : Nat) : (xpi ω 108 j v).1 108 x = pUp (fun x => ω.1 108 x) j v x := congrFun row_i x
set_option maxRecDepth 10000 in
set_option maxHeartbeats 4000000 in
theorem ex_mlend {a b l : Int32} {S : kSt} {s m : Nat} {G : Nat → Nat → Int32} {μ μ' : xM} {r : Option zV} (h0 : Ex gx xq_160 [.inr (.inl (some 75)), .inl a, .inl b, .inl l] μ r μ') (hS : rS9 S s μ) (hH : mH m G μ) : (r = some (.inl 0) ∧ gS9 μ μ' ∧ (∀ j, μ'.1 107 j = μ.1 107 j) ∧ mH m G μ' ∧ ∀ hn on ln : Nat, a.toInt = (hn : Int) → b.toInt = (on : Int) → l.toInt = (ln : Int) → hn < S.1.length → on < S.1.length → ¬ hn = on → ln < 8 → pFe (rNow μ) (8 * hn + ln) = 0) ∨ (r = some (.inl 1) ∧ gS9 μ μ' ∧ ∃ hn on ln : Nat, a.toInt = (hn : Int) ∧ b.toInt = (on : Int) ∧ l.toInt = (ln : Int) ∧ hn < S.1.length ∧ on < S.1.length ∧ ¬ hn = on ∧ ln < 8 ∧ ¬ (pFe (rNow μ) (8 * hn + ln) = 0) ∧ (∀ x, x < 390 → μ'.1 107 x = pLd hn on ln (rNow μ) x) ∧ mH (min 30 (m + 1)) (gcons (fun x => μ.1 107 x) G) μ') := by
  obtain ⟨n, h⟩ := tx_in (L := [some (.inr (.inl (some 75))), some (.inl a), some (.inl b), some (.inl l)]) h0 rfl
  have hH5 := hS.1.1.1
  have hVh : (μ.1 84 (μ.1 75 2).toInt.toNat).toInt = (S.1.length : Int) := by
    rw [show (μ.1 75 2).toInt.toNat = s by have := hS.2.1.2; omega]
    exact hS.2.2.1.1.1
  replace h := tx_aload_n (p' := 1) h em160_0 rfl rfl
  replace h := tx_iload_n (p' := 2) h em160_1 rfl rfl
  replace h := tx_iload_n (p' := 3) h em160_2 rfl rfl
  replace h := tx_iload_n (p' := 4) h em160_3 rfl rfl
  obtain ⟨r4, μ4, hE4, h⟩ := tx_invV (na := 4) (mn := 117) (as := [.inr (.inl (some 75)), .inl a, .inl b, .inl l]) (rest := []) (p' := 7) h em160_4 ((congrFun xo_12 427).trans rfl) xm_117 rfl rfl
  obtain ⟨hm4, ⟨rfl, ⟨a1, a2⟩, ⟨b1, b2⟩, ab, l1, l2⟩ | ⟨rfl, a5⟩⟩ := ex_mareTwo hE4 hVh ⟨by omega, by omega⟩
  · rw [hm4] at h
    obtain ⟨hn, hh⟩ : ∃ hn : Nat, a.toInt = (hn : Int) := ⟨a.toInt.toNat, by omega⟩
    obtain ⟨on, ho⟩ : ∃ on : Nat, b.toInt = (on : Int) := ⟨b.toInt.toNat, by omega⟩
    obtain ⟨ln, hl⟩ : ∃ ln : Nat, l.toInt = (ln : Int) := ⟨l.toInt.toNat, by omega⟩
    have e8i : (8 : Int32).toInt = 8 := by decide
    have e40 : (40 : Int32).toInt = 40 := by decide
    have e120 : (120 : Int32).toInt = 120 := by decide
    have u1 : ((8 : Int32) * a).toInt = 8 * (hn : Int) := by rw [an_mul (by rw [e8i]; omega) (by rw [e8i]; omega), e8i]; omega
    have u3 : (((8 : Int32) * a) + l).toInt.toNat = 8 * hn + ln := by
      have : (((8 : Int32) * a) + l).toInt = 8 * (hn : Int) + ln := by rw [an_add (by rw [u1]; omega) (by rw [u1]; omega), u1, hl]
      omega
    have w1 : ((8 : Int32) * b).toInt = 8 * (on : Int) := by rw [an_mul (by rw [e8i]; omega) (by rw [e8i]; omega), e8i]; omega
    have w3 : (((8 : Int32) * b) + l).toInt.toNat = 8 * on + ln := by
      have : (((8 : Int32) * b) + l).toInt = 8 * (on : Int) + ln := by rw [an_add (by rw [w1]; omega) (by rw [w1]; omega), w1, hl]
      omega
    have x1 : ((40 : Int32) * a).toInt = 40 * (hn : Int) := by rw [an_mul (by rw [e40]; omega) (by rw [e40]; omega), e40]; omega
    have x2 : ((120 : Int32) + ((40 : Int32) * a)).toInt = 120 + 40 * (hn : Int) := by rw [an_add (by rw [x1, e120]; omega) (by rw [x1, e120]; omega), x1, e120]
    have x3 : ((8 : Int32) * b).toInt = 8 * (on : Int) := by rw [an_mul (by rw [e8i]; omega) (by rw [e8i]; omega), e8i]; omega
    have x5 : (((120 : Int32) + ((40 : Int32) * a)) + ((8 : Int32) * b)).toInt = 120 + 40 * (hn : Int) + 8 * on := by rw [an_add (by rw [x2, x3]; omega) (by rw [x2, x3]; omega), x2, x3]
    have x4 : ((((120 : Int32) + ((40 : Int32) * a)) + ((8 : Int32) * b)) + l).toInt.toNat = 120 + (40 * hn + 8 * on + ln) := by
      have : ((((120 : Int32) + ((40 : Int32) * a)) + ((8 : Int32) * b)) + l).toInt = 120 + 40 * (hn : Int) + 8 * on + ln := by rw [an_add (by rw [x5]; omega) (by rw [x5]; omega), x5, hl]
      omega
    replace h : eT xq_160 _ 7 [some (.inr (.inl (some 75))), some (.inl a), some (.inl b), some (.inl l)] [.inl (1 : Int32)] μ r μ' := h
    rcases tx_if (t := 12) (p' := 10) h em160_7 (by decide) rfl with ⟨c7, h⟩ | ⟨c7, h⟩
    · replace c7 : ¬ (1 : Int) = (0 : Int) := c7
      replace h := tx_aload_n (p' := 13) h em160_12 rfl rfl
      obtain ⟨r13, μ13, hE13, h⟩ := tx_invV (na := 1) (mn := 129) (as := [.inr (.inl (some 75))]) (rest := []) (p' := 16) h em160_13 ((congrFun xo_12 411).trans rfl) xm_129 rfl rfl
      obtain ⟨rfl, hmc⟩ := ex_copies hE13
      replace hmc : μ13 = xco μ := hmc
      rw [hmc] at h
      replace h : eT xq_160 _ 16 [some (.inr (.inl (some 75))), some (.inl a), some (.inl b), some (.inl l)] [] (xco μ) r μ' := h
      replace h := tx_aload_n (p' := 17) h em160_16 rfl rfl
      replace h := tx_iload_n (p' := 18) h em160_17 rfl rfl
      replace h := tx_iload_n (p' := 19) h em160_18 rfl rfl
      obtain ⟨r19, μ19, hE19, h⟩ := tx_invV (na := 3) (mn := 138) (as := [.inr (.inl (some 75)), .inl a, .inl l]) (rest := []) (p' := 22) h em160_19 ((congrFun xo_12 368).trans rfl) xm_138 rfl rfl
      have hfq := ex_freeOf hE19 (by rw [xco_8]; decide) hh (by omega) hl (by omega)
      rw [xco_row] at hfq
      obtain ⟨hm19, rfl⟩ := hfq
      rw [hm19] at h
      replace h : eT xq_160 _ 22 [some (.inr (.inl (some 75))), some (.inl a), some (.inl b), some (.inl l)] [.inl (pFe (rNow μ) (8 * hn + ln))] (xco μ) r μ' := h
      rcases tx_if (t := 27) (p' := 25) h em160_22 (by decide) rfl with ⟨c22, h⟩ | ⟨c22, h⟩
      · replace c22 : ¬ (pFe (rNow μ) (8 * hn + ln)).toInt = 0 := c22
        replace h := tx_aload_n (p' := 28) h em160_27 rfl rfl
        replace h := tx_getc (c := 12) (j := 0) (p' := 31) h em160_28 ((congrFun xo_12 116).trans rfl) rfl rfl rfl
        replace h := tx_bipush (v := 8) (p' := 33) h em160_31 (by decide +kernel) rfl
        replace h := tx_iload_n (p' := 34) h em160_33 rfl rfl
        replace h := tx_imul (p' := 35) h em160_34 rfl
        replace h := tx_iload_n (p' := 36) h em160_35 rfl rfl
        replace h := tx_iadd (p' := 37) h em160_36 rfl
        replace h := tx_dup2 (p' := 38) h em160_37 rfl
        obtain ⟨hb38, h⟩ := tx_iald (len := 390) (p' := 39) h em160_38 rfl rfl
        replace hb38 : (0 : Int) ≤ (((8 : Int32) * a) + l).toInt ∧ (((8 : Int32) * a) + l).toInt < 390 := hb38
        replace h := tx_iconst (v := 1) (p' := 40) h em160_39 (by decide +kernel) rfl
        replace h := tx_isub (p' := 41) h em160_40 rfl
        obtain ⟨hb41, h⟩ := tx_iast (len := 390) (p' := 42) h em160_41 rfl rfl
        replace hb41 : (0 : Int) ≤ (((8 : Int32) * a) + l).toInt ∧ (((8 : Int32) * a) + l).toInt < 390 := hb41
        replace h := tx_aload_n (p' := 43) h em160_42 rfl rfl
        replace h := tx_getc (c := 12) (j := 0) (p' := 46) h em160_43 ((congrFun xo_12 116).trans rfl) rfl rfl rfl
        replace h := tx_bipush (v := 8) (p' := 48) h em160_46 (by decide +kernel) rfl
        replace h := tx_iload_n (p' := 49) h em160_48 rfl rfl
        replace h := tx_imul (p' := 50) h em160_49 rfl
        replace h := tx_iload_n (p' := 51) h em160_50 rfl rfl
        replace h := tx_iadd (p' := 52) h em160_51 rfl
        replace h := tx_dup2 (p' := 53) h em160_52 rfl
        obtain ⟨hb53, h⟩ := tx_iald (len := 390) (p' := 54) h em160_53 rfl rfl
        replace hb53 : (0 : Int) ≤ (((8 : Int32) * b) + l).toInt ∧ (((8 : Int32) * b) + l).toInt < 390 := hb53
        replace h := tx_iconst (v := 1) (p' := 55) h em160_54 (by decide +kernel) rfl
        replace h := tx_iadd (p' := 56) h em160_55 rfl
        obtain ⟨hb56, h⟩ := tx_iast (len := 390) (p' := 57) h em160_56 rfl rfl
        replace hb56 : (0 : Int) ≤ (((8 : Int32) * b) + l).toInt ∧ (((8 : Int32) * b) + l).toInt < 390 := hb56
        replace h := tx_aload_n (p' := 58) h em160_57 rfl rfl
        replace h := tx_getc (c := 12) (j := 0) (p' := 61) h em160_58 ((congrFun xo_12 116).trans rfl) rfl rfl rfl
        replace h := tx_bipush (v := 120) (p' := 63) h em160_61 (by decide +kernel) rfl
        replace h := tx_bipush (v := 40) (p' := 65) h em160_63 (by decide +kernel) rfl
        replace h := tx_iload_n (p' := 66) h em160_65 rfl rfl
        replace h := tx_imul (p' := 67) h em160_66 rfl
        replace h := tx_iadd (p' := 68) h em160_67 rfl
        replace h := tx_bipush (v := 8) (p' := 70) h em160_68 (by decide +kernel) rfl
        replace h := tx_iload_n (p' := 71) h em160_70 rfl rfl
        replace h := tx_imul (p' := 72) h em160_71 rfl
        replace h := tx_iadd (p' := 73) h em160_72 rfl
        replace h := tx_iload_n (p' := 74) h em160_73 rfl rfl
        replace h := tx_iadd (p' := 75) h em160_74 rfl
        replace h := tx_dup2 (p' := 76) h em160_75 rfl
        obtain ⟨hb76, h⟩ := tx_iald (len := 390) (p' := 77) h em160_76 rfl rfl
        replace hb76 : (0 : Int) ≤ ((((120 : Int32) + ((40 : Int32) * a)) + ((8 : Int32) * b)) + l).toInt ∧ ((((120 : Int32) + ((40 : Int32) * a)) + ((8 : Int32) * b)) + l).toInt < 390 := hb76
        replace h := tx_iconst (v := 1) (p' := 78) h em160_77 (by decide +kernel) rfl
        replace h := tx_iadd (p' := 79) h em160_78 rfl
        obtain ⟨hb79, h⟩ := tx_iast (len := 390) (p' := 80) h em160_79 rfl rfl
        replace hb79 : (0 : Int) ≤ ((((120 : Int32) + ((40 : Int32) * a)) + ((8 : Int32) * b)) + l).toInt ∧ ((((120 : Int32) + ((40 : Int32) * a)) + ((8 : Int32) * b)) + l).toInt < 390 := hb79
        replace h := tx_aload_n (p' := 81) h em160_80 rfl rfl
        obtain ⟨r81, μ81, hE81, h⟩ := tx_invV (na := 1) (mn := 181) (as := [.inr (.inl (some 75))]) (rest := []) (p' := 84) h em160_81 ((congrFun xo_12 424).trans rfl) xm_181 rfl rfl
        rw [u3, w3, x4] at hE81
        have g2 : gR (xco μ) (xpi (xpi (xpi (xco μ) 108 (8 * hn + ln) ((xco μ).1 108 (8 * hn + ln) - 1)) 108 (8 * on + ln) ((xpi (xco μ) 108 (8 * hn + ln) ((xco μ).1 108 (8 * hn + ln) - 1)).1 108 (8 * on + ln) + 1)) 108 (120 + (40 * hn + 8 * on + ln)) ((xpi (xpi (xco μ) 108 (8 * hn + ln) ((xco μ).1 108 (8 * hn + ln) - 1)) 108 (8 * on + ln) ((xpi (xco μ) 108 (8 * hn + ln) ((xco μ).1 108 (8 * hn + ln) - 1)).1 108 (8 * on + ln) + 1)).1 108 (120 + (40 * hn + 8 * on + ln)) + 1)) := gR_i (gR_i (gR_i gR_rf))
        have g3 := gS9_R xco_g g2
        have e107 : (fun x => (xpi (xpi (xpi (xco μ) 108 (8 * hn + ln) ((xco μ).1 108 (8 * hn + ln) - 1)) 108 (8 * on + ln) ((xpi (xco μ) 108 (8 * hn + ln) ((xco μ).1 108 (8 * hn + ln) - 1)).1 108 (8 * on + ln) + 1)) 108 (120 + (40 * hn + 8 * on + ln)) ((xpi (xpi (xco μ) 108 (8 * hn + ln) ((xco μ).1 108 (8 * hn + ln) - 1)) 108 (8 * on + ln) ((xpi (xco μ) 108 (8 * hn + ln) ((xco μ).1 108 (8 * hn + ln) - 1)).1 108 (8 * on + ln) + 1)).1 108 (120 + (40 * hn + 8 * on + ln)) + 1)).1 107 x) = fun x => μ.1 107 x := by
          funext x
          exact (gR_c g2 (by decide) (by decide) (by decide) (by decide)).trans (xco_ne (by decide) (fun q => absurd q.1 (by decide)))
        have hH2 : mH m G (xpi (xpi (xpi (xco μ) 108 (8 * hn + ln) ((xco μ).1 108 (8 * hn + ln) - 1)) 108 (8 * on + ln) ((xpi (xco μ) 108 (8 * hn + ln) ((xco μ).1 108 (8 * hn + ln) - 1)).1 108 (8 * on + ln) + 1)) 108 (120 + (40 * hn + 8 * on + ln)) ((xpi (xpi (xco μ) 108 (8 * hn + ln) ((xco μ).1 108 (8 * hn + ln) - 1)) 108 (8 * on + ln) ((xpi (xco μ) 108 (8 * hn + ln) ((xco μ).1 108 (8 * hn + ln) - 1)).1 108 (8 * on + ln) + 1)).1 108 (120 + (40 * hn + 8 * on + ln)) + 1)) := mH_cg hH ((g2.1 75 10 (by decide) (by decide) (by decide) (by decide)).trans (xco_ne (by decide) (by decide))) (fun j => (gR_c g2 (by decide) (by decide) (by decide) (by decide)).trans (xco_ne (by decide) (fun q => absurd q.1 (by decide))))
        obtain ⟨rfl, y1, y2, y3, y4⟩ := ex_records hE81 hH2
        rw [e107] at y1
        replace h : eT xq_160 _ 84 [some (.inr (.inl (some 75))), some (.inl a), some (.inl b), some (.inl l)] [] μ81 r μ' := h
        replace h := tx_iconst (v := 1) (p' := 85) h em160_84 (by decide +kernel) rfl
        obtain ⟨rfl, hμ⟩ := tx_ireturn h em160_85
        rw [hμ]
        refine Or.inr ⟨rfl, ⟨fun a9 j b1 b2 b3 b4 b5 b6 => (y3 a9 j b3 b5 (fun q => b6 ⟨q.1, by omega⟩)).trans (g3.1 a9 j b1 b2 b3 b4 b5 b6), y4.trans g3.2⟩, hn, on, ln, hh, ho, hl, by omega, by omega, by omega, by omega, fun z => c22 (congrArg Int32.toInt z), fun x hx => ?_, y1⟩
        rw [y2 x hx]
        simp only [row_x]
        unfold pLd pMv
        rw [← xco_row]
      · replace c22 : ¬ ¬ (pFe (rNow μ) (8 * hn + ln)).toInt = 0 := c22
        replace h := tx_iconst (v := 0) (p' := 26) h em160_25 (by decide +kernel) rfl
        obtain ⟨rfl, hμ⟩ := tx_ireturn h em160_26
        rw [hμ]
        exact Or.inl ⟨rfl, gS9_R xco_g gR_rf, fun j => xco_ne (by decide) (fun q => absurd q.1 (by decide)), mH_cg hH (xco_ne (by decide) (by decide)) (fun j => xco_ne (by decide) (fun q => absurd q.1 (by decide))), fun h9 o9 l9 g1 g2 g3 g4 g5 g6 g7 => by
          obtain ⟨rfl, rfl, rfl⟩ : h9 = hn ∧ o9 = on ∧ l9 = ln := ⟨by omega, by omega, by omega⟩
          exact Int32.toInt_inj.mp ((Decidable.of_not_not c22).trans (by decide))⟩
    · replace c7 : ¬ ¬ (1 : Int) = (0 : Int) := c7
      exfalso
      omega
  · rw [hm4] at h
    replace h : eT xq_160 _ 7 [some (.inr (.inl (some 75))), some (.inl a), some (.inl b), some (.inl l)] [.inl (0 : Int32)] μ r μ' := h
    rcases tx_if (t := 12) (p' := 10) h em160_7 (by decide) rfl with ⟨c7_1, h⟩ | ⟨c7_1, h⟩
    · replace c7_1 : ¬ (0 : Int) = (0 : Int) := c7_1
      exfalso
      omega
    · replace c7_1 : ¬ ¬ (0 : Int) = (0 : Int) := c7_1
      replace h := tx_iconst (v := 0) (p' := 11) h em160_10 (by decide +kernel) rfl
      obtain ⟨rfl, hμ⟩ := tx_ireturn h em160_11
      rw [hμ]
      exact Or.inl ⟨rfl, ⟨fun _ _ _ _ _ _ _ _ => rfl, rfl⟩, fun _ => rfl, hH, fun h9 o9 l9 g1 g2 g3 g4 g5 g6 g7 => by exfalso; omega⟩
set_option maxRecDepth 10000 in
set_option maxHeartbeats 4000000 in
theorem ex_mgiveBack {a b l : Int32} {S : kSt} {s m : Nat} {G : Nat → Nat → Int32} {μ μ' : xM} {r : Option zV} (h0 : Ex gx xq_140 [.inr (.inl (some 75)), .inl a, .inl b, .inl l] μ r μ') (hS : rS9 S s μ) (hH : mH m G μ) : (r = some (.inl 0) ∧ gS9 μ μ' ∧ (∀ j, μ'.1 107 j = μ.1 107 j) ∧ mH m G μ' ∧ ∀ hn on ln : Nat, a.toInt = (hn : Int) → b.toInt = (on : Int) → l.toInt = (ln : Int) → hn < S.1.length → on < S.1.length → ¬ hn = on → ln < 8 → rNow μ (120 + (40 * on + 8 * hn + ln)) = 0 ∨ pFe (rNow μ) (8 * hn + ln) = 0) ∨ (r = some (.inl 1) ∧ gS9 μ μ' ∧ ∃ hn on ln : Nat, a.toInt = (hn : Int) ∧ b.toInt = (on : Int) ∧ l.toInt = (ln : Int) ∧ hn < S.1.length ∧ on < S.1.length ∧ ¬ hn = on ∧ ln < 8 ∧ ¬ (rNow μ (120 + (40 * on + 8 * hn + ln)) = 0 ∨ pFe (rNow μ) (8 * hn + ln) = 0) ∧ (∀ x, x < 390 → μ'.1 107 x = pGb hn on ln (rNow μ) x) ∧ mH (min 30 (m + 1)) (gcons (fun x => μ.1 107 x) G) μ') := by
  obtain ⟨n, h⟩ := tx_in (L := [some (.inr (.inl (some 75))), some (.inl a), some (.inl b), some (.inl l), none]) h0 rfl
  have hH5 := hS.1.1.1
  have hVh : (μ.1 84 (μ.1 75 2).toInt.toNat).toInt = (S.1.length : Int) := by
    rw [show (μ.1 75 2).toInt.toNat = s by have := hS.2.1.2; omega]
    exact hS.2.2.1.1.1
  replace h := tx_aload_n (p' := 1) h em140_0 rfl rfl
  replace h := tx_iload_n (p' := 2) h em140_1 rfl rfl
  replace h := tx_iload_n (p' := 3) h em140_2 rfl rfl
  replace h := tx_iload_n (p' := 4) h em140_3 rfl rfl
  obtain ⟨r4, μ4, hE4, h⟩ := tx_invV (na := 4) (mn := 117) (as := [.inr (.inl (some 75)), .inl a, .inl b, .inl l]) (rest := []) (p' := 7) h em140_4 ((congrFun xo_12 427).trans rfl) xm_117 rfl rfl
  obtain ⟨hm4, ⟨rfl, ⟨a1, a2⟩, ⟨b1, b2⟩, ab, l1, l2⟩ | ⟨rfl, a5⟩⟩ := ex_mareTwo hE4 hVh ⟨by omega, by omega⟩
  · rw [hm4] at h
    obtain ⟨hn, hh⟩ : ∃ hn : Nat, a.toInt = (hn : Int) := ⟨a.toInt.toNat, by omega⟩
    obtain ⟨on, ho⟩ : ∃ on : Nat, b.toInt = (on : Int) := ⟨b.toInt.toNat, by omega⟩
    obtain ⟨ln, hl⟩ : ∃ ln : Nat, l.toInt = (ln : Int) := ⟨l.toInt.toNat, by omega⟩
    have e8i : (8 : Int32).toInt = 8 := by decide
    have e40 : (40 : Int32).toInt = 40 := by decide
    have e120 : (120 : Int32).toInt = 120 := by decide
    have u1 : ((8 : Int32) * a).toInt = 8 * (hn : Int) := by rw [an_mul (by rw [e8i]; omega) (by rw [e8i]; omega), e8i]; omega
    have u3 : (((8 : Int32) * a) + l).toInt.toNat = 8 * hn + ln := by
      have : (((8 : Int32) * a) + l).toInt = 8 * (hn : Int) + ln := by rw [an_add (by rw [u1]; omega) (by rw [u1]; omega), u1, hl]
      omega
    have w1 : ((8 : Int32) * b).toInt = 8 * (on : Int) := by rw [an_mul (by rw [e8i]; omega) (by rw [e8i]; omega), e8i]; omega
    have w3 : (((8 : Int32) * b) + l).toInt.toNat = 8 * on + ln := by
      have : (((8 : Int32) * b) + l).toInt = 8 * (on : Int) + ln := by rw [an_add (by rw [w1]; omega) (by rw [w1]; omega), w1, hl]
      omega
    have x1 : ((40 : Int32) * b).toInt = 40 * (on : Int) := by rw [an_mul (by rw [e40]; omega) (by rw [e40]; omega), e40]; omega
    have x2 : ((120 : Int32) + ((40 : Int32) * b)).toInt = 120 + 40 * (on : Int) := by rw [an_add (by rw [x1, e120]; omega) (by rw [x1, e120]; omega), x1, e120]
    have x3 : ((8 : Int32) * a).toInt = 8 * (hn : Int) := by rw [an_mul (by rw [e8i]; omega) (by rw [e8i]; omega), e8i]; omega
    have x5 : (((120 : Int32) + ((40 : Int32) * b)) + ((8 : Int32) * a)).toInt = 120 + 40 * (on : Int) + 8 * hn := by rw [an_add (by rw [x2, x3]; omega) (by rw [x2, x3]; omega), x2, x3]
    have x4 : ((((120 : Int32) + ((40 : Int32) * b)) + ((8 : Int32) * a)) + l).toInt.toNat = 120 + (40 * on + 8 * hn + ln) := by
      have : ((((120 : Int32) + ((40 : Int32) * b)) + ((8 : Int32) * a)) + l).toInt = 120 + 40 * (on : Int) + 8 * hn + ln := by rw [an_add (by rw [x5]; omega) (by rw [x5]; omega), x5, hl]
      omega
    replace h : eT xq_140 _ 7 [some (.inr (.inl (some 75))), some (.inl a), some (.inl b), some (.inl l), none] [.inl (1 : Int32)] μ r μ' := h
    rcases tx_if (t := 12) (p' := 10) h em140_7 (by decide) rfl with ⟨c7, h⟩ | ⟨c7, h⟩
    · replace c7 : ¬ (1 : Int) = (0 : Int) := c7
      replace h := tx_aload_n (p' := 13) h em140_12 rfl rfl
      obtain ⟨r13, μ13, hE13, h⟩ := tx_invV (na := 1) (mn := 129) (as := [.inr (.inl (some 75))]) (rest := []) (p' := 16) h em140_13 ((congrFun xo_12 411).trans rfl) xm_129 rfl rfl
      obtain ⟨rfl, hmc⟩ := ex_copies hE13
      replace hmc : μ13 = xco μ := hmc
      rw [hmc] at h
      replace h : eT xq_140 _ 16 [some (.inr (.inl (some 75))), some (.inl a), some (.inl b), some (.inl l), none] [] (xco μ) r μ' := h
      replace h := tx_bipush (v := 120) (p' := 18) h em140_16 (by decide +kernel) rfl
      replace h := tx_bipush (v := 40) (p' := 20) h em140_18 (by decide +kernel) rfl
      replace h := tx_iload_n (p' := 21) h em140_20 rfl rfl
      replace h := tx_imul (p' := 22) h em140_21 rfl
      replace h := tx_iadd (p' := 23) h em140_22 rfl
      replace h := tx_bipush (v := 8) (p' := 25) h em140_23 (by decide +kernel) rfl
      replace h := tx_iload_n (p' := 26) h em140_25 rfl rfl
      replace h := tx_imul (p' := 27) h em140_26 rfl
      replace h := tx_iadd (p' := 28) h em140_27 rfl
      replace h := tx_iload_n (p' := 29) h em140_28 rfl rfl
      replace h := tx_iadd (p' := 30) h em140_29 rfl
      replace h := tx_istore (p' := 32) h em140_30 rfl
      replace h : eT xq_140 _ 32 [some (.inr (.inl (some 75))), some (.inl a), some (.inl b), some (.inl l), some (.inl ((((120 : Int32) + ((40 : Int32) * b)) + ((8 : Int32) * a)) + l))] [] (xco μ) r μ' := h
      replace h := tx_aload_n (p' := 33) h em140_32 rfl rfl
      replace h := tx_getc (c := 12) (j := 0) (p' := 36) h em140_33 ((congrFun xo_12 116).trans rfl) rfl rfl rfl
      replace h := tx_iload (p' := 38) h em140_36 rfl rfl
      obtain ⟨hb38, h⟩ := tx_iald (len := 390) (p' := 39) h em140_38 rfl rfl
      replace hb38 : (0 : Int) ≤ ((((120 : Int32) + ((40 : Int32) * b)) + ((8 : Int32) * a)) + l).toInt ∧ ((((120 : Int32) + ((40 : Int32) * b)) + ((8 : Int32) * a)) + l).toInt < 390 := hb38
      rcases tx_if (t := 51) (p' := 42) h em140_39 (by decide) rfl with ⟨c39, h⟩ | ⟨c39, h⟩
      · replace c39 : ((xco μ).1 108 ((((120 : Int32) + ((40 : Int32) * b)) + ((8 : Int32) * a)) + l).toInt.toNat).toInt = 0 := c39
        replace h := tx_iconst (v := 0) (p' := 52) h em140_51 (by decide +kernel) rfl
        obtain ⟨rfl, hμ⟩ := tx_ireturn h em140_52
        have q0 : (xco μ).1 108 (120 + (40 * on + 8 * hn + ln)) = rNow μ (120 + (40 * on + 8 * hn + ln)) := congrFun xco_row _
        rw [x4] at c39
        rw [hμ]
        exact Or.inl ⟨rfl, gS9_R xco_g gR_rf, fun j => xco_ne (by decide) (fun q => absurd q.1 (by decide)), mH_cg hH (xco_ne (by decide) (by decide)) (fun j => xco_ne (by decide) (fun q => absurd q.1 (by decide))), fun h9 o9 l9 g1 g2 g3 g4 g5 g6 g7 => by
          obtain ⟨rfl, rfl, rfl⟩ : h9 = hn ∧ o9 = on ∧ l9 = ln := ⟨by omega, by omega, by omega⟩
          exact Or.inl (q0.symm.trans (Int32.toInt_inj.mp (c39.trans (by decide))))⟩
      · replace c39 : ¬ ((xco μ).1 108 ((((120 : Int32) + ((40 : Int32) * b)) + ((8 : Int32) * a)) + l).toInt.toNat).toInt = 0 := c39
        replace h := tx_aload_n (p' := 43) h em140_42 rfl rfl
        replace h := tx_iload_n (p' := 44) h em140_43 rfl rfl
        replace h := tx_iload_n (p' := 45) h em140_44 rfl rfl
        obtain ⟨r45, μ45, hE45, h⟩ := tx_invV (na := 3) (mn := 138) (as := [.inr (.inl (some 75)), .inl a, .inl l]) (rest := []) (p' := 48) h em140_45 ((congrFun xo_12 368).trans rfl) xm_138 rfl rfl
        have hfq := ex_freeOf hE45 (by rw [xco_8]; decide) hh (by omega) hl (by omega)
        rw [xco_row] at hfq
        obtain ⟨hm45, rfl⟩ := hfq
        rw [hm45] at h
        replace h : eT xq_140 _ 48 [some (.inr (.inl (some 75))), some (.inl a), some (.inl b), some (.inl l), some (.inl ((((120 : Int32) + ((40 : Int32) * b)) + ((8 : Int32) * a)) + l))] [.inl (pFe (rNow μ) (8 * hn + ln))] (xco μ) r μ' := h
        rcases tx_if (t := 53) (p' := 51) h em140_48 (by decide) rfl with ⟨c48, h⟩ | ⟨c48, h⟩
        · replace c48 : ¬ (pFe (rNow μ) (8 * hn + ln)).toInt = 0 := c48
          replace h := tx_aload_n (p' := 54) h em140_53 rfl rfl
          replace h := tx_getc (c := 12) (j := 0) (p' := 57) h em140_54 ((congrFun xo_12 116).trans rfl) rfl rfl rfl
          replace h := tx_bipush (v := 8) (p' := 59) h em140_57 (by decide +kernel) rfl
          replace h := tx_iload_n (p' := 60) h em140_59 rfl rfl
          replace h := tx_imul (p' := 61) h em140_60 rfl
          replace h := tx_iload_n (p' := 62) h em140_61 rfl rfl
          replace h := tx_iadd (p' := 63) h em140_62 rfl
          replace h := tx_dup2 (p' := 64) h em140_63 rfl
          obtain ⟨hb64, h⟩ := tx_iald (len := 390) (p' := 65) h em140_64 rfl rfl
          replace hb64 : (0 : Int) ≤ (((8 : Int32) * a) + l).toInt ∧ (((8 : Int32) * a) + l).toInt < 390 := hb64
          replace h := tx_iconst (v := 1) (p' := 66) h em140_65 (by decide +kernel) rfl
          replace h := tx_isub (p' := 67) h em140_66 rfl
          obtain ⟨hb67, h⟩ := tx_iast (len := 390) (p' := 68) h em140_67 rfl rfl
          replace hb67 : (0 : Int) ≤ (((8 : Int32) * a) + l).toInt ∧ (((8 : Int32) * a) + l).toInt < 390 := hb67
          replace h := tx_aload_n (p' := 69) h em140_68 rfl rfl
          replace h := tx_getc (c := 12) (j := 0) (p' := 72) h em140_69 ((congrFun xo_12 116).trans rfl) rfl rfl rfl
          replace h := tx_bipush (v := 8) (p' := 74) h em140_72 (by decide +kernel) rfl
          replace h := tx_iload_n (p' := 75) h em140_74 rfl rfl
          replace h := tx_imul (p' := 76) h em140_75 rfl
          replace h := tx_iload_n (p' := 77) h em140_76 rfl rfl
          replace h := tx_iadd (p' := 78) h em140_77 rfl
          replace h := tx_dup2 (p' := 79) h em140_78 rfl
          obtain ⟨hb79, h⟩ := tx_iald (len := 390) (p' := 80) h em140_79 rfl rfl
          replace hb79 : (0 : Int) ≤ (((8 : Int32) * b) + l).toInt ∧ (((8 : Int32) * b) + l).toInt < 390 := hb79
          replace h := tx_iconst (v := 1) (p' := 81) h em140_80 (by decide +kernel) rfl
          replace h := tx_iadd (p' := 82) h em140_81 rfl
          obtain ⟨hb82, h⟩ := tx_iast (len := 390) (p' := 83) h em140_82 rfl rfl
          replace hb82 : (0 : Int) ≤ (((8 : Int32) * b) + l).toInt ∧ (((8 : Int32) * b) + l).toInt < 390 := hb82
          replace h := tx_aload_n (p' := 84) h em140_83 rfl rfl
          replace h := tx_getc (c := 12) (j := 0) (p' := 87) h em140_84 ((congrFun xo_12 116).trans rfl) rfl rfl rfl
          replace h := tx_iload (p' := 89) h em140_87 rfl rfl
          replace h := tx_dup2 (p' := 90) h em140_89 rfl
          obtain ⟨hb90, h⟩ := tx_iald (len := 390) (p' := 91) h em140_90 rfl rfl
          replace hb90 : (0 : Int) ≤ ((((120 : Int32) + ((40 : Int32) * b)) + ((8 : Int32) * a)) + l).toInt ∧ ((((120 : Int32) + ((40 : Int32) * b)) + ((8 : Int32) * a)) + l).toInt < 390 := hb90
          replace h := tx_iconst (v := 1) (p' := 92) h em140_91 (by decide +kernel) rfl
          replace h := tx_isub (p' := 93) h em140_92 rfl
          obtain ⟨hb93, h⟩ := tx_iast (len := 390) (p' := 94) h em140_93 rfl rfl
          replace hb93 : (0 : Int) ≤ ((((120 : Int32) + ((40 : Int32) * b)) + ((8 : Int32) * a)) + l).toInt ∧ ((((120 : Int32) + ((40 : Int32) * b)) + ((8 : Int32) * a)) + l).toInt < 390 := hb93
          replace h := tx_aload_n (p' := 95) h em140_94 rfl rfl
          obtain ⟨r95, μ95, hE95, h⟩ := tx_invV (na := 1) (mn := 181) (as := [.inr (.inl (some 75))]) (rest := []) (p' := 98) h em140_95 ((congrFun xo_12 424).trans rfl) xm_181 rfl rfl
          rw [u3, w3, x4] at hE95
          have g2 : gR (xco μ) (xpi (xpi (xpi (xco μ) 108 (8 * hn + ln) ((xco μ).1 108 (8 * hn + ln) - 1)) 108 (8 * on + ln) ((xpi (xco μ) 108 (8 * hn + ln) ((xco μ).1 108 (8 * hn + ln) - 1)).1 108 (8 * on + ln) + 1)) 108 (120 + (40 * on + 8 * hn + ln)) ((xpi (xpi (xco μ) 108 (8 * hn + ln) ((xco μ).1 108 (8 * hn + ln) - 1)) 108 (8 * on + ln) ((xpi (xco μ) 108 (8 * hn + ln) ((xco μ).1 108 (8 * hn + ln) - 1)).1 108 (8 * on + ln) + 1)).1 108 (120 + (40 * on + 8 * hn + ln)) - 1)) := gR_i (gR_i (gR_i gR_rf))
          have g3 := gS9_R xco_g g2
          have e107 : (fun x => (xpi (xpi (xpi (xco μ) 108 (8 * hn + ln) ((xco μ).1 108 (8 * hn + ln) - 1)) 108 (8 * on + ln) ((xpi (xco μ) 108 (8 * hn + ln) ((xco μ).1 108 (8 * hn + ln) - 1)).1 108 (8 * on + ln) + 1)) 108 (120 + (40 * on + 8 * hn + ln)) ((xpi (xpi (xco μ) 108 (8 * hn + ln) ((xco μ).1 108 (8 * hn + ln) - 1)) 108 (8 * on + ln) ((xpi (xco μ) 108 (8 * hn + ln) ((xco μ).1 108 (8 * hn + ln) - 1)).1 108 (8 * on + ln) + 1)).1 108 (120 + (40 * on + 8 * hn + ln)) - 1)).1 107 x) = fun x => μ.1 107 x := by
            funext x
            exact (gR_c g2 (by decide) (by decide) (by decide) (by decide)).trans (xco_ne (by decide) (fun q => absurd q.1 (by decide)))
          have hH2 : mH m G (xpi (xpi (xpi (xco μ) 108 (8 * hn + ln) ((xco μ).1 108 (8 * hn + ln) - 1)) 108 (8 * on + ln) ((xpi (xco μ) 108 (8 * hn + ln) ((xco μ).1 108 (8 * hn + ln) - 1)).1 108 (8 * on + ln) + 1)) 108 (120 + (40 * on + 8 * hn + ln)) ((xpi (xpi (xco μ) 108 (8 * hn + ln) ((xco μ).1 108 (8 * hn + ln) - 1)) 108 (8 * on + ln) ((xpi (xco μ) 108 (8 * hn + ln) ((xco μ).1 108 (8 * hn + ln) - 1)).1 108 (8 * on + ln) + 1)).1 108 (120 + (40 * on + 8 * hn + ln)) - 1)) := mH_cg hH ((g2.1 75 10 (by decide) (by decide) (by decide) (by decide)).trans (xco_ne (by decide) (by decide))) (fun j => (gR_c g2 (by decide) (by decide) (by decide) (by decide)).trans (xco_ne (by decide) (fun q => absurd q.1 (by decide))))
          obtain ⟨rfl, y1, y2, y3, y4⟩ := ex_records hE95 hH2
          rw [e107] at y1
          replace h : eT xq_140 _ 98 [some (.inr (.inl (some 75))), some (.inl a), some (.inl b), some (.inl l), some (.inl ((((120 : Int32) + ((40 : Int32) * b)) + ((8 : Int32) * a)) + l))] [] μ95 r μ' := h
          replace h := tx_iconst (v := 1) (p' := 99) h em140_98 (by decide +kernel) rfl
          obtain ⟨rfl, hμ⟩ := tx_ireturn h em140_99
          have q0 : (xco μ).1 108 (120 + (40 * on + 8 * hn + ln)) = rNow μ (120 + (40 * on + 8 * hn + ln)) := congrFun xco_row _
          rw [hμ]
          refine Or.inr ⟨rfl, ⟨fun a9 j b1 b2 b3 b4 b5 b6 => (y3 a9 j b3 b5 (fun q => b6 ⟨q.1, by omega⟩)).trans (g3.1 a9 j b1 b2 b3 b4 b5 b6), y4.trans g3.2⟩, hn, on, ln, hh, ho, hl, by omega, by omega, by omega, by omega, fun z => z.elim (fun y => c39 (by rw [x4]; exact congrArg Int32.toInt (q0.trans y))) (fun y => c48 (congrArg Int32.toInt y)), fun x hx => ?_, y1⟩
          rw [y2 x hx]
          simp only [row_x]
          unfold pGb pMv
          rw [← xco_row]
        · replace c48 : ¬ ¬ (pFe (rNow μ) (8 * hn + ln)).toInt = 0 := c48
          replace h := tx_iconst (v := 0) (p' := 52) h em140_51 (by decide +kernel) rfl
          obtain ⟨rfl, hμ⟩ := tx_ireturn h em140_52
          rw [hμ]
          exact Or.inl ⟨rfl, gS9_R xco_g gR_rf, fun j => xco_ne (by decide) (fun q => absurd q.1 (by decide)), mH_cg hH (xco_ne (by decide) (by decide)) (fun j => xco_ne (by decide) (fun q => absurd q.1 (by decide))), fun h9 o9 l9 g1 g2 g3 g4 g5 g6 g7 => by
            obtain ⟨rfl, rfl, rfl⟩ : h9 = hn ∧ o9 = on ∧ l9 = ln := ⟨by omega, by omega, by omega⟩
            exact Or.inr (Int32.toInt_inj.mp ((Decidable.of_not_not c48).trans (by decide)))⟩
    · replace c7 : ¬ ¬ (1 : Int) = (0 : Int) := c7
      exfalso
      omega
  · rw [hm4] at h
    replace h : eT xq_140 _ 7 [some (.inr (.inl (some 75))), some (.inl a), some (.inl b), some (.inl l), none] [.inl (0 : Int32)] μ r μ' := h
    rcases tx_if (t := 12) (p' := 10) h em140_7 (by decide) rfl with ⟨c7_1, h⟩ | ⟨c7_1, h⟩
    · replace c7_1 : ¬ (0 : Int) = (0 : Int) := c7_1
      exfalso
      omega
    · replace c7_1 : ¬ ¬ (0 : Int) = (0 : Int) := c7_1
      replace h := tx_iconst (v := 0) (p' := 11) h em140_10 (by decide +kernel) rfl
      obtain ⟨rfl, hμ⟩ := tx_ireturn h em140_11
      rw [hμ]
      exact Or.inl ⟨rfl, ⟨fun _ _ _ _ _ _ _ _ => rfl, rfl⟩, fun _ => rfl, hH, fun h9 o9 l9 g1 g2 g3 g4 g5 g6 g7 => by exfalso; omega⟩
