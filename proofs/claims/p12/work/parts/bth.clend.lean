/-! ===== lend, giveBack ===== -/
def pMv (a b l : Nat) (ρ : Nat → Int32) : Nat → Int32 := pUp (pUp ρ (8 * a + l) (ρ (8 * a + l) - 1)) (8 * b + l) (pUp ρ (8 * a + l) (ρ (8 * a + l) - 1) (8 * b + l) + 1)
def pLd (a b l : Nat) (ρ : Nat → Int32) : Nat → Int32 := pUp (pMv a b l ρ) (120 + (40 * a + 8 * b + l)) (pMv a b l ρ (120 + (40 * a + 8 * b + l)) + 1)
def pGb (a b l : Nat) (ρ : Nat → Int32) : Nat → Int32 := pUp (pMv a b l ρ) (120 + (40 * b + 8 * a + l)) (pMv a b l ρ (120 + (40 * b + 8 * a + l)) - 1)
theorem twA_h {c : Nat} {ρ : Nat → Int32} {μ : xM} {j : Nat} {x : Int32} (h : twA c ρ μ) (hj : j < 40) : twA c (pUp ρ j x) (xpi μ (c + 1) j x) := by
  obtain ⟨a, b, d1, d2, d3⟩ := h
  refine ⟨fun i hi => ?_, fun i hi => ?_, ?_, ?_, ?_⟩
  · refine ⟨?_, ?_, ?_⟩
    · by_cases e : i = j
      · rw [e, xpi_at, pUp_at]
      · rw [xpi_ne (fun q => e q.2), pUp_ne (by omega)]; exact (a i hi).1
    · rw [xpi_ne (fun q => by omega), pUp_ne (by omega)]; exact (a i hi).2.1
    · rw [xpi_ne (fun q => by omega), pUp_ne (by omega)]; exact (a i hi).2.2
  · rw [xpi_ne (fun q => by omega), pUp_ne (by omega)]; exact b i hi
  · rw [xpi_ne (fun q => by omega), pUp_ne (by omega)]; exact d1
  · rw [xpi_ne (fun q => by omega), pUp_ne (by omega)]; exact d2
  · rw [xpi_ne (fun q => by omega), pUp_ne (by omega)]; exact d3
theorem twA_l {c : Nat} {ρ : Nat → Int32} {μ : xM} {j : Nat} {x : Int32} (h : twA c ρ μ) (hj : j < 200) : twA c (pUp ρ (120 + j) x) (xpi μ (c + 4) j x) := by
  obtain ⟨a, b, d1, d2, d3⟩ := h
  refine ⟨fun i hi => ?_, fun i hi => ?_, ?_, ?_, ?_⟩
  · refine ⟨?_, ?_, ?_⟩
    · rw [xpi_ne (fun q => by omega), pUp_ne (by omega)]; exact (a i hi).1
    · rw [xpi_ne (fun q => by omega), pUp_ne (by omega)]; exact (a i hi).2.1
    · rw [xpi_ne (fun q => by omega), pUp_ne (by omega)]; exact (a i hi).2.2
  · by_cases e : i = j
    · rw [e, xpi_at, pUp_at]
    · rw [xpi_ne (fun q => e q.2), pUp_ne (by omega)]; exact b i hi
  · rw [xpi_ne (fun q => by omega), pUp_ne (by omega)]; exact d1
  · rw [xpi_ne (fun q => by omega), pUp_ne (by omega)]; exact d2
  · rw [xpi_ne (fun q => by omega), pUp_ne (by omega)]; exact d3
/-- pieces and loans of the town at 28 may change -/
def gTm (μ μ' : xM) : Prop := (∀ k j, k ≠ 29 → k ≠ 32 → μ'.1 k j = μ.1 k j) ∧ μ'.2 = μ.2
theorem gTm_rf {μ : xM} : gTm μ μ := ⟨fun _ _ _ _ => rfl, rfl⟩
theorem gTm_i {μ ν : xM} {k j : Nat} {v : Int32} (h : gTm μ ν) (hk : k = 29 ∨ k = 32) : gTm μ (xpi ν k j v) := ⟨fun c i a b => (xpi_ne (fun q => by omega)).trans (h.1 c i a b), h.2⟩
theorem tw9_m {S : kSt} {ρ ρ' : Nat → Int32} {μ μ' : xM} (h : tw9 S 28 ρ μ) (t : twA 28 ρ' μ') (e : ∀ x, 320 ≤ x → ρ' x = ρ x) (g : gTm μ μ') : tw9 S 28 ρ' μ' := by
  refine ⟨t, fun v hv => ?_⟩
  obtain ⟨b1, b2, b3, b4⟩ := h.2 v hv
  have uS : stS ρ' v ↔ stS ρ v := by unfold stS; rw [e _ (by omega)]
  have uD : stD ρ' v ↔ stD ρ v := by unfold stD; rw [e _ (by omega)]
  rw [g.1 28 5 (by decide) (by decide), g.1 28 6 (by decide) (by decide), uS, uD, e _ (by omega)]
  refine ⟨b1, b2, b3, fun q i hi => ?_⟩
  rw [g.1 (28 + 5) _ (by decide) (by decide), e _ (by omega)]
  exact b4 q i hi
abbrev xq_89 : xP := (⟨"CapitalCase", "isHouse", "(I)Z"⟩, prog_1_method_8_code, 2, (some .boolean))
abbrev xq_88 : xP := (⟨"CapitalCase", "isCell", "(II)Z"⟩, prog_1_method_9_code, 3, (some .boolean))
abbrev xq_57 : xP := (⟨"CapitalCase$Town", "move", "(III)V"⟩, prog_10_method_10_code, 4, none)
abbrev xq_93 : xP := (⟨"CapitalCase", "lend", "(III)Z"⟩, prog_1_method_20_code, 4, (some .boolean))
abbrev xq_84 : xP := (⟨"CapitalCase", "giveBack", "(III)Z"⟩, prog_1_method_21_code, 5, (some .boolean))
abbrev xq_151 : xP := (⟨"CapitalCaseModel", "isHouse", "(I)Z"⟩, prog_14_method_43_code, 2, (some .boolean))
abbrev xq_154 : xP := (⟨"CapitalCaseModel", "isSort", "(I)Z"⟩, prog_14_method_44_code, 1, (some .boolean))
abbrev xq_117 : xP := (⟨"CapitalCaseModel", "areTwo", "(III)Z"⟩, prog_14_method_79_code, 4, (some .boolean))
abbrev xq_160 : xP := (⟨"CapitalCaseModel", "lend", "(III)Z"⟩, prog_14_method_80_code, 4, (some .boolean))
abbrev xq_140 : xP := (⟨"CapitalCaseModel", "giveBack", "(III)Z"⟩, prog_14_method_81_code, 5, (some .boolean))
set_option maxRecDepth 10000 in
set_option maxHeartbeats 4000000 in
theorem ex_cisHouse {a : Int32} {H : Int} {μ μ' : xM} {r : Option zV} (h0 : Ex gx xq_89 [.inr (.inl (some 0)), .inl a] μ r μ') (hH : (μ.1 2 0).toInt = H) : μ' = μ ∧ ((r = some (.inl 1) ∧ 0 ≤ a.toInt ∧ a.toInt < H) ∨ (r = some (.inl 0) ∧ ¬ (0 ≤ a.toInt ∧ a.toInt < H))) := by
  obtain ⟨n, h⟩ := tx_in (L := [some (.inr (.inl (some 0))), some (.inl a)]) h0 rfl
  replace h := tx_iload_n (p' := 1) h em89_0 rfl rfl
  rcases tx_if (t := 19) (p' := 4) h em89_1 (by decide) rfl with ⟨c1, h⟩ | ⟨c1, h⟩
  · replace c1 : a.toInt < 0 := c1
    replace h := tx_iconst (v := 0) (p' := 20) h em89_19 (by decide +kernel) rfl
    obtain ⟨rfl, hμ⟩ := tx_ireturn h em89_20
    first
      | exact ⟨hμ, Or.inl ⟨rfl, by omega, by omega⟩⟩
      | exact ⟨hμ, Or.inr ⟨rfl, by omega⟩⟩
  · replace c1 : ¬ a.toInt < 0 := c1
    replace h := tx_iload_n (p' := 5) h em89_4 rfl rfl
    replace h := tx_aload_n (p' := 6) h em89_5 rfl rfl
    replace h := tx_getc (c := 11) (j := 0) (p' := 9) h em89_6 ((congrFun xo_0 23).trans rfl) rfl rfl rfl
    replace h := tx_getf (c := 6) (j := 0) (p' := 12) h em89_9 ((congrFun xo_0 134).trans rfl) rfl rfl (by decide) rfl
    rcases tx_icmp (t := 19) (p' := 15) h em89_12 (by decide) rfl with ⟨c12, h⟩ | ⟨c12, h⟩
    · replace c12 : (μ.1 2 0).toInt ≤ a.toInt := c12
      replace h := tx_iconst (v := 0) (p' := 20) h em89_19 (by decide +kernel) rfl
      obtain ⟨rfl, hμ⟩ := tx_ireturn h em89_20
      first
        | exact ⟨hμ, Or.inl ⟨rfl, by omega, by omega⟩⟩
        | exact ⟨hμ, Or.inr ⟨rfl, by omega⟩⟩
    · replace c12 : ¬ (μ.1 2 0).toInt ≤ a.toInt := c12
      replace h := tx_iconst (v := 1) (p' := 16) h em89_15 (by decide +kernel) rfl
      replace h := tx_goto (t := 20) h em89_16 (by decide)
      obtain ⟨rfl, hμ⟩ := tx_ireturn h em89_20
      first
        | exact ⟨hμ, Or.inl ⟨rfl, by omega, by omega⟩⟩
        | exact ⟨hμ, Or.inr ⟨rfl, by omega⟩⟩
set_option maxRecDepth 10000 in
set_option maxHeartbeats 4000000 in
theorem ex_cisCell {a l : Int32} {H : Int} {μ μ' : xM} {r : Option zV} (h0 : Ex gx xq_88 [.inr (.inl (some 0)), .inl a, .inl l] μ r μ') (hH : (μ.1 2 0).toInt = H) : μ' = μ ∧ ((r = some (.inl 1) ∧ 0 ≤ a.toInt ∧ a.toInt < H ∧ 0 ≤ l.toInt ∧ l.toInt < 8) ∨ (r = some (.inl 0) ∧ ¬ (0 ≤ a.toInt ∧ a.toInt < H ∧ 0 ≤ l.toInt ∧ l.toInt < 8))) := by
  obtain ⟨n, h⟩ := tx_in (L := [some (.inr (.inl (some 0))), some (.inl a), some (.inl l)]) h0 rfl
  replace h := tx_aload_n (p' := 1) h em88_0 rfl rfl
  replace h := tx_iload_n (p' := 2) h em88_1 rfl rfl
  obtain ⟨r2, μ2, hE2, h⟩ := tx_invV (na := 2) (mn := 89) (as := [.inr (.inl (some 0)), .inl a]) (rest := []) (p' := 5) h em88_2 ((congrFun xo_0 137).trans rfl) xm_89 rfl rfl
  obtain ⟨hm, ⟨rfl, i1, i2⟩ | ⟨rfl, i3⟩⟩ := ex_cisHouse hE2 hH
  · rw [hm] at h
    replace h : eT xq_88 _ 5 [some (.inr (.inl (some 0))), some (.inl a), some (.inl l)] [.inl (1 : Int32)] μ r μ' := h
    rcases tx_if (t := 22) (p' := 8) h em88_5 (by decide) rfl with ⟨c5, h⟩ | ⟨c5, h⟩
    · replace c5 : (1 : Int) = (0 : Int) := c5
      exfalso
      omega
    · replace c5 : ¬ (1 : Int) = (0 : Int) := c5
      replace h := tx_iload_n (p' := 9) h em88_8 rfl rfl
      rcases tx_if (t := 22) (p' := 12) h em88_9 (by decide) rfl with ⟨c9, h⟩ | ⟨c9, h⟩
      · replace c9 : l.toInt < 0 := c9
        replace h := tx_iconst (v := 0) (p' := 23) h em88_22 (by decide +kernel) rfl
        obtain ⟨rfl, hμ⟩ := tx_ireturn h em88_23
        first
          | exact ⟨hμ, Or.inl ⟨rfl, by omega, by omega, by omega, by omega⟩⟩
          | exact ⟨hμ, Or.inr ⟨rfl, by omega⟩⟩
      · replace c9 : ¬ l.toInt < 0 := c9
        replace h := tx_iload_n (p' := 13) h em88_12 rfl rfl
        replace h := tx_bipush (v := 8) (p' := 15) h em88_13 (by decide +kernel) rfl
        rcases tx_icmp (t := 22) (p' := 18) h em88_15 (by decide) rfl with ⟨c15, h⟩ | ⟨c15, h⟩
        · replace c15 : 8 ≤ l.toInt := c15
          replace h := tx_iconst (v := 0) (p' := 23) h em88_22 (by decide +kernel) rfl
          obtain ⟨rfl, hμ⟩ := tx_ireturn h em88_23
          first
            | exact ⟨hμ, Or.inl ⟨rfl, by omega, by omega, by omega, by omega⟩⟩
            | exact ⟨hμ, Or.inr ⟨rfl, by omega⟩⟩
        · replace c15 : ¬ 8 ≤ l.toInt := c15
          replace h := tx_iconst (v := 1) (p' := 19) h em88_18 (by decide +kernel) rfl
          replace h := tx_goto (t := 23) h em88_19 (by decide)
          obtain ⟨rfl, hμ⟩ := tx_ireturn h em88_23
          first
            | exact ⟨hμ, Or.inl ⟨rfl, by omega, by omega, by omega, by omega⟩⟩
            | exact ⟨hμ, Or.inr ⟨rfl, by omega⟩⟩
  · rw [hm] at h
    replace h : eT xq_88 _ 5 [some (.inr (.inl (some 0))), some (.inl a), some (.inl l)] [.inl (0 : Int32)] μ r μ' := h
    rcases tx_if (t := 22) (p' := 8) h em88_5 (by decide) rfl with ⟨c5_1, h⟩ | ⟨c5_1, h⟩
    · replace c5_1 : (0 : Int) = (0 : Int) := c5_1
      replace h := tx_iconst (v := 0) (p' := 23) h em88_22 (by decide +kernel) rfl
      obtain ⟨rfl, hμ⟩ := tx_ireturn h em88_23
      first
        | exact ⟨hμ, Or.inl ⟨rfl, by omega, by omega, by omega, by omega⟩⟩
        | exact ⟨hμ, Or.inr ⟨rfl, by omega⟩⟩
    · replace c5_1 : ¬ (0 : Int) = (0 : Int) := c5_1
      exfalso
      omega
set_option maxRecDepth 10000 in
set_option maxHeartbeats 4000000 in
theorem ex_cmove {a b l : Int32} {hn on ln : Nat} {ρ : Nat → Int32} {μ μ' : xM} {r : Option zV} (h0 : Ex gx xq_57 [.inr (.inl (some 28)), .inl a, .inl b, .inl l] μ r μ') (hO : hOK μ) (hT : twA 28 ρ μ) (hh : a.toInt = (hn : Int)) (hh5 : hn < 5) (ho : b.toInt = (on : Int)) (ho5 : on < 5) (hl : l.toInt = (ln : Int)) (hl8 : ln < 8) : r = none ∧ gTm μ μ' ∧ twA 28 (pMv hn on ln ρ) μ' := by
  obtain ⟨n, h⟩ := tx_in (L := [some (.inr (.inl (some 28))), some (.inl a), some (.inl b), some (.inl l)]) h0 rfl
  have e8i : (8 : Int32).toInt = 8 := by decide
  have u1 : (a * (8 : Int32)).toInt = 8 * (hn : Int) := by rw [an_mul (by rw [e8i]; omega) (by rw [e8i]; omega), e8i]; omega
  have u2 : ((a * (8 : Int32)) + l).toInt = ((8 * hn + ln : Nat) : Int) := by rw [an_add (by rw [u1]; omega) (by rw [u1]; omega), u1, hl]; omega
  have u3 : ((a * (8 : Int32)) + l).toInt.toNat = 8 * hn + ln := by omega
  have w1 : (b * (8 : Int32)).toInt = 8 * (on : Int) := by rw [an_mul (by rw [e8i]; omega) (by rw [e8i]; omega), e8i]; omega
  have w2 : ((b * (8 : Int32)) + l).toInt = ((8 * on + ln : Nat) : Int) := by rw [an_add (by rw [w1]; omega) (by rw [w1]; omega), w1, hl]; omega
  have w3 : ((b * (8 : Int32)) + l).toInt.toNat = 8 * on + ln := by omega
  replace h := tx_aload_n (p' := 1) h em57_0 rfl rfl
  obtain ⟨b1, hk_b1, hr_b1, h⟩ := tx_getk (c := 8) (j := 0) (p' := 4) h em57_1 ((congrFun xo_9 9).trans rfl) rfl rfl rfl
  have eb1 : b1 = 29 := Option.some.inj (hr_b1.symm.trans ((hO).2 28 (by decide) 0 (by decide)))
  subst eb1
  replace h := tx_iload_n (p' := 5) h em57_4 rfl rfl
  replace h := tx_bipush (v := 8) (p' := 7) h em57_5 (by decide +kernel) rfl
  replace h := tx_imul (p' := 8) h em57_7 rfl
  replace h := tx_iload_n (p' := 9) h em57_8 rfl rfl
  replace h := tx_iadd (p' := 10) h em57_9 rfl
  replace h := tx_dup2 (p' := 11) h em57_10 rfl
  obtain ⟨hb11, h⟩ := tx_iald (len := 40) (p' := 12) h em57_11 rfl rfl
  replace hb11 : (0 : Int) ≤ ((a * (8 : Int32)) + l).toInt ∧ ((a * (8 : Int32)) + l).toInt < 40 := hb11
  replace h := tx_iconst (v := 1) (p' := 13) h em57_12 (by decide +kernel) rfl
  replace h := tx_isub (p' := 14) h em57_13 rfl
  obtain ⟨hb14, h⟩ := tx_iast (len := 40) (p' := 15) h em57_14 rfl rfl
  replace hb14 : (0 : Int) ≤ ((a * (8 : Int32)) + l).toInt ∧ ((a * (8 : Int32)) + l).toInt < 40 := hb14
  replace h := tx_aload_n (p' := 16) h em57_15 rfl rfl
  obtain ⟨b16, hk_b16, hr_b16, h⟩ := tx_getk (c := 8) (j := 0) (p' := 19) h em57_16 ((congrFun xo_9 9).trans rfl) rfl rfl rfl
  have eb16 : b16 = 29 := Option.some.inj (hr_b16.symm.trans ((hO).2 28 (by decide) 0 (by decide)))
  subst eb16
  replace h := tx_iload_n (p' := 20) h em57_19 rfl rfl
  replace h := tx_bipush (v := 8) (p' := 22) h em57_20 (by decide +kernel) rfl
  replace h := tx_imul (p' := 23) h em57_22 rfl
  replace h := tx_iload_n (p' := 24) h em57_23 rfl rfl
  replace h := tx_iadd (p' := 25) h em57_24 rfl
  replace h := tx_dup2 (p' := 26) h em57_25 rfl
  obtain ⟨hb26, h⟩ := tx_iald (len := 40) (p' := 27) h em57_26 rfl rfl
  replace hb26 : (0 : Int) ≤ ((b * (8 : Int32)) + l).toInt ∧ ((b * (8 : Int32)) + l).toInt < 40 := hb26
  replace h := tx_iconst (v := 1) (p' := 28) h em57_27 (by decide +kernel) rfl
  replace h := tx_iadd (p' := 29) h em57_28 rfl
  obtain ⟨hb29, h⟩ := tx_iast (len := 40) (p' := 30) h em57_29 rfl rfl
  replace hb29 : (0 : Int) ≤ ((b * (8 : Int32)) + l).toInt ∧ ((b * (8 : Int32)) + l).toInt < 40 := hb29
  obtain ⟨rfl, hμ⟩ := tx_return h em57_30
  replace hμ : μ' = (xpi (xpi μ 29 ((a * (8 : Int32)) + l).toInt.toNat ((μ.1 29 ((a * (8 : Int32)) + l).toInt.toNat) - (1 : Int32))) 29 ((b * (8 : Int32)) + l).toInt.toNat (((xpi μ 29 ((a * (8 : Int32)) + l).toInt.toNat ((μ.1 29 ((a * (8 : Int32)) + l).toInt.toNat) - (1 : Int32))).1 29 ((b * (8 : Int32)) + l).toInt.toNat) + (1 : Int32))) := hμ
  rw [u3, w3] at hμ
  rw [hμ]
  refine ⟨rfl, gTm_i (gTm_i gTm_rf (Or.inl rfl)) (Or.inl rfl), ?_⟩
  have t1 := twA_h (j := 8 * hn + ln) (x := μ.1 29 (8 * hn + ln) - 1) hT (by omega)
  have q1 := (hT.1 (8 * hn + ln) (by omega)).1
  have t2 := twA_h (j := 8 * on + ln) (x := (xpi μ (28 + 1) (8 * hn + ln) (μ.1 29 (8 * hn + ln) - 1)).1 29 (8 * on + ln) + 1) t1 (by omega)
  have q2 := (t1.1 (8 * on + ln) (by omega)).1
  have q1 : μ.1 29 (8 * hn + ln) = ρ (8 * hn + ln) := q1
  have q2 : (xpi μ (28 + 1) (8 * hn + ln) (μ.1 29 (8 * hn + ln) - 1)).1 29 (8 * on + ln) = pUp ρ (8 * hn + ln) (μ.1 29 (8 * hn + ln) - 1) (8 * on + ln) := q2
  unfold pMv
  rw [← q1, ← q2]
  exact t2
set_option maxRecDepth 10000 in
set_option maxHeartbeats 4000000 in
theorem ex_clend {a b l : Int32} {S : kSt} {ρ : Nat → Int32} {m : Nat} {G : Nat → Nat → Int32} {Z : Nat → Option (Nat → Int32)} {μ μ' : xM} {r : Option zV} (h0 : Ex gx xq_93 [.inr (.inl (some 0)), .inl a, .inl b, .inl l] μ r μ') (hO : hOK μ) (hP : pOK9 μ) (hS : cS9 S μ) (hT : tw9 S 28 ρ μ) (hI : hsI μ) (hL : hsL S Z m G μ) : (r = some (.inl 0) ∧ μ' = μ ∧ ∀ hn on ln : Nat, a.toInt = (hn : Int) → b.toInt = (on : Int) → l.toInt = (ln : Int) → hn < S.1.length → on < S.1.length → ¬ hn = on → ln < 8 → pFe ρ (8 * hn + ln) = 0) ∨ (r = some (.inl 1) ∧ ∃ hn on ln : Nat, a.toInt = (hn : Int) ∧ b.toInt = (on : Int) ∧ l.toInt = (ln : Int) ∧ hn < S.1.length ∧ on < S.1.length ∧ ¬ hn = on ∧ ln < 8 ∧ ¬ (pFe ρ (8 * hn + ln) = 0) ∧ tw9 S 28 (pLd hn on ln ρ) μ' ∧ hsL S Z (min 30 (m + 1)) (gcons ρ G) μ' ∧ hsI μ' ∧ hOK μ' ∧ pOK9 μ' ∧ cS9 S μ') := by
  obtain ⟨n, h⟩ := tx_in (L := [some (.inr (.inl (some 0))), some (.inl a), some (.inl b), some (.inl l)]) h0 rfl
  have hH5 := hS.1.1
  have hHc : (μ.1 2 0).toInt = (S.1.length : Int) := hS.2.2.1.1.1
  replace h := tx_aload_n (p' := 1) h em93_0 rfl rfl
  replace h := tx_iload_n (p' := 2) h em93_1 rfl rfl
  replace h := tx_iload_n (p' := 3) h em93_2 rfl rfl
  obtain ⟨r3, μ3, hE3, h⟩ := tx_invV (na := 3) (mn := 88) (as := [.inr (.inl (some 0)), .inl a, .inl l]) (rest := []) (p' := 6) h em93_3 ((congrFun xo_0 147).trans rfl) xm_88 rfl rfl
  obtain ⟨hm3, ⟨rfl, a1, a2, l1, l2⟩ | ⟨rfl, a5⟩⟩ := ex_cisCell hE3 hHc
  · rw [hm3] at h
    replace h : eT xq_93 _ 6 [some (.inr (.inl (some 0))), some (.inl a), some (.inl b), some (.inl l)] [.inl (1 : Int32)] μ r μ' := h
    rcases tx_if (t := 39) (p' := 9) h em93_6 (by decide) rfl with ⟨c6, h⟩ | ⟨c6, h⟩
    · replace c6 : (1 : Int) = (0 : Int) := c6
      exfalso
      omega
    · replace c6 : ¬ (1 : Int) = (0 : Int) := c6
      replace h := tx_aload_n (p' := 10) h em93_9 rfl rfl
      replace h := tx_iload_n (p' := 11) h em93_10 rfl rfl
      replace h := tx_iload_n (p' := 12) h em93_11 rfl rfl
      obtain ⟨r12, μ12, hE12, h⟩ := tx_invV (na := 3) (mn := 88) (as := [.inr (.inl (some 0)), .inl b, .inl l]) (rest := []) (p' := 15) h em93_12 ((congrFun xo_0 147).trans rfl) xm_88 rfl rfl
      obtain ⟨hm12, ⟨rfl, b1, b2, l1, l2⟩ | ⟨rfl, b5⟩⟩ := ex_cisCell hE12 hHc
      · rw [hm12] at h
        obtain ⟨hn, hh⟩ : ∃ hn : Nat, a.toInt = (hn : Int) := ⟨a.toInt.toNat, by omega⟩
        obtain ⟨on, ho⟩ : ∃ on : Nat, b.toInt = (on : Int) := ⟨b.toInt.toNat, by omega⟩
        obtain ⟨ln, hl⟩ : ∃ ln : Nat, l.toInt = (ln : Int) := ⟨l.toInt.toNat, by omega⟩
        have e8i : (8 : Int32).toInt = 8 := by decide
        have e5i : (5 : Int32).toInt = 5 := by decide
        have u1 : (a * (8 : Int32)).toInt = 8 * (hn : Int) := by rw [an_mul (by rw [e8i]; omega) (by rw [e8i]; omega), e8i]; omega
        have u2 : ((a * (8 : Int32)) + l).toInt = ((8 * hn + ln : Nat) : Int) := by rw [an_add (by rw [u1]; omega) (by rw [u1]; omega), u1, hl]; omega
        have u3 : ((a * (8 : Int32)) + l).toInt.toNat = 8 * hn + ln := by omega
        have x1 : (a * (5 : Int32)).toInt = 5 * (hn : Int) := by rw [an_mul (by rw [e5i]; omega) (by rw [e5i]; omega), e5i]; omega
        have x2 : ((a * (5 : Int32)) + b).toInt = 5 * (hn : Int) + on := by rw [an_add (by rw [x1]; omega) (by rw [x1]; omega), x1]; omega
        have x3 : (((a * (5 : Int32)) + b) * (8 : Int32)).toInt = 8 * (5 * (hn : Int) + on) := by rw [an_mul (by rw [e8i, x2]; omega) (by rw [e8i, x2]; omega), e8i, x2]; omega
        have x5 : ((((a * (5 : Int32)) + b) * (8 : Int32)) + l).toInt = 8 * (5 * (hn : Int) + on) + ln := by rw [an_add (by rw [x3]; omega) (by rw [x3]; omega), x3, hl]
        have x4 : ((((a * (5 : Int32)) + b) * (8 : Int32)) + l).toInt.toNat = 40 * hn + 8 * on + ln := by omega
        replace h : eT xq_93 _ 15 [some (.inr (.inl (some 0))), some (.inl a), some (.inl b), some (.inl l)] [.inl (1 : Int32)] μ r μ' := h
        rcases tx_if (t := 39) (p' := 18) h em93_15 (by decide) rfl with ⟨c15, h⟩ | ⟨c15, h⟩
        · replace c15 : (1 : Int) = (0 : Int) := c15
          exfalso
          omega
        · replace c15 : ¬ (1 : Int) = (0 : Int) := c15
          replace h := tx_iload_n (p' := 19) h em93_18 rfl rfl
          replace h := tx_iload_n (p' := 20) h em93_19 rfl rfl
          rcases tx_icmp (t := 39) (p' := 23) h em93_20 (by decide) rfl with ⟨c20, h⟩ | ⟨c20, h⟩
          · replace c20 : a.toInt = b.toInt := c20
            replace h := tx_iconst (v := 0) (p' := 40) h em93_39 (by decide +kernel) rfl
            obtain ⟨rfl, hμ⟩ := tx_ireturn h em93_40
            exact Or.inl ⟨rfl, hμ, fun h9 o9 l9 g1 g2 g3 g4 g5 g6 g7 => by exfalso; omega⟩
          · replace c20 : ¬ a.toInt = b.toInt := c20
            replace h := tx_aload_n (p' := 24) h em93_23 rfl rfl
            replace h := tx_getc (c := 11) (j := 1) (p' := 27) h em93_24 ((congrFun xo_0 39).trans rfl) rfl rfl rfl
            replace h := tx_iload_n (p' := 28) h em93_27 rfl rfl
            replace h := tx_bipush (v := 8) (p' := 30) h em93_28 (by decide +kernel) rfl
            replace h := tx_imul (p' := 31) h em93_30 rfl
            replace h := tx_iload_n (p' := 32) h em93_31 rfl rfl
            replace h := tx_iadd (p' := 33) h em93_32 rfl
            obtain ⟨r33, μ33, hE33, h⟩ := tx_invV (na := 2) (mn := 51) (as := [.inr (.inl (some 28)), .inl ((a * (8 : Int32)) + l)]) (rest := []) (p' := 36) h em93_33 ((congrFun xo_0 158).trans rfl) xm_51 rfl rfl
            obtain ⟨hm33, rfl⟩ := ex_free_28 hE33 hO hT.1 u2 (by omega)
            rw [hm33] at h
            replace h : eT xq_93 _ 36 [some (.inr (.inl (some 0))), some (.inl a), some (.inl b), some (.inl l)] [.inl (pFe ρ (8 * hn + ln))] μ r μ' := h
            rcases tx_if (t := 41) (p' := 39) h em93_36 (by decide) rfl with ⟨c36, h⟩ | ⟨c36, h⟩
            · replace c36 : ¬ (pFe ρ (8 * hn + ln)).toInt = 0 := c36
              replace h := tx_aload_n (p' := 42) h em93_41 rfl rfl
              replace h := tx_getc (c := 11) (j := 8) (p' := 45) h em93_42 ((congrFun xo_0 49).trans rfl) rfl rfl rfl
              replace h := tx_aload_n (p' := 46) h em93_45 rfl rfl
              replace h := tx_getc (c := 11) (j := 1) (p' := 49) h em93_46 ((congrFun xo_0 39).trans rfl) rfl rfl rfl
              obtain ⟨r49, μ49, hE49, h⟩ := tx_invV (na := 2) (mn := 0) (as := [.inr (.inl (some 40)), .inr (.inl (some 28))]) (rest := []) (p' := 52) h em93_49 ((congrFun xo_0 220).trans rfl) xm_0 rfl rfl
              have hN := hO.1
              obtain ⟨rfl, hO4, hI4, n0, n1, n2, c, hc, ht, hk⟩ := ex_keep hE49 hO hI (by have := hL.2.1; have := hL.2.2.1; omega)
              have hL4 := hsL_keep hS.1 hO hI hL hT hI4 n1 n2 hc ht hk
              have hcN := (hI4.2.1 41 _ c (Or.inl ⟨rfl, by omega⟩) hc).1
              have e4 : ∀ a j, a < 119 → a ≠ 40 → μ49.1 a j = μ.1 a j := fun a j q z => hk.1 a j (by omega) z (by omega)
              have hT4 := tw9_cg hT (fun a j q1 q2 => e4 a j (by omega) (by omega))
              have hS4 := cS9_cg hS (fun k j a b => e4 k j (by omega) (by omega))
              have hP4 : pOK9 μ49 := fun p hp j hj => (hk.2.1 p j (by omega) (fun q => by omega)).trans (hP p hp j hj)
              replace h : eT xq_93 _ 52 [some (.inr (.inl (some 0))), some (.inl a), some (.inl b), some (.inl l)] [] μ49 r μ' := h
              replace h := tx_aload_n (p' := 53) h em93_52 rfl rfl
              replace h := tx_getc (c := 11) (j := 1) (p' := 56) h em93_53 ((congrFun xo_0 39).trans rfl) rfl rfl rfl
              replace h := tx_iload_n (p' := 57) h em93_56 rfl rfl
              replace h := tx_iload_n (p' := 58) h em93_57 rfl rfl
              replace h := tx_iload_n (p' := 59) h em93_58 rfl rfl
              obtain ⟨r59, μ59, hE59, h⟩ := tx_invV (na := 4) (mn := 57) (as := [.inr (.inl (some 28)), .inl a, .inl b, .inl l]) (rest := []) (p' := 62) h em93_59 ((congrFun xo_0 242).trans rfl) xm_57 rfl rfl
              obtain ⟨rfl, y1, y2⟩ := ex_cmove hE59 hO4 hT4.1 hh (by omega) ho (by omega) hl (by omega)
              replace h : eT xq_93 _ 62 [some (.inr (.inl (some 0))), some (.inl a), some (.inl b), some (.inl l)] [] μ59 r μ' := h
              replace h := tx_aload_n (p' := 63) h em93_62 rfl rfl
              replace h := tx_getc (c := 11) (j := 1) (p' := 66) h em93_63 ((congrFun xo_0 39).trans rfl) rfl rfl rfl
              obtain ⟨b66, hk_b66, hr_b66, h⟩ := tx_getk (c := 8) (j := 3) (p' := 69) h em93_66 ((congrFun xo_0 246).trans rfl) rfl rfl rfl
              have eb66 : b66 = 32 := Option.some.inj (hr_b66.symm.trans (((hOK_2 y1.2 hO4)).2 28 (by decide) 3 (by decide)))
              subst eb66
              replace h := tx_iload_n (p' := 70) h em93_69 rfl rfl
              replace h := tx_iconst (v := 5) (p' := 71) h em93_70 (by decide +kernel) rfl
              replace h := tx_imul (p' := 72) h em93_71 rfl
              replace h := tx_iload_n (p' := 73) h em93_72 rfl rfl
              replace h := tx_iadd (p' := 74) h em93_73 rfl
              replace h := tx_bipush (v := 8) (p' := 76) h em93_74 (by decide +kernel) rfl
              replace h := tx_imul (p' := 77) h em93_76 rfl
              replace h := tx_iload_n (p' := 78) h em93_77 rfl rfl
              replace h := tx_iadd (p' := 79) h em93_78 rfl
              replace h := tx_dup2 (p' := 80) h em93_79 rfl
              obtain ⟨hb80, h⟩ := tx_iald (len := 200) (p' := 81) h em93_80 rfl rfl
              replace hb80 : (0 : Int) ≤ ((((a * (5 : Int32)) + b) * (8 : Int32)) + l).toInt ∧ ((((a * (5 : Int32)) + b) * (8 : Int32)) + l).toInt < 200 := hb80
              replace h := tx_iconst (v := 1) (p' := 82) h em93_81 (by decide +kernel) rfl
              replace h := tx_iadd (p' := 83) h em93_82 rfl
              obtain ⟨hb83, h⟩ := tx_iast (len := 200) (p' := 84) h em93_83 rfl rfl
              replace hb83 : (0 : Int) ≤ ((((a * (5 : Int32)) + b) * (8 : Int32)) + l).toInt ∧ ((((a * (5 : Int32)) + b) * (8 : Int32)) + l).toInt < 200 := hb83
              replace h := tx_iconst (v := 1) (p' := 85) h em93_84 (by decide +kernel) rfl
              obtain ⟨rfl, hμ⟩ := tx_ireturn h em93_85
              replace hμ : μ' = (xpi μ59 32 ((((a * (5 : Int32)) + b) * (8 : Int32)) + l).toInt.toNat ((μ59.1 32 ((((a * (5 : Int32)) + b) * (8 : Int32)) + l).toInt.toNat) + (1 : Int32))) := hμ
              rw [x4] at hμ
              have q3 := y2.2.1 (40 * hn + 8 * on + ln) (by omega)
              have q3 : μ59.1 32 (40 * hn + 8 * on + ln) = pMv hn on ln ρ (120 + (40 * hn + 8 * on + ln)) := q3
              have t3 := twA_l (j := 40 * hn + 8 * on + ln) (x := μ59.1 32 (40 * hn + 8 * on + ln) + 1) y2 (by omega)
              have g3 : gTm μ49 (xpi μ59 32 (40 * hn + 8 * on + ln) (μ59.1 32 (40 * hn + 8 * on + ln) + 1)) := gTm_i y1 (Or.inr rfl)
              rw [hμ]
              refine Or.inr ⟨rfl, hn, on, ln, hh, ho, hl, by omega, by omega, by omega, by omega, ?_, tw9_m hT4 ?_ (fun x hx => ?_) g3, ?_, hsI_2 g3.2 hI4, hOK_2 g3.2 hO4, pOK9_2 g3.2 hP4, cS9_cg hS4 (fun k j p q => g3.1 k j (by omega) (by omega))⟩
              · exact fun z => c36 (congrArg Int32.toInt z)
              · unfold pLd
                rw [← q3]
                exact t3
              · unfold pLd pMv
                rw [pUp_ne (by omega), pUp_ne (by omega), pUp_ne (by omega)]
              · exact hsL_cg hI4 hL4 g3.2 ⟨g3.1 40 1 (by decide) (by decide), g3.1 40 2 (by decide) (by decide)⟩ (fun a9 j q => g3.1 a9 j (by omega) (by omega))
            · replace c36 : ¬ ¬ (pFe ρ (8 * hn + ln)).toInt = 0 := c36
              replace h := tx_iconst (v := 0) (p' := 40) h em93_39 (by decide +kernel) rfl
              obtain ⟨rfl, hμ⟩ := tx_ireturn h em93_40
              exact Or.inl ⟨rfl, hμ, fun h9 o9 l9 g1 g2 g3 g4 g5 g6 g7 => by
                obtain ⟨rfl, rfl, rfl⟩ : h9 = hn ∧ o9 = on ∧ l9 = ln := ⟨by omega, by omega, by omega⟩
                exact Int32.toInt_inj.mp ((Decidable.of_not_not c36).trans (by decide))⟩
      · rw [hm12] at h
        replace h : eT xq_93 _ 15 [some (.inr (.inl (some 0))), some (.inl a), some (.inl b), some (.inl l)] [.inl (0 : Int32)] μ r μ' := h
        rcases tx_if (t := 39) (p' := 18) h em93_15 (by decide) rfl with ⟨c15_1, h⟩ | ⟨c15_1, h⟩
        · replace c15_1 : (0 : Int) = (0 : Int) := c15_1
          replace h := tx_iconst (v := 0) (p' := 40) h em93_39 (by decide +kernel) rfl
          obtain ⟨rfl, hμ⟩ := tx_ireturn h em93_40
          exact Or.inl ⟨rfl, hμ, fun h9 o9 l9 g1 g2 g3 g4 g5 g6 g7 => by exfalso; omega⟩
        · replace c15_1 : ¬ (0 : Int) = (0 : Int) := c15_1
          exfalso
          omega
  · rw [hm3] at h
    replace h : eT xq_93 _ 6 [some (.inr (.inl (some 0))), some (.inl a), some (.inl b), some (.inl l)] [.inl (0 : Int32)] μ r μ' := h
    rcases tx_if (t := 39) (p' := 9) h em93_6 (by decide) rfl with ⟨c6_1, h⟩ | ⟨c6_1, h⟩
    · replace c6_1 : (0 : Int) = (0 : Int) := c6_1
      replace h := tx_iconst (v := 0) (p' := 40) h em93_39 (by decide +kernel) rfl
      obtain ⟨rfl, hμ⟩ := tx_ireturn h em93_40
      exact Or.inl ⟨rfl, hμ, fun h9 o9 l9 g1 g2 g3 g4 g5 g6 g7 => by exfalso; omega⟩
    · replace c6_1 : ¬ (0 : Int) = (0 : Int) := c6_1
      exfalso
      omega
set_option maxRecDepth 10000 in
set_option maxHeartbeats 4000000 in
theorem ex_cgiveBack {a b l : Int32} {S : kSt} {ρ : Nat → Int32} {m : Nat} {G : Nat → Nat → Int32} {Z : Nat → Option (Nat → Int32)} {μ μ' : xM} {r : Option zV} (h0 : Ex gx xq_84 [.inr (.inl (some 0)), .inl a, .inl b, .inl l] μ r μ') (hO : hOK μ) (hP : pOK9 μ) (hS : cS9 S μ) (hT : tw9 S 28 ρ μ) (hI : hsI μ) (hL : hsL S Z m G μ) : (r = some (.inl 0) ∧ μ' = μ ∧ ∀ hn on ln : Nat, a.toInt = (hn : Int) → b.toInt = (on : Int) → l.toInt = (ln : Int) → hn < S.1.length → on < S.1.length → ¬ hn = on → ln < 8 → ρ (120 + (40 * on + 8 * hn + ln)) = 0 ∨ pFe ρ (8 * hn + ln) = 0) ∨ (r = some (.inl 1) ∧ ∃ hn on ln : Nat, a.toInt = (hn : Int) ∧ b.toInt = (on : Int) ∧ l.toInt = (ln : Int) ∧ hn < S.1.length ∧ on < S.1.length ∧ ¬ hn = on ∧ ln < 8 ∧ ¬ (ρ (120 + (40 * on + 8 * hn + ln)) = 0 ∨ pFe ρ (8 * hn + ln) = 0) ∧ tw9 S 28 (pGb hn on ln ρ) μ' ∧ hsL S Z (min 30 (m + 1)) (gcons ρ G) μ' ∧ hsI μ' ∧ hOK μ' ∧ pOK9 μ' ∧ cS9 S μ') := by
  obtain ⟨n, h⟩ := tx_in (L := [some (.inr (.inl (some 0))), some (.inl a), some (.inl b), some (.inl l), none]) h0 rfl
  have hH5 := hS.1.1
  have hHc : (μ.1 2 0).toInt = (S.1.length : Int) := hS.2.2.1.1.1
  replace h := tx_aload_n (p' := 1) h em84_0 rfl rfl
  replace h := tx_iload_n (p' := 2) h em84_1 rfl rfl
  replace h := tx_iload_n (p' := 3) h em84_2 rfl rfl
  obtain ⟨r3, μ3, hE3, h⟩ := tx_invV (na := 3) (mn := 88) (as := [.inr (.inl (some 0)), .inl a, .inl l]) (rest := []) (p' := 6) h em84_3 ((congrFun xo_0 147).trans rfl) xm_88 rfl rfl
  obtain ⟨hm3, ⟨rfl, a1, a2, l1, l2⟩ | ⟨rfl, a5⟩⟩ := ex_cisCell hE3 hHc
  · rw [hm3] at h
    replace h : eT xq_84 _ 6 [some (.inr (.inl (some 0))), some (.inl a), some (.inl b), some (.inl l), none] [.inl (1 : Int32)] μ r μ' := h
    rcases tx_if (t := 23) (p' := 9) h em84_6 (by decide) rfl with ⟨c6, h⟩ | ⟨c6, h⟩
    · replace c6 : (1 : Int) = (0 : Int) := c6
      exfalso
      omega
    · replace c6 : ¬ (1 : Int) = (0 : Int) := c6
      replace h := tx_aload_n (p' := 10) h em84_9 rfl rfl
      replace h := tx_iload_n (p' := 11) h em84_10 rfl rfl
      replace h := tx_iload_n (p' := 12) h em84_11 rfl rfl
      obtain ⟨r12, μ12, hE12, h⟩ := tx_invV (na := 3) (mn := 88) (as := [.inr (.inl (some 0)), .inl b, .inl l]) (rest := []) (p' := 15) h em84_12 ((congrFun xo_0 147).trans rfl) xm_88 rfl rfl
      obtain ⟨hm12, ⟨rfl, b1, b2, l1, l2⟩ | ⟨rfl, b5⟩⟩ := ex_cisCell hE12 hHc
      · rw [hm12] at h
        obtain ⟨hn, hh⟩ : ∃ hn : Nat, a.toInt = (hn : Int) := ⟨a.toInt.toNat, by omega⟩
        obtain ⟨on, ho⟩ : ∃ on : Nat, b.toInt = (on : Int) := ⟨b.toInt.toNat, by omega⟩
        obtain ⟨ln, hl⟩ : ∃ ln : Nat, l.toInt = (ln : Int) := ⟨l.toInt.toNat, by omega⟩
        have e8i : (8 : Int32).toInt = 8 := by decide
        have e5i : (5 : Int32).toInt = 5 := by decide
        have u1 : (a * (8 : Int32)).toInt = 8 * (hn : Int) := by rw [an_mul (by rw [e8i]; omega) (by rw [e8i]; omega), e8i]; omega
        have u2 : ((a * (8 : Int32)) + l).toInt = ((8 * hn + ln : Nat) : Int) := by rw [an_add (by rw [u1]; omega) (by rw [u1]; omega), u1, hl]; omega
        have u3 : ((a * (8 : Int32)) + l).toInt.toNat = 8 * hn + ln := by omega
        have x1 : (b * (5 : Int32)).toInt = 5 * (on : Int) := by rw [an_mul (by rw [e5i]; omega) (by rw [e5i]; omega), e5i]; omega
        have x2 : ((b * (5 : Int32)) + a).toInt = 5 * (on : Int) + hn := by rw [an_add (by rw [x1]; omega) (by rw [x1]; omega), x1]; omega
        have x3 : (((b * (5 : Int32)) + a) * (8 : Int32)).toInt = 8 * (5 * (on : Int) + hn) := by rw [an_mul (by rw [e8i, x2]; omega) (by rw [e8i, x2]; omega), e8i, x2]; omega
        have x5 : ((((b * (5 : Int32)) + a) * (8 : Int32)) + l).toInt = 8 * (5 * (on : Int) + hn) + ln := by rw [an_add (by rw [x3]; omega) (by rw [x3]; omega), x3, hl]
        have x4 : ((((b * (5 : Int32)) + a) * (8 : Int32)) + l).toInt.toNat = 40 * on + 8 * hn + ln := by omega
        replace h : eT xq_84 _ 15 [some (.inr (.inl (some 0))), some (.inl a), some (.inl b), some (.inl l), none] [.inl (1 : Int32)] μ r μ' := h
        rcases tx_if (t := 23) (p' := 18) h em84_15 (by decide) rfl with ⟨c15, h⟩ | ⟨c15, h⟩
        · replace c15 : (1 : Int) = (0 : Int) := c15
          exfalso
          omega
        · replace c15 : ¬ (1 : Int) = (0 : Int) := c15
          replace h := tx_iload_n (p' := 19) h em84_18 rfl rfl
          replace h := tx_iload_n (p' := 20) h em84_19 rfl rfl
          rcases tx_icmp (t := 25) (p' := 23) h em84_20 (by decide) rfl with ⟨c20, h⟩ | ⟨c20, h⟩
          · replace c20 : ¬ a.toInt = b.toInt := c20
            replace h := tx_iload_n (p' := 26) h em84_25 rfl rfl
            replace h := tx_iconst (v := 5) (p' := 27) h em84_26 (by decide +kernel) rfl
            replace h := tx_imul (p' := 28) h em84_27 rfl
            replace h := tx_iload_n (p' := 29) h em84_28 rfl rfl
            replace h := tx_iadd (p' := 30) h em84_29 rfl
            replace h := tx_bipush (v := 8) (p' := 32) h em84_30 (by decide +kernel) rfl
            replace h := tx_imul (p' := 33) h em84_32 rfl
            replace h := tx_iload_n (p' := 34) h em84_33 rfl rfl
            replace h := tx_iadd (p' := 35) h em84_34 rfl
            replace h := tx_istore (p' := 37) h em84_35 rfl
            replace h : eT xq_84 _ 37 [some (.inr (.inl (some 0))), some (.inl a), some (.inl b), some (.inl l), some (.inl ((((b * (5 : Int32)) + a) * (8 : Int32)) + l))] [] μ r μ' := h
            replace h := tx_aload_n (p' := 38) h em84_37 rfl rfl
            replace h := tx_getc (c := 11) (j := 1) (p' := 41) h em84_38 ((congrFun xo_0 39).trans rfl) rfl rfl rfl
            obtain ⟨b41, hk_b41, hr_b41, h⟩ := tx_getk (c := 8) (j := 3) (p' := 44) h em84_41 ((congrFun xo_0 246).trans rfl) rfl rfl rfl
            have eb41 : b41 = 32 := Option.some.inj (hr_b41.symm.trans ((hO).2 28 (by decide) 3 (by decide)))
            subst eb41
            replace h := tx_iload (p' := 46) h em84_44 rfl rfl
            obtain ⟨hb46, h⟩ := tx_iald (len := 200) (p' := 47) h em84_46 rfl rfl
            replace hb46 : (0 : Int) ≤ ((((b * (5 : Int32)) + a) * (8 : Int32)) + l).toInt ∧ ((((b * (5 : Int32)) + a) * (8 : Int32)) + l).toInt < 200 := hb46
            rcases tx_if (t := 66) (p' := 50) h em84_47 (by decide) rfl with ⟨c47, h⟩ | ⟨c47, h⟩
            · replace c47 : (μ.1 32 ((((b * (5 : Int32)) + a) * (8 : Int32)) + l).toInt.toNat).toInt = 0 := c47
              replace h := tx_iconst (v := 0) (p' := 67) h em84_66 (by decide +kernel) rfl
              obtain ⟨rfl, hμ⟩ := tx_ireturn h em84_67
              have q0 : μ.1 32 (40 * on + 8 * hn + ln) = ρ (120 + (40 * on + 8 * hn + ln)) := hT.1.2.1 _ (by omega)
              rw [x4] at c47
              exact Or.inl ⟨rfl, hμ, fun h9 o9 l9 g1 g2 g3 g4 g5 g6 g7 => by
                obtain ⟨rfl, rfl, rfl⟩ : h9 = hn ∧ o9 = on ∧ l9 = ln := ⟨by omega, by omega, by omega⟩
                exact Or.inl (q0.symm.trans (Int32.toInt_inj.mp (c47.trans (by decide))))⟩
            · replace c47 : ¬ (μ.1 32 ((((b * (5 : Int32)) + a) * (8 : Int32)) + l).toInt.toNat).toInt = 0 := c47
              replace h := tx_aload_n (p' := 51) h em84_50 rfl rfl
              replace h := tx_getc (c := 11) (j := 1) (p' := 54) h em84_51 ((congrFun xo_0 39).trans rfl) rfl rfl rfl
              replace h := tx_iload_n (p' := 55) h em84_54 rfl rfl
              replace h := tx_bipush (v := 8) (p' := 57) h em84_55 (by decide +kernel) rfl
              replace h := tx_imul (p' := 58) h em84_57 rfl
              replace h := tx_iload_n (p' := 59) h em84_58 rfl rfl
              replace h := tx_iadd (p' := 60) h em84_59 rfl
              obtain ⟨r60, μ60, hE60, h⟩ := tx_invV (na := 2) (mn := 51) (as := [.inr (.inl (some 28)), .inl ((a * (8 : Int32)) + l)]) (rest := []) (p' := 63) h em84_60 ((congrFun xo_0 158).trans rfl) xm_51 rfl rfl
              obtain ⟨hm60, rfl⟩ := ex_free_28 hE60 hO hT.1 u2 (by omega)
              rw [hm60] at h
              replace h : eT xq_84 _ 63 [some (.inr (.inl (some 0))), some (.inl a), some (.inl b), some (.inl l), some (.inl ((((b * (5 : Int32)) + a) * (8 : Int32)) + l))] [.inl (pFe ρ (8 * hn + ln))] μ r μ' := h
              rcases tx_if (t := 68) (p' := 66) h em84_63 (by decide) rfl with ⟨c63, h⟩ | ⟨c63, h⟩
              · replace c63 : ¬ (pFe ρ (8 * hn + ln)).toInt = 0 := c63
                replace h := tx_aload_n (p' := 69) h em84_68 rfl rfl
                replace h := tx_getc (c := 11) (j := 8) (p' := 72) h em84_69 ((congrFun xo_0 49).trans rfl) rfl rfl rfl
                replace h := tx_aload_n (p' := 73) h em84_72 rfl rfl
                replace h := tx_getc (c := 11) (j := 1) (p' := 76) h em84_73 ((congrFun xo_0 39).trans rfl) rfl rfl rfl
                obtain ⟨r76, μ76, hE76, h⟩ := tx_invV (na := 2) (mn := 0) (as := [.inr (.inl (some 40)), .inr (.inl (some 28))]) (rest := []) (p' := 79) h em84_76 ((congrFun xo_0 220).trans rfl) xm_0 rfl rfl
                have hN := hO.1
                obtain ⟨rfl, hO4, hI4, n0, n1, n2, c, hc, ht, hk⟩ := ex_keep hE76 hO hI (by have := hL.2.1; have := hL.2.2.1; omega)
                have hL4 := hsL_keep hS.1 hO hI hL hT hI4 n1 n2 hc ht hk
                have hcN := (hI4.2.1 41 _ c (Or.inl ⟨rfl, by omega⟩) hc).1
                have e4 : ∀ a j, a < 119 → a ≠ 40 → μ76.1 a j = μ.1 a j := fun a j q z => hk.1 a j (by omega) z (by omega)
                have hT4 := tw9_cg hT (fun a j q1 q2 => e4 a j (by omega) (by omega))
                have hS4 := cS9_cg hS (fun k j a b => e4 k j (by omega) (by omega))
                have hP4 : pOK9 μ76 := fun p hp j hj => (hk.2.1 p j (by omega) (fun q => by omega)).trans (hP p hp j hj)
                replace h : eT xq_84 _ 79 [some (.inr (.inl (some 0))), some (.inl a), some (.inl b), some (.inl l), some (.inl ((((b * (5 : Int32)) + a) * (8 : Int32)) + l))] [] μ76 r μ' := h
                replace h := tx_aload_n (p' := 80) h em84_79 rfl rfl
                replace h := tx_getc (c := 11) (j := 1) (p' := 83) h em84_80 ((congrFun xo_0 39).trans rfl) rfl rfl rfl
                replace h := tx_iload_n (p' := 84) h em84_83 rfl rfl
                replace h := tx_iload_n (p' := 85) h em84_84 rfl rfl
                replace h := tx_iload_n (p' := 86) h em84_85 rfl rfl
                obtain ⟨r86, μ86, hE86, h⟩ := tx_invV (na := 4) (mn := 57) (as := [.inr (.inl (some 28)), .inl a, .inl b, .inl l]) (rest := []) (p' := 89) h em84_86 ((congrFun xo_0 242).trans rfl) xm_57 rfl rfl
                obtain ⟨rfl, y1, y2⟩ := ex_cmove hE86 hO4 hT4.1 hh (by omega) ho (by omega) hl (by omega)
                replace h : eT xq_84 _ 89 [some (.inr (.inl (some 0))), some (.inl a), some (.inl b), some (.inl l), some (.inl ((((b * (5 : Int32)) + a) * (8 : Int32)) + l))] [] μ86 r μ' := h
                replace h := tx_aload_n (p' := 90) h em84_89 rfl rfl
                replace h := tx_getc (c := 11) (j := 1) (p' := 93) h em84_90 ((congrFun xo_0 39).trans rfl) rfl rfl rfl
                obtain ⟨b93, hk_b93, hr_b93, h⟩ := tx_getk (c := 8) (j := 3) (p' := 96) h em84_93 ((congrFun xo_0 246).trans rfl) rfl rfl rfl
                have eb93 : b93 = 32 := Option.some.inj (hr_b93.symm.trans (((hOK_2 y1.2 hO4)).2 28 (by decide) 3 (by decide)))
                subst eb93
                replace h := tx_iload (p' := 98) h em84_96 rfl rfl
                replace h := tx_dup2 (p' := 99) h em84_98 rfl
                obtain ⟨hb99, h⟩ := tx_iald (len := 200) (p' := 100) h em84_99 rfl rfl
                replace hb99 : (0 : Int) ≤ ((((b * (5 : Int32)) + a) * (8 : Int32)) + l).toInt ∧ ((((b * (5 : Int32)) + a) * (8 : Int32)) + l).toInt < 200 := hb99
                replace h := tx_iconst (v := 1) (p' := 101) h em84_100 (by decide +kernel) rfl
                replace h := tx_isub (p' := 102) h em84_101 rfl
                obtain ⟨hb102, h⟩ := tx_iast (len := 200) (p' := 103) h em84_102 rfl rfl
                replace hb102 : (0 : Int) ≤ ((((b * (5 : Int32)) + a) * (8 : Int32)) + l).toInt ∧ ((((b * (5 : Int32)) + a) * (8 : Int32)) + l).toInt < 200 := hb102
                replace h := tx_iconst (v := 1) (p' := 104) h em84_103 (by decide +kernel) rfl
                obtain ⟨rfl, hμ⟩ := tx_ireturn h em84_104
                have q0 : μ.1 32 (40 * on + 8 * hn + ln) = ρ (120 + (40 * on + 8 * hn + ln)) := hT.1.2.1 _ (by omega)
                replace hμ : μ' = (xpi μ86 32 ((((b * (5 : Int32)) + a) * (8 : Int32)) + l).toInt.toNat ((μ86.1 32 ((((b * (5 : Int32)) + a) * (8 : Int32)) + l).toInt.toNat) - (1 : Int32))) := hμ
                rw [x4] at hμ
                have q3 := y2.2.1 (40 * on + 8 * hn + ln) (by omega)
                have q3 : μ86.1 32 (40 * on + 8 * hn + ln) = pMv hn on ln ρ (120 + (40 * on + 8 * hn + ln)) := q3
                have t3 := twA_l (j := 40 * on + 8 * hn + ln) (x := μ86.1 32 (40 * on + 8 * hn + ln) - 1) y2 (by omega)
                have g3 : gTm μ76 (xpi μ86 32 (40 * on + 8 * hn + ln) (μ86.1 32 (40 * on + 8 * hn + ln) - 1)) := gTm_i y1 (Or.inr rfl)
                rw [hμ]
                refine Or.inr ⟨rfl, hn, on, ln, hh, ho, hl, by omega, by omega, by omega, by omega, ?_, tw9_m hT4 ?_ (fun x hx => ?_) g3, ?_, hsI_2 g3.2 hI4, hOK_2 g3.2 hO4, pOK9_2 g3.2 hP4, cS9_cg hS4 (fun k j p q => g3.1 k j (by omega) (by omega))⟩
                · exact fun z => z.elim (fun y => c47 (by rw [x4]; exact congrArg Int32.toInt (q0.trans y))) (fun y => c63 (congrArg Int32.toInt y))
                · unfold pGb
                  rw [← q3]
                  exact t3
                · unfold pGb pMv
                  rw [pUp_ne (by omega), pUp_ne (by omega), pUp_ne (by omega)]
                · exact hsL_cg hI4 hL4 g3.2 ⟨g3.1 40 1 (by decide) (by decide), g3.1 40 2 (by decide) (by decide)⟩ (fun a9 j q => g3.1 a9 j (by omega) (by omega))
              · replace c63 : ¬ ¬ (pFe ρ (8 * hn + ln)).toInt = 0 := c63
                replace h := tx_iconst (v := 0) (p' := 67) h em84_66 (by decide +kernel) rfl
                obtain ⟨rfl, hμ⟩ := tx_ireturn h em84_67
                have q0 : μ.1 32 (40 * on + 8 * hn + ln) = ρ (120 + (40 * on + 8 * hn + ln)) := hT.1.2.1 _ (by omega)
                exact Or.inl ⟨rfl, hμ, fun h9 o9 l9 g1 g2 g3 g4 g5 g6 g7 => by
                  obtain ⟨rfl, rfl, rfl⟩ : h9 = hn ∧ o9 = on ∧ l9 = ln := ⟨by omega, by omega, by omega⟩
                  exact Or.inr (Int32.toInt_inj.mp ((Decidable.of_not_not c63).trans (by decide)))⟩
          · replace c20 : ¬ ¬ a.toInt = b.toInt := c20
            replace h := tx_iconst (v := 0) (p' := 24) h em84_23 (by decide +kernel) rfl
            obtain ⟨rfl, hμ⟩ := tx_ireturn h em84_24
            exact Or.inl ⟨rfl, hμ, fun h9 o9 l9 g1 g2 g3 g4 g5 g6 g7 => by exfalso; omega⟩
      · rw [hm12] at h
        replace h : eT xq_84 _ 15 [some (.inr (.inl (some 0))), some (.inl a), some (.inl b), some (.inl l), none] [.inl (0 : Int32)] μ r μ' := h
        rcases tx_if (t := 23) (p' := 18) h em84_15 (by decide) rfl with ⟨c15_1, h⟩ | ⟨c15_1, h⟩
        · replace c15_1 : (0 : Int) = (0 : Int) := c15_1
          replace h := tx_iconst (v := 0) (p' := 24) h em84_23 (by decide +kernel) rfl
          obtain ⟨rfl, hμ⟩ := tx_ireturn h em84_24
          exact Or.inl ⟨rfl, hμ, fun h9 o9 l9 g1 g2 g3 g4 g5 g6 g7 => by exfalso; omega⟩
        · replace c15_1 : ¬ (0 : Int) = (0 : Int) := c15_1
          exfalso
          omega
  · rw [hm3] at h
    replace h : eT xq_84 _ 6 [some (.inr (.inl (some 0))), some (.inl a), some (.inl b), some (.inl l), none] [.inl (0 : Int32)] μ r μ' := h
    rcases tx_if (t := 23) (p' := 9) h em84_6 (by decide) rfl with ⟨c6_1, h⟩ | ⟨c6_1, h⟩
    · replace c6_1 : (0 : Int) = (0 : Int) := c6_1
      replace h := tx_iconst (v := 0) (p' := 24) h em84_23 (by decide +kernel) rfl
      obtain ⟨rfl, hμ⟩ := tx_ireturn h em84_24
      exact Or.inl ⟨rfl, hμ, fun h9 o9 l9 g1 g2 g3 g4 g5 g6 g7 => by exfalso; omega⟩
    · replace c6_1 : ¬ (0 : Int) = (0 : Int) := c6_1
      exfalso
      omega
