/-! ===== the class's day ===== -/
/-- what a wear, a loss may change of the town at c -/
def gDw (c : Nat) (μ μ' : xM) : Prop := (∀ k j, k ≠ 49 → k ≠ 50 → k ≠ c + 1 → k ≠ c + 3 → ¬ (k = c ∧ 7 ≤ j) → μ'.1 k j = μ.1 k j) ∧ μ'.2 = μ.2
def gDy (c : Nat) (μ μ' : xM) : Prop := (∀ k j, k ≠ 49 → k ≠ 50 → k ≠ c + 1 → k ≠ c + 3 → ¬ (k = c ∧ 6 ≤ j) → μ'.1 k j = μ.1 k j) ∧ μ'.2 = μ.2
theorem gDw_rf {c : Nat} {μ : xM} : gDw c μ μ := ⟨fun _ _ _ _ _ _ _ => rfl, rfl⟩
theorem gDy_rf {c : Nat} {μ : xM} : gDy c μ μ := ⟨fun _ _ _ _ _ _ _ => rfl, rfl⟩
theorem gDw_tr {c : Nat} {μ ν ω : xM} (h1 : gDw c μ ν) (h2 : gDw c ν ω) : gDw c μ ω := ⟨fun k j a b d e f => (h2.1 k j a b d e f).trans (h1.1 k j a b d e f), h2.2.trans h1.2⟩
theorem gDy_tr {c : Nat} {μ ν ω : xM} (h1 : gDy c μ ν) (h2 : gDy c ν ω) : gDy c μ ω := ⟨fun k j a b d e f => (h2.1 k j a b d e f).trans (h1.1 k j a b d e f), h2.2.trans h1.2⟩
theorem gDy_w {c : Nat} {μ ν : xM} (h : gDw c μ ν) : gDy c μ ν := ⟨fun k j a b d e f => h.1 k j a b d e (fun q => f ⟨q.1, by omega⟩), h.2⟩
theorem gDw_J {c : Nat} {μ ν : xM} (h : gJ μ ν) : gDw c μ ν := ⟨fun k j a b _ _ _ => h.1 k j a b, h.2⟩
theorem gDw_i {c : Nat} {μ ν : xM} {k j : Nat} {v : Int32} (h : gDw c μ ν) (hk : k = c + 1 ∨ k = c + 3 ∨ (k = c ∧ 7 ≤ j)) : gDw c μ (xpi ν k j v) := ⟨fun x i a b d e f => (xpi_ne (fun q => by omega)).trans (h.1 x i a b d e f), h.2⟩
theorem gDy_i {c : Nat} {μ ν : xM} {j : Nat} {v : Int32} (h : gDy c μ ν) (hk : 6 ≤ j) : gDy c μ (xpi ν c j v) := ⟨fun x i a b d e f => (xpi_ne (fun q => by omega)).trans (h.1 x i a b d e f), h.2⟩
theorem cS9_y {S : kSt} {c : Nat} {μ ν : xM} (h : cS9 S μ) (e : gDy c μ ν) (hc : 12 ≤ c) : cS9 S ν := cS9_cg h (fun k j a b => e.1 k j (by omega) (by omega) (by omega) (by omega) (by omega))
theorem twA_w {c : Nat} {ρ : Nat → Int32} {μ : xM} {j : Nat} {x : Int32} (h : twA c ρ μ) (hj : j < 40) : twA c (pUp ρ (80 + j) x) (xpi μ (c + 3) j x) := by
  obtain ⟨a, b, d1, d2, d3⟩ := h
  refine ⟨fun i hi => ?_, fun i hi => ?_, ?_, ?_, ?_⟩
  · refine ⟨?_, ?_, ?_⟩
    · rw [xpi_ne (fun q => by omega), pUp_ne (by omega)]; exact (a i hi).1
    · rw [xpi_ne (fun q => by omega), pUp_ne (by omega)]; exact (a i hi).2.1
    · by_cases e : i = j
      · rw [e, xpi_at, pUp_at]
      · rw [xpi_ne (fun q => e q.2), pUp_ne (by omega)]; exact (a i hi).2.2
  · rw [xpi_ne (fun q => by omega), pUp_ne (by omega)]; exact b i hi
  · rw [xpi_ne (fun q => by omega), pUp_ne (by omega)]; exact d1
  · rw [xpi_ne (fun q => by omega), pUp_ne (by omega)]; exact d2
  · rw [xpi_ne (fun q => by omega), pUp_ne (by omega)]; exact d3
theorem twA_f {c : Nat} {ρ : Nat → Int32} {μ : xM} {j : Nat} {x : Int32} (h : twA c ρ μ) (hj : 7 ≤ j ∧ j ≤ 9) : twA c (pUp ρ (379 + j) x) (xpi μ c j x) := by
  obtain ⟨a, b, d1, d2, d3⟩ := h
  refine ⟨fun i hi => ?_, fun i hi => ?_, ?_, ?_, ?_⟩
  · rw [xpi_ne (fun q => by omega), xpi_ne (fun q => by omega), xpi_ne (fun q => by omega), pUp_ne (by omega), pUp_ne (by omega), pUp_ne (by omega)]; exact a i hi
  · rw [xpi_ne (fun q => by omega), pUp_ne (by omega)]; exact b i hi
  · by_cases e : j = 7
    · rw [e, xpi_at]; exact pUp_at.symm
    · rw [xpi_ne (fun q => e q.2.symm), pUp_ne (by omega)]; exact d1
  · by_cases e : j = 8
    · rw [e, xpi_at]; exact pUp_at.symm
    · rw [xpi_ne (fun q => e q.2.symm), pUp_ne (by omega)]; exact d2
  · by_cases e : j = 9
    · rw [e, xpi_at]; exact pUp_at.symm
    · rw [xpi_ne (fun q => e q.2.symm), pUp_ne (by omega)]; exact d3
theorem tw9_n {S : kSt} {c : Nat} {ρ ρ' : Nat → Int32} {μ μ' : xM} (hW : kWf S) (h : tw9 S c ρ μ) (t : twA c ρ' μ') (e : ∀ x, 320 ≤ x → x < 386 → ρ' x = ρ x) (g5 : μ'.1 c 5 = μ.1 c 5) (g6 : μ'.1 c 6 = μ.1 c 6) (g : ∀ j, μ'.1 (c + 5) j = μ.1 (c + 5) j) : tw9 S c ρ' μ' := by
  refine ⟨t, fun v hv => ?_⟩
  have h7 := hW.2.1
  have h8 := (kWf_V hW v).1
  obtain ⟨b1, b2, b3, b4⟩ := h.2 v hv
  have uS : stS ρ' v ↔ stS ρ v := by unfold stS; rw [e _ (by omega) (by omega)]
  have uD : stD ρ' v ↔ stD ρ v := by unfold stD; rw [e _ (by omega) (by omega)]
  rw [g5, g6, uS, uD, e _ (by omega) (by omega)]
  refine ⟨b1, b2, b3, fun q i hi => ?_⟩
  rw [g _, e _ (by omega) (by omega)]
  exact b4 q i hi
theorem pHd_m {x hi : Int32} (h : 0 ≤ x.toInt) : (if x < hi then x else hi) = pHd x 0 hi := by
  have e0 : (0 : Int32).toInt = 0 := by decide
  have e1 : pHd x 0 hi = (if hi < x then hi else x) := if_neg (fun q => by
    have := Int32.lt_iff_toInt_lt.mp q
    omega)
  rw [e1]
  by_cases a : x < hi
  · rw [if_pos a, if_neg (fun q => by
      have h1 := Int32.lt_iff_toInt_lt.mp q
      have h2 := Int32.lt_iff_toInt_lt.mp a
      omega)]
  · rw [if_neg a]
    by_cases b : hi < x
    · rw [if_pos b]
    · rw [if_neg b]
      have a2 : ¬ x.toInt < hi.toInt := fun q => a (Int32.lt_iff_toInt_lt.mpr q)
      have b2 : ¬ hi.toInt < x.toInt := fun q => b (Int32.lt_iff_toInt_lt.mpr q)
      exact Int32.toInt_inj.mp (by omega)
/-- set and not done yet -/
theorem owed_b {a b : Bool} {ρ : Nat → Int32} {v : Nat} {Q : Prop} (h : (a = true ↔ stS ρ v) ∧ (b = true ↔ stD ρ v) ∧ (ρ (320 + v) = 0 ∨ stS ρ v ∨ stD ρ v) ∧ Q) : (a && !b) = true ↔ ρ (320 + v) = 1 := by
  obtain ⟨h1, h2, -, -⟩ := h
  constructor
  · intro z
    rw [Bool.and_eq_true] at z
    have s1 := h1.mp z.1
    have s2 : ¬ stD ρ v := fun q => by rw [h2.mpr q] at z; cases z.2
    unfold stS at s1
    unfold stD at s2
    rcases s1 with e | e
    · exact e
    · exact absurd (Or.inl e) s2
  · intro z
    have s1 : stS ρ v := Or.inl z
    have s2 : ¬ stD ρ v := fun q => by
      unfold stD at q
      rw [z] at q
      exact absurd q (by decide)
    rw [h1.mpr s1]
    cases b with
    | false => rfl
    | true => exact absurd (h2.mp rfl) s2
/-- a day's work begun: paid, done -/
theorem tw9_pd {S : kSt} {c : Nat} {ρ : Nat → Int32} {μ μ' : xM} (hW : kWf S) (h : tw9 S c ρ μ) (t : twA c (pPd S S.2.1.length ρ) μ') (g5 : μ'.1 c 5 = μ.1 c 5) (g6 : μ'.1 c 6 = μ.1 c 6 ||| μ.1 c 5) (g : ∀ j, μ'.1 (c + 5) j = μ.1 (c + 5) j) : tw9 S c (pPd S S.2.1.length ρ) μ' := by
  refine ⟨t, fun v hv => ?_⟩
  have h7 := hW.2.1
  have h8 := (kWf_V hW v).1
  obtain ⟨b1, b2, b3, b4⟩ := h.2 v hv
  have uS : stS (pPd S S.2.1.length ρ) v ↔ stS ρ v := pPd_S h7 hv
  have u := pPd_st (S := S) (ρ := ρ) hv h7
  have uD : stD (pPd S S.2.1.length ρ) v ↔ (stD ρ v ∨ stS ρ v) := by
    unfold stD stS
    rw [u]
    by_cases q : ρ (320 + v) = 1
    · rw [if_pos q, q]; decide
    · rw [if_neg q]
      constructor
      · intro z; exact Or.inl z
      · rintro (z | z | z)
        · exact z
        · exact absurd z q
        · exact Or.inl z
  rw [g5, g6, xb_or, uS, uD, Bool.or_eq_true, b1, b2]
  refine ⟨Iff.rfl, Iff.rfl, ?_, fun q i hi => ?_⟩
  · rcases b3 with z | z | z
    · exact Or.inl (by rw [u, if_neg (fun y => by rw [z] at y; exact absurd y (by decide))]; exact z)
    · exact Or.inr (Or.inl z)
    · exact Or.inr (Or.inr (Or.inl z))
  · rw [g _, pPd_ne (by omega) (by omega)]
    exact b4 q i hi
abbrev xq_35 : xP := (⟨"CapitalCase$Press", "passDays", "(LCapitalCase$Town;II)V"⟩, prog_6_method_2_code, 5, none)
abbrev xq_34 : xP := (⟨"CapitalCase$Press", "owed", "(LCapitalCase$Town;)I"⟩, prog_6_method_3_code, 4, (some .int))
abbrev xq_39 : xP := (⟨"CapitalCase$Press", "work", "(LCapitalCase$Town;)V"⟩, prog_6_method_4_code, 4, none)
abbrev xq_38 : xP := (⟨"CapitalCase$Press", "wear", "(LCapitalCase$Town;II)Z"⟩, prog_6_method_5_code, 6, (some .boolean))
abbrev xq_36 : xP := (⟨"CapitalCase$Press", "steal", "(LCapitalCase$Town;I)V"⟩, prog_6_method_7_code, 6, none)
abbrev xq_56 : xP := (⟨"CapitalCase$Town", "lose", "(I)Z"⟩, prog_10_method_11_code, 2, (some .boolean))
set_option maxRecDepth 10000 in
set_option maxHeartbeats 4000000 in
theorem ex_close_28 {x : Int32} {cn : Nat} {ρ : Nat → Int32} {μ μ' : xM} {r : Option zV} (h0 : Ex gx xq_56 [.inr (.inl (some 28)), .inl x] μ r μ') (hO : hOK μ) (hT : twA 28 ρ μ) (hx : x.toInt = (cn : Int)) (hc : cn < 40) : gDw 28 μ μ' ∧ twA 28 (pLs cn ρ) μ' ∧ ((r = some (.inl 1) ∧ ¬ ρ cn = 0) ∨ (r = some (.inl 0) ∧ ρ cn = 0)) := by
  obtain ⟨n, h⟩ := tx_in (L := [some (.inr (.inl (some 28))), some (.inl x)]) h0 rfl
  replace h := tx_aload_n (p' := 1) h em56_0 rfl rfl
  obtain ⟨b1, hk_b1, hr_b1, h⟩ := tx_getk (c := 8) (j := 0) (p' := 4) h em56_1 ((congrFun xo_9 9).trans rfl) rfl rfl rfl
  have eb1 : b1 = 29 := Option.some.inj (hr_b1.symm.trans ((hO).2 28 (by decide) 0 (by decide)))
  subst eb1
  replace h := tx_iload_n (p' := 5) h em56_4 rfl rfl
  obtain ⟨hb5, h⟩ := tx_iald (len := 40) (p' := 6) h em56_5 rfl rfl
  replace hb5 : (0 : Int) ≤ x.toInt ∧ x.toInt < 40 := hb5
  rcases tx_if (t := 11) (p' := 9) h em56_6 (by decide) rfl with ⟨c6, h⟩ | ⟨c6, h⟩
  · replace c6 : ¬ (μ.1 29 x.toInt.toNat).toInt = 0 := c6
    replace h := tx_aload_n (p' := 12) h em56_11 rfl rfl
    obtain ⟨b12, hk_b12, hr_b12, h⟩ := tx_getk (c := 8) (j := 0) (p' := 15) h em56_12 ((congrFun xo_9 9).trans rfl) rfl rfl rfl
    have eb12 : b12 = 29 := Option.some.inj (hr_b12.symm.trans ((hO).2 28 (by decide) 0 (by decide)))
    subst eb12
    replace h := tx_iload_n (p' := 16) h em56_15 rfl rfl
    replace h := tx_dup2 (p' := 17) h em56_16 rfl
    obtain ⟨hb17, h⟩ := tx_iald (len := 40) (p' := 18) h em56_17 rfl rfl
    replace hb17 : (0 : Int) ≤ x.toInt ∧ x.toInt < 40 := hb17
    replace h := tx_iconst (v := 1) (p' := 19) h em56_18 (by decide +kernel) rfl
    replace h := tx_isub (p' := 20) h em56_19 rfl
    obtain ⟨hb20, h⟩ := tx_iast (len := 40) (p' := 21) h em56_20 rfl rfl
    replace hb20 : (0 : Int) ≤ x.toInt ∧ x.toInt < 40 := hb20
    replace h := tx_aload_n (p' := 22) h em56_21 rfl rfl
    replace h := tx_dup (p' := 23) h em56_22 rfl
    replace h := tx_getf (c := 8) (j := 9) (p' := 26) h em56_23 ((congrFun xo_9 57).trans rfl) rfl rfl (by decide) rfl
    replace h : eT xq_56 _ 26 [some (.inr (.inl (some 28))), some (.inl x)] [.inl (μ.1 28 9), .inr (.inl (some 28))] (xpi μ 29 x.toInt.toNat ((μ.1 29 x.toInt.toNat) - (1 : Int32))) r μ' := h
    replace h := tx_iconst (v := 1) (p' := 27) h em56_26 (by decide +kernel) rfl
    replace h := tx_iadd (p' := 28) h em56_27 rfl
    replace h := tx_putf (a := 28) (c := 8) (j := 9) (p' := 31) h em56_28 ((congrFun xo_9 57).trans rfl) rfl
    replace h := tx_iconst (v := 1) (p' := 32) h em56_31 (by decide +kernel) rfl
    obtain ⟨rfl, hμ⟩ := tx_ireturn h em56_32
    replace hμ : μ' = (xpi (xpi μ 29 x.toInt.toNat ((μ.1 29 x.toInt.toNat) - (1 : Int32))) 28 9 ((μ.1 28 9) + (1 : Int32))) := hμ
    have ex9 : x.toInt.toNat = cn := by omega
    rw [ex9] at c6
    have q1 : μ.1 29 cn = ρ cn := (hT.1 cn hc).1
    rw [q1] at c6
    have hz : ¬ ρ cn = 0 := fun q => by rw [q] at c6; exact c6 (by decide)
    rw [ex9, q1] at hμ
    have q3 : μ.1 28 9 = ρ 388 := hT.2.2.2.2
    rw [q3] at hμ
    rw [hμ]
    refine ⟨gDw_i (gDw_i gDw_rf (Or.inl rfl)) (Or.inr (Or.inr ⟨rfl, by decide⟩)), ?_, Or.inl ⟨rfl, hz⟩⟩
    unfold pLs
    rw [if_neg hz]
    exact twA_f (j := 9) (twA_h (j := cn) hT hc) (by decide)
  · replace c6 : ¬ ¬ (μ.1 29 x.toInt.toNat).toInt = 0 := c6
    replace h := tx_iconst (v := 0) (p' := 10) h em56_9 (by decide +kernel) rfl
    obtain ⟨rfl, hμ⟩ := tx_ireturn h em56_10
    have ex9 : x.toInt.toNat = cn := by omega
    rw [ex9] at c6
    have q1 : μ.1 29 cn = ρ cn := (hT.1 cn hc).1
    rw [q1] at c6
    have hz : ρ cn = 0 := Int32.toInt_inj.mp ((Decidable.of_not_not c6).trans (by decide))
    rw [hμ]
    exact ⟨gDw_rf, by unfold pLs; rw [if_pos hz]; exact hT, Or.inr ⟨rfl, hz⟩⟩
set_option maxRecDepth 10000 in
set_option maxHeartbeats 4000000 in
theorem ex_cwear_28 {hh0 l : Int32} {hn ln : Nat} {S : kSt} {ρ : Nat → Int32} {μ μ' : xM} {r : Option zV} (h0 : Ex gx xq_38 [.inr (.inl (some 51)), .inr (.inl (some 28)), .inl hh0, .inl l] μ r μ') (hO : hOK μ) (hS : cS9 S μ) (hT : twA 28 ρ μ) (hh : hh0.toInt = (hn : Int)) (hh4 : hn ≤ 4) (hl : l.toInt = (ln : Int)) (hl7 : ln ≤ 7) (hB : (0 ≤ (ρ (80 + (8 * hn + ln))).toInt ∧ (ρ (80 + (8 * hn + ln))).toInt ≤ 999) ∧ 0 ≤ (ρ (40 + (8 * hn + ln))).toInt ∧ (ρ (40 + (8 * hn + ln))).toInt ≤ 56) : gDw 28 μ μ' ∧ twA 28 (pW1 S.2.2.1.1 (pWr S ρ hn ln) (8 * hn + ln) ρ) μ' ∧ ((r = some (.inl 1) ∧ pGn S.2.2.1.1 (pWr S ρ hn ln) (8 * hn + ln) ρ) ∨ (r = some (.inl 0) ∧ ¬ pGn S.2.2.1.1 (pWr S ρ hn ln) (8 * hn + ln) ρ)) := by
  obtain ⟨n, h⟩ := tx_in (L := [some (.inr (.inl (some 51))), some (.inr (.inl (some 28))), some (.inl hh0), some (.inl l), none, none]) h0 rfl
  have e8i : (8 : Int32).toInt = 8 := by decide
  have m1 : (hh0 * (8 : Int32)).toInt = 8 * (hn : Int) := by rw [an_mul (by rw [e8i]; omega) (by rw [e8i]; omega), e8i, hh]; omega
  have m2 : (hh0 * (8 : Int32) + l).toInt = ((8 * hn + ln : Nat) : Int) := by rw [an_add (by rw [m1]; omega) (by rw [m1]; omega), m1, hl]; omega
  have mi : (hh0 * (8 : Int32) + l).toInt.toNat = 8 * hn + ln := by omega
  have q4 : μ.1 30 (8 * hn + ln) = ρ (40 + (8 * hn + ln)) := (hT.1 (8 * hn + ln) (by omega)).2.1
  have q2 : μ.1 31 (8 * hn + ln) = ρ (80 + (8 * hn + ln)) := (hT.1 (8 * hn + ln) (by omega)).2.2
  have hsp : (μ.1 2 4).toInt = S.2.2.1.1 := hS.2.2.1.1.2.2.1
  have hwb0 := pWr_b (S := S) (ρ := ρ) (h := hn) (l := ln)
  have q80 : (if ρ (80 + (8 * hn + ln)) + ρ (40 + (8 * hn + ln)) * pWr S ρ hn ln < (999 : Int32) then ρ (80 + (8 * hn + ln)) + ρ (40 + (8 * hn + ln)) * pWr S ρ hn ln else (999 : Int32)) = pWx (pWr S ρ hn ln) (8 * hn + ln) ρ := by
    unfold pWx
    obtain ⟨⟨v1, v2⟩, v3, v4⟩ := hB
    have p1 : 0 ≤ (ρ (40 + (8 * hn + ln))).toInt * (pWr S ρ hn ln).toInt := Int.mul_nonneg v3 hwb0.1
    have p2 : (ρ (40 + (8 * hn + ln))).toInt * (pWr S ρ hn ln).toInt ≤ 56 * 9 := Int.mul_le_mul v4 hwb0.2 hwb0.1 (by decide)
    have p3 : (ρ (40 + (8 * hn + ln)) * pWr S ρ hn ln).toInt = (ρ (40 + (8 * hn + ln))).toInt * (pWr S ρ hn ln).toInt := an_mul (by omega) (by omega)
    have p4 := an_add (x := ρ (80 + (8 * hn + ln))) (y := ρ (40 + (8 * hn + ln)) * pWr S ρ hn ln) (by rw [p3]; omega) (by rw [p3]; omega)
    exact pHd_m (by rw [p4, p3]; omega)
  replace h := tx_iload_n (p' := 1) h em38_0 rfl rfl
  replace h := tx_bipush (v := 8) (p' := 3) h em38_1 (by decide +kernel) rfl
  replace h := tx_imul (p' := 4) h em38_3 rfl
  replace h := tx_iload_n (p' := 5) h em38_4 rfl rfl
  replace h := tx_iadd (p' := 6) h em38_5 rfl
  replace h := tx_istore (p' := 8) h em38_6 rfl
  replace h : eT xq_38 _ 8 [some (.inr (.inl (some 51))), some (.inr (.inl (some 28))), some (.inl hh0), some (.inl l), some (.inl ((hh0 * (8 : Int32)) + l)), none] [] μ r μ' := h
  replace h := tx_aload_n (p' := 9) h em38_8 rfl rfl
  obtain ⟨b9, hk_b9, hr_b9, h⟩ := tx_getk (c := 8) (j := 1) (p' := 12) h em38_9 ((congrFun xo_5 64).trans rfl) rfl rfl rfl
  have eb9 : b9 = 30 := Option.some.inj (hr_b9.symm.trans ((hO).2 28 (by decide) 1 (by decide)))
  subst eb9
  replace h := tx_iload (p' := 14) h em38_12 rfl rfl
  obtain ⟨hb14, h⟩ := tx_iald (len := 40) (p' := 15) h em38_14 rfl rfl
  replace hb14 : (0 : Int) ≤ ((hh0 * (8 : Int32)) + l).toInt ∧ ((hh0 * (8 : Int32)) + l).toInt < 40 := hb14
  rcases tx_if (t := 20) (p' := 18) h em38_15 (by decide) rfl with ⟨c15, h⟩ | ⟨c15, h⟩
  · replace c15 : ¬ (μ.1 30 ((hh0 * (8 : Int32)) + l).toInt.toNat).toInt = 0 := c15
    replace h := tx_aload_n (p' := 21) h em38_20 rfl rfl
    obtain ⟨b21, hk_b21, hr_b21, h⟩ := tx_getk (c := 8) (j := 2) (p' := 24) h em38_21 ((congrFun xo_5 68).trans rfl) rfl rfl rfl
    have eb21 : b21 = 31 := Option.some.inj (hr_b21.symm.trans ((hO).2 28 (by decide) 2 (by decide)))
    subst eb21
    replace h := tx_iload (p' := 26) h em38_24 rfl rfl
    obtain ⟨hb26, h⟩ := tx_iald (len := 40) (p' := 27) h em38_26 rfl rfl
    replace hb26 : (0 : Int) ≤ ((hh0 * (8 : Int32)) + l).toInt ∧ ((hh0 * (8 : Int32)) + l).toInt < 40 := hb26
    replace h := tx_aload_n (p' := 28) h em38_27 rfl rfl
    obtain ⟨b28, hk_b28, hr_b28, h⟩ := tx_getk (c := 8) (j := 1) (p' := 31) h em38_28 ((congrFun xo_5 64).trans rfl) rfl rfl rfl
    have eb28 : b28 = 30 := Option.some.inj (hr_b28.symm.trans ((hO).2 28 (by decide) 1 (by decide)))
    subst eb28
    replace h := tx_iload (p' := 33) h em38_31 rfl rfl
    obtain ⟨hb33, h⟩ := tx_iald (len := 40) (p' := 34) h em38_33 rfl rfl
    replace hb33 : (0 : Int) ≤ ((hh0 * (8 : Int32)) + l).toInt ∧ ((hh0 * (8 : Int32)) + l).toInt < 40 := hb33
    replace h := tx_aload_n (p' := 35) h em38_34 rfl rfl
    replace h := tx_getc (c := 4) (j := 1) (p' := 38) h em38_35 ((congrFun xo_5 15).trans rfl) rfl rfl rfl
    replace h := tx_aload_n (p' := 39) h em38_38 rfl rfl
    replace h := tx_iload_n (p' := 40) h em38_39 rfl rfl
    replace h := tx_iload_n (p' := 41) h em38_40 rfl rfl
    obtain ⟨r41, μ41, hE41, h⟩ := tx_invV (na := 4) (mn := 8) (as := [.inr (.inl (some 48)), .inr (.inl (some 28)), .inl hh0, .inl l]) (rest := [.inl (μ.1 30 ((hh0 * (8 : Int32)) + l).toInt.toNat), .inl (μ.1 31 ((hh0 * (8 : Int32)) + l).toInt.toNat)]) (p' := 44) h em38_41 ((congrFun xo_5 71).trans rfl) xm_8 rfl rfl
    obtain ⟨g1, rfl⟩ := ex_cwears_28 hE41 hO hS hT hh hh4 hl hl7
    have hwb := pWr_b (S := S) (ρ := ρ) (h := hn) (l := ln)
    have hT1 := twA_J hT g1 (by decide)
    replace h : eT xq_38 _ 44 [some (.inr (.inl (some 51))), some (.inr (.inl (some 28))), some (.inl hh0), some (.inl l), some (.inl ((hh0 * (8 : Int32)) + l)), none] [.inl (pWr S ρ hn ln), .inl (μ.1 30 ((hh0 * (8 : Int32)) + l).toInt.toNat), .inl (μ.1 31 ((hh0 * (8 : Int32)) + l).toInt.toNat)] μ41 r μ' := h
    replace h := tx_imul (p' := 45) h em38_44 rfl
    replace h := tx_iadd (p' := 46) h em38_45 rfl
    replace h := tx_istore (p' := 48) h em38_46 rfl
    replace h : eT xq_38 _ 48 [some (.inr (.inl (some 51))), some (.inr (.inl (some 28))), some (.inl hh0), some (.inl l), some (.inl ((hh0 * (8 : Int32)) + l)), some (.inl ((μ.1 31 ((hh0 * (8 : Int32)) + l).toInt.toNat) + ((μ.1 30 ((hh0 * (8 : Int32)) + l).toInt.toNat) * (pWr S ρ hn ln))))] [] μ41 r μ' := h
    replace h := tx_aload_n (p' := 49) h em38_48 rfl rfl
    obtain ⟨b49, hk_b49, hr_b49, h⟩ := tx_getk (c := 8) (j := 2) (p' := 52) h em38_49 ((congrFun xo_5 68).trans rfl) rfl rfl rfl
    have eb49 : b49 = 31 := Option.some.inj (hr_b49.symm.trans (((hOK_2 g1.2 hO)).2 28 (by decide) 2 (by decide)))
    subst eb49
    replace h := tx_iload (p' := 54) h em38_52 rfl rfl
    replace h := tx_sipush (v := 999) (p' := 57) h em38_54 (by decide +kernel) rfl
    replace h := tx_iload (p' := 59) h em38_57 rfl rfl
    replace h := tx_min (p' := 62) h em38_59 ((congrFun xo_5 75).trans rfl) rfl
    obtain ⟨hb62, h⟩ := tx_iast (len := 40) (p' := 63) h em38_62 rfl rfl
    replace hb62 : (0 : Int) ≤ ((hh0 * (8 : Int32)) + l).toInt ∧ ((hh0 * (8 : Int32)) + l).toInt < 40 := hb62
    replace h := tx_aload_n (p' := 64) h em38_63 rfl rfl
    obtain ⟨b64, hk_b64, hr_b64, h⟩ := tx_getk (c := 8) (j := 2) (p' := 67) h em38_64 ((congrFun xo_5 68).trans rfl) rfl rfl rfl
    have eb64 : b64 = 31 := Option.some.inj (hr_b64.symm.trans (((hOK_2 g1.2 hO)).2 28 (by decide) 2 (by decide)))
    subst eb64
    replace h := tx_iload (p' := 69) h em38_67 rfl rfl
    obtain ⟨hb69, h⟩ := tx_iald (len := 40) (p' := 70) h em38_69 rfl rfl
    replace hb69 : (0 : Int) ≤ ((hh0 * (8 : Int32)) + l).toInt ∧ ((hh0 * (8 : Int32)) + l).toInt < 40 := hb69
    replace h := tx_aload_n (p' := 71) h em38_70 rfl rfl
    replace h := tx_getc (c := 4) (j := 0) (p' := 74) h em38_71 ((congrFun xo_5 9).trans rfl) rfl rfl rfl
    replace h := tx_getf (c := 6) (j := 4) (p' := 77) h em38_74 ((congrFun xo_5 80).trans rfl) rfl rfl (by decide) rfl
    replace h : eT xq_38 _ 77 [some (.inr (.inl (some 51))), some (.inr (.inl (some 28))), some (.inl hh0), some (.inl l), some (.inl ((hh0 * (8 : Int32)) + l)), some (.inl ((μ.1 31 ((hh0 * (8 : Int32)) + l).toInt.toNat) + ((μ.1 30 ((hh0 * (8 : Int32)) + l).toInt.toNat) * (pWr S ρ hn ln))))] [.inl (μ41.1 2 4), .inl ((xpi μ41 31 ((hh0 * (8 : Int32)) + l).toInt.toNat (if ((μ.1 31 ((hh0 * (8 : Int32)) + l).toInt.toNat) + ((μ.1 30 ((hh0 * (8 : Int32)) + l).toInt.toNat) * (pWr S ρ hn ln))) < (999 : Int32) then ((μ.1 31 ((hh0 * (8 : Int32)) + l).toInt.toNat) + ((μ.1 30 ((hh0 * (8 : Int32)) + l).toInt.toNat) * (pWr S ρ hn ln))) else (999 : Int32))).1 31 ((hh0 * (8 : Int32)) + l).toInt.toNat)] (xpi μ41 31 ((hh0 * (8 : Int32)) + l).toInt.toNat (if ((μ.1 31 ((hh0 * (8 : Int32)) + l).toInt.toNat) + ((μ.1 30 ((hh0 * (8 : Int32)) + l).toInt.toNat) * (pWr S ρ hn ln))) < (999 : Int32) then ((μ.1 31 ((hh0 * (8 : Int32)) + l).toInt.toNat) + ((μ.1 30 ((hh0 * (8 : Int32)) + l).toInt.toNat) * (pWr S ρ hn ln))) else (999 : Int32))) r μ' := h
    rcases tx_icmp (t := 82) (p' := 80) h em38_77 (by decide) rfl with ⟨c77, h⟩ | ⟨c77, h⟩
    · replace c77 : (μ41.1 2 4).toInt ≤ ((xpi μ41 31 ((hh0 * (8 : Int32)) + l).toInt.toNat (if ((μ.1 31 ((hh0 * (8 : Int32)) + l).toInt.toNat) + ((μ.1 30 ((hh0 * (8 : Int32)) + l).toInt.toNat) * (pWr S ρ hn ln))) < (999 : Int32) then ((μ.1 31 ((hh0 * (8 : Int32)) + l).toInt.toNat) + ((μ.1 30 ((hh0 * (8 : Int32)) + l).toInt.toNat) * (pWr S ρ hn ln))) else (999 : Int32))).1 31 ((hh0 * (8 : Int32)) + l).toInt.toNat).toInt := c77
      replace h := tx_aload_n (p' := 83) h em38_82 rfl rfl
      obtain ⟨b83, hk_b83, hr_b83, h⟩ := tx_getk (c := 8) (j := 2) (p' := 86) h em38_83 ((congrFun xo_5 68).trans rfl) rfl rfl rfl
      have eb83 : b83 = 31 := Option.some.inj (hr_b83.symm.trans (((hOK_2 g1.2 hO)).2 28 (by decide) 2 (by decide)))
      subst eb83
      replace h := tx_iload (p' := 88) h em38_86 rfl rfl
      replace h := tx_iconst (v := 0) (p' := 89) h em38_88 (by decide +kernel) rfl
      obtain ⟨hb89, h⟩ := tx_iast (len := 40) (p' := 90) h em38_89 rfl rfl
      replace hb89 : (0 : Int) ≤ ((hh0 * (8 : Int32)) + l).toInt ∧ ((hh0 * (8 : Int32)) + l).toInt < 40 := hb89
      replace h := tx_aload_n (p' := 91) h em38_90 rfl rfl
      replace h := tx_iload (p' := 93) h em38_91 rfl rfl
      obtain ⟨r93, μ93, hE93, h⟩ := tx_invV (na := 2) (mn := 56) (as := [.inr (.inl (some 28)), .inl ((hh0 * (8 : Int32)) + l)]) (rest := []) (p' := 96) h em38_93 ((congrFun xo_5 83).trans rfl) xm_56 rfl rfl
      rw [mi, q2, q4, q80] at hE93
      obtain ⟨k1, k2, k3⟩ := ex_close_28 (cn := 8 * hn + ln) hE93 (hOK_2 g1.2 hO) (twA_w (c := 28) (j := 8 * hn + ln) (twA_w (c := 28) (j := 8 * hn + ln) hT1 (by omega)) (by omega)) m2 (by omega)
      obtain ⟨x9, hx9⟩ : ∃ x9 : Int32, r93 = some (.inl x9) := by
        rcases k3 with ⟨e, -⟩ | ⟨e, -⟩
        · exact ⟨_, e⟩
        · exact ⟨_, e⟩
      subst hx9
      replace h : eT xq_38 _ 96 [some (.inr (.inl (some 51))), some (.inr (.inl (some 28))), some (.inl hh0), some (.inl l), some (.inl ((hh0 * (8 : Int32)) + l)), some (.inl ((μ.1 31 ((hh0 * (8 : Int32)) + l).toInt.toNat) + ((μ.1 30 ((hh0 * (8 : Int32)) + l).toInt.toNat) * (pWr S ρ hn ln))))] [.inl x9] μ93 r μ' := h
      obtain ⟨rfl, hμ⟩ := tx_ireturn h em38_96
      rw [mi, q4] at c15
      have hz : ¬ ρ (40 + (8 * hn + ln)) = 0 := fun q => by rw [q] at c15; exact c15 (by decide)
      rw [mi, q2, q4, xpi_at, q80, g1.1 2 4 (by decide) (by decide), hsp] at c77
      rw [hμ]
      have e0 : pUp (pUp ρ (80 + (8 * hn + ln)) (pWx (pWr S ρ hn ln) (8 * hn + ln) ρ)) (80 + (8 * hn + ln)) 0 (8 * hn + ln) = ρ (8 * hn + ln) := by rw [pUp_ne (by omega), pUp_ne (by omega)]
      rw [e0] at k3
      refine ⟨gDw_tr (gDw_i (gDw_i (gDw_J g1) (Or.inr (Or.inl rfl))) (Or.inr (Or.inl rfl))) k1, ?_, ?_⟩
      · unfold pW1
        rw [if_neg hz, if_neg (by omega)]
        exact k2
      · rcases k3 with ⟨a, b⟩ | ⟨a, b⟩
        · exact Or.inl ⟨a, hz, by omega, b⟩
        · exact Or.inr ⟨a, fun q => q.2.2 b⟩
    · replace c77 : ¬ (μ41.1 2 4).toInt ≤ ((xpi μ41 31 ((hh0 * (8 : Int32)) + l).toInt.toNat (if ((μ.1 31 ((hh0 * (8 : Int32)) + l).toInt.toNat) + ((μ.1 30 ((hh0 * (8 : Int32)) + l).toInt.toNat) * (pWr S ρ hn ln))) < (999 : Int32) then ((μ.1 31 ((hh0 * (8 : Int32)) + l).toInt.toNat) + ((μ.1 30 ((hh0 * (8 : Int32)) + l).toInt.toNat) * (pWr S ρ hn ln))) else (999 : Int32))).1 31 ((hh0 * (8 : Int32)) + l).toInt.toNat).toInt := c77
      replace h := tx_iconst (v := 0) (p' := 81) h em38_80 (by decide +kernel) rfl
      obtain ⟨rfl, hμ⟩ := tx_ireturn h em38_81
      replace hμ : μ' = (xpi μ41 31 ((hh0 * (8 : Int32)) + l).toInt.toNat (if ((μ.1 31 ((hh0 * (8 : Int32)) + l).toInt.toNat) + ((μ.1 30 ((hh0 * (8 : Int32)) + l).toInt.toNat) * (pWr S ρ hn ln))) < (999 : Int32) then ((μ.1 31 ((hh0 * (8 : Int32)) + l).toInt.toNat) + ((μ.1 30 ((hh0 * (8 : Int32)) + l).toInt.toNat) * (pWr S ρ hn ln))) else (999 : Int32))) := hμ
      rw [mi, q4] at c15
      have hz : ¬ ρ (40 + (8 * hn + ln)) = 0 := fun q => by rw [q] at c15; exact c15 (by decide)
      rw [mi, q2, q4, xpi_at, q80, g1.1 2 4 (by decide) (by decide), hsp] at c77
      rw [mi, q2, q4, q80] at hμ
      rw [hμ]
      refine ⟨gDw_i (gDw_J g1) (Or.inr (Or.inl rfl)), ?_, Or.inr ⟨rfl, fun q => q.2.1 (by omega)⟩⟩
      unfold pW1
      rw [if_neg hz, if_pos (by omega)]
      exact twA_w (c := 28) (j := 8 * hn + ln) hT1 (by omega)
  · replace c15 : ¬ ¬ (μ.1 30 ((hh0 * (8 : Int32)) + l).toInt.toNat).toInt = 0 := c15
    replace h := tx_iconst (v := 0) (p' := 19) h em38_18 (by decide +kernel) rfl
    obtain ⟨rfl, hμ⟩ := tx_ireturn h em38_19
    rw [mi, q4] at c15
    have hz : ρ (40 + (8 * hn + ln)) = 0 := Int32.toInt_inj.mp ((Decidable.of_not_not c15).trans (by decide))
    rw [hμ]
    exact ⟨gDw_rf, by unfold pW1; rw [if_pos hz]; exact hT, Or.inr ⟨rfl, fun q => q.1 hz⟩⟩
set_option maxRecDepth 10000 in
set_option maxHeartbeats 4000000 in
theorem ex_cowed_28 {S : kSt} {ρ : Nat → Int32} {μ μ' : xM} {r : Option zV} (h0 : Ex gx xq_34 [.inr (.inl (some 51)), .inr (.inl (some 28))] μ r μ') (hS : cS9 S μ) (hT : tw9 S 28 ρ μ) : gJ μ μ' ∧ r = some (.inl (pOw S ρ S.2.1.length)) := by
  obtain ⟨n, h⟩ := tx_in (L := [some (.inr (.inl (some 51))), some (.inr (.inl (some 28))), none, none]) h0 rfl
  have e1i : (1 : Int32).toInt = 1 := by decide
  have hV7 := hS.1.2.1
  have loop : ∀ (n k : Nat) (sm i : Int32) (ω : xM), eT xq_34 n 4 [some (.inr (.inl (some 51))), some (.inr (.inl (some 28))), some (.inl sm), some (.inl i)] [] ω r μ' → i.toInt = (k : Int) → k ≤ S.2.1.length → gJ μ ω → sm = pOw S ρ k → gJ μ μ' ∧ r = some (.inl (pOw S ρ S.2.1.length)) := by
    intro n
    induction n using Nat.strongRecOn with
    | ind n ih =>
    intro k sm i ω h hi hk hG hs
    have hSω := cS9_J hS hG
    have hVV : (ω.1 2 1).toInt = (S.2.1.length : Int) := hSω.2.2.1.1.2.1
    replace h := tx_iload_n (p' := 5) h em34_4 rfl rfl
    replace h := tx_aload_n (p' := 6) h em34_5 rfl rfl
    replace h := tx_getc (c := 4) (j := 0) (p' := 9) h em34_6 ((congrFun xo_5 9).trans rfl) rfl rfl rfl
    replace h := tx_getf (c := 6) (j := 1) (p' := 12) h em34_9 ((congrFun xo_5 33).trans rfl) rfl rfl (by decide) rfl
    rcases tx_icmp (t := 54) (p' := 15) h em34_12 (by decide) rfl with ⟨c12, h⟩ | ⟨c12, h⟩
    · replace c12 : (ω.1 2 1).toInt ≤ i.toInt := c12
      replace h := tx_iload_n (p' := 55) h em34_54 rfl rfl
      obtain ⟨rfl, hμ⟩ := tx_ireturn h em34_55
      rw [hμ]
      have ek : k = S.2.1.length := by omega
      rw [ek] at hs
      exact ⟨hG, by rw [hs]⟩
    · replace c12 : ¬ (ω.1 2 1).toInt ≤ i.toInt := c12
      replace h := tx_aload_n (p' := 16) h em34_15 rfl rfl
      replace h := tx_getf (c := 8) (j := 5) (p' := 19) h em34_16 ((congrFun xo_5 38).trans rfl) rfl rfl (by decide) rfl
      replace h := tx_aload_n (p' := 20) h em34_19 rfl rfl
      replace h := tx_getf (c := 8) (j := 6) (p' := 23) h em34_20 ((congrFun xo_5 41).trans rfl) rfl rfl (by decide) rfl
      replace h := tx_iconst (v := (-1)) (p' := 24) h em34_23 (by decide +kernel) rfl
      replace h := tx_ixor (p' := 25) h em34_24 rfl
      replace h := tx_iand (p' := 26) h em34_25 rfl
      replace h := tx_iconst (v := 1) (p' := 27) h em34_26 (by decide +kernel) rfl
      replace h := tx_iload_n (p' := 28) h em34_27 rfl rfl
      replace h := tx_ishl (p' := 29) h em34_28 rfl
      replace h := tx_iand (p' := 30) h em34_29 rfl
      rcases tx_if (t := 48) (p' := 33) h em34_30 (by decide) rfl with ⟨c30, h⟩ | ⟨c30, h⟩
      · replace c30 : (((ω.1 28 5) &&& ((ω.1 28 6) ^^^ (-1 : Int32))) &&& ((1 : Int32) <<< (i &&& 31))).toInt = 0 := c30
        replace h := tx_iinc (v := 1) (p' := 51) h em34_48 (by decide +kernel) rfl rfl
        replace h : eT xq_34 _ 51 [some (.inr (.inl (some 51))), some (.inr (.inl (some 28))), some (.inl sm), some (.inl (i + 1))] [] ω r μ' := h
        obtain ⟨n2, hn2, h⟩ := tx_gotoS (t := 4) h em34_51 (by decide)
        have ei : (i + 1).toInt = ((k + 1 : Nat) : Int) := by rw [an_add (by rw [e1i]; omega) (by rw [e1i]; omega), e1i]; omega
        have hkV : k < S.2.1.length := by omega
        have bi : i = Int32.ofNat k := ofN hi
        have hob := owed_b (hT.2 k hkV)
        rw [← hG.1 28 5 (by decide) (by decide), ← hG.1 28 6 (by decide) (by decide)] at hob
        rw [bi, xb_nz (show k < 7 by omega), xb_and, xb_not (show k < 7 by omega)] at c30
        refine ih n2 hn2 (k + 1) _ _ _ h ei (by omega) hG ?_
        show sm = pOw S ρ k + (if ρ (320 + k) = 1 then pPy S (ρ 386) k else 0)
        rw [if_neg (fun z => by rw [hob.mpr z] at c30; cases c30), Int32.add_zero]
        exact hs
      · replace c30 : ¬ (((ω.1 28 5) &&& ((ω.1 28 6) ^^^ (-1 : Int32))) &&& ((1 : Int32) <<< (i &&& 31))).toInt = 0 := c30
        replace h := tx_iload_n (p' := 34) h em34_33 rfl rfl
        replace h := tx_aload_n (p' := 35) h em34_34 rfl rfl
        replace h := tx_getc (c := 4) (j := 1) (p' := 38) h em34_35 ((congrFun xo_5 15).trans rfl) rfl rfl rfl
        replace h := tx_iload_n (p' := 39) h em34_38 rfl rfl
        replace h := tx_aload_n (p' := 40) h em34_39 rfl rfl
        replace h := tx_getf (c := 8) (j := 7) (p' := 43) h em34_40 ((congrFun xo_5 27).trans rfl) rfl rfl (by decide) rfl
        obtain ⟨r43, μ43, hE43, h⟩ := tx_invV (na := 3) (mn := 6) (as := [.inr (.inl (some 48)), .inl i, .inl (ω.1 28 7)]) (rest := [.inl sm]) (p' := 46) h em34_43 ((congrFun xo_5 44).trans rfl) xm_6 rfl rfl
        obtain ⟨g2, rfl⟩ := ex_cpays (vn := k) hE43 hSω hi (by omega)
        replace h : eT xq_34 _ 46 [some (.inr (.inl (some 51))), some (.inr (.inl (some 28))), some (.inl sm), some (.inl i)] [.inl (pPy S (ω.1 28 7) k), .inl sm] μ43 r μ' := h
        replace h := tx_iadd (p' := 47) h em34_46 rfl
        replace h := tx_istore_n (p' := 48) h em34_47 rfl
        replace h : eT xq_34 _ 48 [some (.inr (.inl (some 51))), some (.inr (.inl (some 28))), some (.inl (sm + (pPy S (ω.1 28 7) k))), some (.inl i)] [] μ43 r μ' := h
        replace h := tx_iinc (v := 1) (p' := 51) h em34_48 (by decide +kernel) rfl rfl
        replace h : eT xq_34 _ 51 [some (.inr (.inl (some 51))), some (.inr (.inl (some 28))), some (.inl (sm + (pPy S (ω.1 28 7) k))), some (.inl (i + 1))] [] μ43 r μ' := h
        obtain ⟨n2, hn2, h⟩ := tx_gotoS (t := 4) h em34_51 (by decide)
        have ei : (i + 1).toInt = ((k + 1 : Nat) : Int) := by rw [an_add (by rw [e1i]; omega) (by rw [e1i]; omega), e1i]; omega
        have hkV : k < S.2.1.length := by omega
        have bi : i = Int32.ofNat k := ofN hi
        have hob := owed_b (hT.2 k hkV)
        rw [← hG.1 28 5 (by decide) (by decide), ← hG.1 28 6 (by decide) (by decide)] at hob
        rw [bi, xb_nz (show k < 7 by omega), xb_and, xb_not (show k < 7 by omega)] at c30
        refine ih n2 hn2 (k + 1) _ _ _ h ei (by omega) (gJ_tr hG g2) ?_
        show _ = pOw S ρ k + (if ρ (320 + k) = 1 then pPy S (ρ 386) k else 0)
        rw [if_pos (hob.mp (by
          cases hx : (xb (ω.1 28 5) k && !xb (ω.1 28 6) k) with
          | true => rfl
          | false => exact absurd hx c30)), hs, hG.1 28 7 (by decide) (by decide)]
        exact congrArg (fun y => pOw S ρ k + pPy S y k) hT.1.2.2.1
  replace h := tx_iconst (v := 0) (p' := 1) h em34_0 (by decide +kernel) rfl
  replace h := tx_istore_n (p' := 2) h em34_1 rfl
  replace h : eT xq_34 _ 2 [some (.inr (.inl (some 51))), some (.inr (.inl (some 28))), some (.inl (0 : Int32)), none] [] μ r μ' := h
  replace h := tx_iconst (v := 0) (p' := 3) h em34_2 (by decide +kernel) rfl
  replace h := tx_istore_n (p' := 4) h em34_3 rfl
  replace h : eT xq_34 _ 4 [some (.inr (.inl (some 51))), some (.inr (.inl (some 28))), some (.inl (0 : Int32)), some (.inl (0 : Int32))] [] μ r μ' := h
  exact loop _ 0 _ _ _ h (by decide) (Nat.zero_le _) gJ_rf rfl
set_option maxRecDepth 10000 in
set_option maxHeartbeats 4000000 in
theorem ex_cwork_28 {S : kSt} {ρ : Nat → Int32} {μ μ' : xM} {r : Option zV} (h0 : Ex gx xq_39 [.inr (.inl (some 51)), .inr (.inl (some 28))] μ r μ') (hO : hOK μ) (hS : cS9 S μ) (hT : tw9 S 28 ρ μ) (hB : pIb ρ) : r = none ∧ gDy 28 μ μ' ∧ tw9 S 28 (pWk S ρ) μ' := by
  obtain ⟨n, h⟩ := tx_in (L := [some (.inr (.inl (some 51))), some (.inr (.inl (some 28))), none, none]) h0 rfl
  have e1i : (1 : Int32).toInt = 1 := by decide
  have hH5 := hS.1.1
  have hV7 := hS.1.2.1
  have main : ∀ n : Nat, (∀ (hn : Nat) (hh0 : Int32) (ω : xM) {o3 : Option zV}, eT xq_39 n 29 [some (.inr (.inl (some 51))), some (.inr (.inl (some 28))), some (.inl hh0), o3] [] ω r μ' → hh0.toInt = (hn : Int) → hn ≤ S.1.length → gDy 28 μ ω → tw9 S 28 (pWn S ρ (8 * hn) (pPd S S.2.1.length ρ)) ω → r = none ∧ gDy 28 μ μ' ∧ tw9 S 28 (pWk S ρ) μ') ∧ (∀ (hn ln : Nat) (hh0 l : Int32) (ω : xM), eT xq_39 n 42 [some (.inr (.inl (some 51))), some (.inr (.inl (some 28))), some (.inl hh0), some (.inl l)] [] ω r μ' → hh0.toInt = (hn : Int) → hn < S.1.length → l.toInt = (ln : Int) → ln ≤ 8 → gDy 28 μ ω → tw9 S 28 (pWn S ρ (8 * hn + ln) (pPd S S.2.1.length ρ)) ω → r = none ∧ gDy 28 μ μ' ∧ tw9 S 28 (pWk S ρ) μ') := by
    intro n
    induction n using Nat.strongRecOn with
    | ind n ih =>
    have h42 : ∀ (hn ln : Nat) (hh0 l : Int32) (ω : xM), eT xq_39 n 42 [some (.inr (.inl (some 51))), some (.inr (.inl (some 28))), some (.inl hh0), some (.inl l)] [] ω r μ' → hh0.toInt = (hn : Int) → hn < S.1.length → l.toInt = (ln : Int) → ln ≤ 8 → gDy 28 μ ω → tw9 S 28 (pWn S ρ (8 * hn + ln) (pPd S S.2.1.length ρ)) ω → r = none ∧ gDy 28 μ μ' ∧ tw9 S 28 (pWk S ρ) μ' := by
      intro hn ln hh0 l ω h hh hhn hl hl8 hG hTω
      have hOω := hOK_2 hG.2 hO
      have hSω := cS9_y hS hG (by decide)
      have hHH : (ω.1 2 0).toInt = (S.1.length : Int) := hSω.2.2.1.1.1
      replace h := tx_iload_n (p' := 43) h em39_42 rfl rfl
      replace h := tx_bipush (v := 8) (p' := 45) h em39_43 (by decide +kernel) rfl
      rcases tx_icmp (t := 62) (p' := 48) h em39_45 (by decide) rfl with ⟨c45, h⟩ | ⟨c45, h⟩
      · replace c45 : 8 ≤ l.toInt := c45
        replace h := tx_iinc (v := 1) (p' := 65) h em39_62 (by decide +kernel) rfl rfl
        replace h : eT xq_39 _ 65 [some (.inr (.inl (some 51))), some (.inr (.inl (some 28))), some (.inl (hh0 + 1)), some (.inl l)] [] ω r μ' := h
        obtain ⟨n2, hn2, h⟩ := tx_gotoS (t := 29) h em39_65 (by decide)
        have eh : (hh0 + 1).toInt = ((hn + 1 : Nat) : Int) := by rw [an_add (by rw [e1i]; omega) (by rw [e1i]; omega), e1i]; omega
        exact (ih n2 hn2).1 (hn + 1) _ _ h eh (by omega) hG (by rw [show 8 * (hn + 1) = 8 * hn + ln by omega]; exact hTω)
      · replace c45 : ¬ 8 ≤ l.toInt := c45
        replace h := tx_aload_n (p' := 49) h em39_48 rfl rfl
        replace h := tx_aload_n (p' := 50) h em39_49 rfl rfl
        replace h := tx_iload_n (p' := 51) h em39_50 rfl rfl
        replace h := tx_iload_n (p' := 52) h em39_51 rfl rfl
        obtain ⟨r52, μ52, hE52, h⟩ := tx_invV (na := 4) (mn := 38) (as := [.inr (.inl (some 51)), .inr (.inl (some 28)), .inl hh0, .inl l]) (rest := []) (p' := 55) h em39_52 ((congrFun xo_5 60).trans rfl) xm_38 rfl rfl
        have hwq := ex_cwear_28 (hn := hn) (ln := ln) hE52 hOω hSω hTω.1 hh (by omega) hl (by omega) (pIb_n (pIb_cg hB (fun c hc => ⟨pPd_ne (by omega) (by omega), pPd_ne (by omega) (by omega)⟩)) _ (by omega) (8 * hn + ln) (by omega))
        have hwe : pWr S (pWn S ρ (8 * hn + ln) (pPd S S.2.1.length ρ)) hn ln = pWr S ρ hn ln := pWr_cg (by omega) (by omega) (fun x q => (pWn_ne _ (by omega) (by omega) (by omega)).trans (pPd_ne (by omega) (by omega)))
        rw [hwe] at hwq
        obtain ⟨k1, k2, k3⟩ := hwq
        obtain ⟨x9, hx9⟩ : ∃ x9 : Int32, r52 = some (.inl x9) := by
          rcases k3 with ⟨e, -⟩ | ⟨e, -⟩
          · exact ⟨_, e⟩
          · exact ⟨_, e⟩
        subst hx9
        replace h : eT xq_39 _ 55 [some (.inr (.inl (some 51))), some (.inr (.inl (some 28))), some (.inl hh0), some (.inl l)] [.inl x9] μ52 r μ' := h
        replace h := tx_pop (p' := 56) h em39_55 rfl
        replace h := tx_iinc (v := 1) (p' := 59) h em39_56 (by decide +kernel) rfl rfl
        replace h : eT xq_39 _ 59 [some (.inr (.inl (some 51))), some (.inr (.inl (some 28))), some (.inl hh0), some (.inl (l + 1))] [] μ52 r μ' := h
        obtain ⟨n2, hn2, h⟩ := tx_gotoS (t := 42) h em39_59 (by decide)
        have el : (l + 1).toInt = ((ln + 1 : Nat) : Int) := by rw [an_add (by rw [e1i]; omega) (by rw [e1i]; omega), e1i]; omega
        refine (ih n2 hn2).2 hn (ln + 1) _ _ _ h hh hhn el (by omega) (gDy_tr hG (gDy_w k1)) ?_
        have ed : (8 * hn + ln) / 8 = hn := by omega
        have em : (8 * hn + ln) % 8 = ln := by omega
        have hx : pWn S ρ (8 * hn + (ln + 1)) (pPd S S.2.1.length ρ) = pW1 S.2.2.1.1 (pWr S ρ hn ln) (8 * hn + ln) (pWn S ρ (8 * hn + ln) (pPd S S.2.1.length ρ)) := by
          show pW1 S.2.2.1.1 (pWr S ρ ((8 * hn + ln) / 8) ((8 * hn + ln) % 8)) (8 * hn + ln) _ = _
          rw [ed, em]
          rfl
        rw [hx]
        exact tw9_n hS.1 hTω k2 (fun x a b => pW1_ne (by omega) (by omega) (by omega)) (k1.1 28 5 (by decide) (by decide) (by decide) (by decide) (by decide)) (k1.1 28 6 (by decide) (by decide) (by decide) (by decide) (by decide)) (fun j => k1.1 33 j (by decide) (by decide) (by decide) (by decide) (fun q => absurd q.1 (by decide)))
    have h29 : ∀ (hn : Nat) (hh0 : Int32) (ω : xM) {o3 : Option zV}, eT xq_39 n 29 [some (.inr (.inl (some 51))), some (.inr (.inl (some 28))), some (.inl hh0), o3] [] ω r μ' → hh0.toInt = (hn : Int) → hn ≤ S.1.length → gDy 28 μ ω → tw9 S 28 (pWn S ρ (8 * hn) (pPd S S.2.1.length ρ)) ω → r = none ∧ gDy 28 μ μ' ∧ tw9 S 28 (pWk S ρ) μ' := by
      intro hn hh0 ω o3 h hh hhn hG hTω
      have hOω := hOK_2 hG.2 hO
      have hSω := cS9_y hS hG (by decide)
      have hHH : (ω.1 2 0).toInt = (S.1.length : Int) := hSω.2.2.1.1.1
      replace h := tx_iload_n (p' := 30) h em39_29 rfl rfl
      replace h := tx_aload_n (p' := 31) h em39_30 rfl rfl
      replace h := tx_getc (c := 4) (j := 0) (p' := 34) h em39_31 ((congrFun xo_5 9).trans rfl) rfl rfl rfl
      replace h := tx_getf (c := 6) (j := 0) (p' := 37) h em39_34 ((congrFun xo_5 57).trans rfl) rfl rfl (by decide) rfl
      rcases tx_icmp (t := 68) (p' := 40) h em39_37 (by decide) rfl with ⟨c37, h⟩ | ⟨c37, h⟩
      · replace c37 : (ω.1 2 0).toInt ≤ hh0.toInt := c37
        obtain ⟨rfl, hμ⟩ := tx_return h em39_68
        rw [hμ]
        have ek : hn = S.1.length := by omega
        rw [ek] at hTω
        exact ⟨rfl, hG, hTω⟩
      · replace c37 : ¬ (ω.1 2 0).toInt ≤ hh0.toInt := c37
        replace h := tx_iconst (v := 0) (p' := 41) h em39_40 (by decide +kernel) rfl
        replace h := tx_istore_n (p' := 42) h em39_41 rfl
        replace h : eT xq_39 _ 42 [some (.inr (.inl (some 51))), some (.inr (.inl (some 28))), some (.inl hh0), some (.inl (0 : Int32))] [] ω r μ' := h
        exact h42 hn 0 _ _ _ h hh (by omega) (by decide) (by decide) hG hTω
    exact ⟨h29, h42⟩
  replace h := tx_aload_n (p' := 1) h em39_0 rfl rfl
  replace h := tx_dup (p' := 2) h em39_1 rfl
  replace h := tx_getf (c := 8) (j := 8) (p' := 5) h em39_2 ((congrFun xo_5 50).trans rfl) rfl rfl (by decide) rfl
  replace h := tx_aload_n (p' := 6) h em39_5 rfl rfl
  replace h := tx_aload_n (p' := 7) h em39_6 rfl rfl
  obtain ⟨r7, μ7, hE7, h⟩ := tx_invV (na := 2) (mn := 34) (as := [.inr (.inl (some 51)), .inr (.inl (some 28))]) (rest := [.inl (μ.1 28 8), .inr (.inl (some 28))]) (p' := 10) h em39_7 ((congrFun xo_5 53).trans rfl) xm_34 rfl rfl
  obtain ⟨g1, rfl⟩ := ex_cowed_28 hE7 hS hT
  replace h : eT xq_39 _ 10 [some (.inr (.inl (some 51))), some (.inr (.inl (some 28))), none, none] [.inl (pOw S ρ S.2.1.length), .inl (μ.1 28 8), .inr (.inl (some 28))] μ7 r μ' := h
  replace h := tx_iadd (p' := 11) h em39_10 rfl
  replace h := tx_putf (a := 28) (c := 8) (j := 8) (p' := 14) h em39_11 ((congrFun xo_5 50).trans rfl) rfl
  replace h := tx_aload_n (p' := 15) h em39_14 rfl rfl
  replace h := tx_dup (p' := 16) h em39_15 rfl
  replace h := tx_getf (c := 8) (j := 6) (p' := 19) h em39_16 ((congrFun xo_5 41).trans rfl) rfl rfl (by decide) rfl
  replace h : eT xq_39 _ 19 [some (.inr (.inl (some 51))), some (.inr (.inl (some 28))), none, none] [.inl (μ7.1 28 6), .inr (.inl (some 28))] (xpi μ7 28 8 ((μ.1 28 8) + (pOw S ρ S.2.1.length))) r μ' := h
  replace h := tx_aload_n (p' := 20) h em39_19 rfl rfl
  replace h := tx_getf (c := 8) (j := 5) (p' := 23) h em39_20 ((congrFun xo_5 38).trans rfl) rfl rfl (by decide) rfl
  replace h : eT xq_39 _ 23 [some (.inr (.inl (some 51))), some (.inr (.inl (some 28))), none, none] [.inl (μ7.1 28 5), .inl (μ7.1 28 6), .inr (.inl (some 28))] (xpi μ7 28 8 ((μ.1 28 8) + (pOw S ρ S.2.1.length))) r μ' := h
  replace h := tx_ior (p' := 24) h em39_23 rfl
  replace h := tx_putf (a := 28) (c := 8) (j := 6) (p' := 27) h em39_24 ((congrFun xo_5 41).trans rfl) rfl
  replace h := tx_iconst (v := 0) (p' := 28) h em39_27 (by decide +kernel) rfl
  replace h := tx_istore_n (p' := 29) h em39_28 rfl
  replace h : eT xq_39 _ 29 [some (.inr (.inl (some 51))), some (.inr (.inl (some 28))), some (.inl (0 : Int32)), none] [] (xpi (xpi μ7 28 8 ((μ.1 28 8) + (pOw S ρ S.2.1.length))) 28 6 ((μ7.1 28 6) ||| (μ7.1 28 5))) r μ' := h
  have hp8 : μ.1 28 8 = ρ 387 := hT.1.2.2.2.1
  rw [hp8] at h
  have tA : twA 28 (pUp ρ 387 (ρ 387 + pOw S ρ S.2.1.length)) (xpi μ7 28 8 (ρ 387 + pOw S ρ S.2.1.length)) := twA_f (j := 8) (twA_J hT.1 g1 (by decide)) (by decide)
  have tB : twA 28 (pPd S S.2.1.length ρ) (xpi (xpi μ7 28 8 ((ρ 387) + (pOw S ρ S.2.1.length))) 28 6 ((μ7.1 28 6) ||| (μ7.1 28 5))) := twA_r (twA_m tA (Or.inr ⟨rfl, by decide⟩)) (fun j q => by
    unfold pPd
    by_cases e : j = 387
    · rw [e, pUp_at, pUp_at]
    · rw [pUp_ne e, pUp_ne e]; exact pDn_ne (by omega))
  refine (main _).1 0 _ _ h (by decide) (Nat.zero_le _) (gDy_i (gDy_i (gDy_w (gDw_J g1)) (by decide)) (by decide)) ?_
  refine tw9_pd hS.1 hT tB ?_ ?_ (fun j => ?_)
  · rw [xpi_ne (by decide), xpi_ne (by decide)]; exact g1.1 28 5 (by decide) (by decide)
  · rw [xpi_at, g1.1 28 5 (by decide) (by decide), g1.1 28 6 (by decide) (by decide)]
  · rw [xpi_ne (fun q => absurd q.1 (by decide)), xpi_ne (fun q => absurd q.1 (by decide))]; exact g1.1 _ j (by decide) (by decide)
set_option maxRecDepth 10000 in
set_option maxHeartbeats 4000000 in
theorem ex_csteal_28 {sd : Int32} {S : kSt} {ρ : Nat → Int32} {μ μ' : xM} {r : Option zV} (h0 : Ex gx xq_36 [.inr (.inl (some 51)), .inr (.inl (some 28)), .inl sd] μ r μ') (hO : hOK μ) (hS : cS9 S μ) (hT : twA 28 ρ μ) : r = none ∧ gDw 28 μ μ' ∧ twA 28 (pTv S sd ρ) μ' := by
  obtain ⟨n, h⟩ := tx_in (L := [some (.inr (.inl (some 51))), some (.inr (.inl (some 28))), some (.inl sd), none, none, none]) h0 rfl
  have e1i : (1 : Int32).toInt = 1 := by decide
  have e8i : (8 : Int32).toInt = 8 := by decide
  have hH5 := hS.1.1
  have hHH : (μ.1 2 0).toInt = (S.1.length : Int) := hS.2.2.1.1.1
  have hd7 : μ.1 28 7 = ρ 386 := hT.2.2.1
  have loop : pTh S sd ρ → ∀ (n k : Nat) (lt ri i : Int32), eT xq_36 n 34 [some (.inr (.inl (some 51))), some (.inr (.inl (some 28))), some (.inl sd), some (.inl lt), some (.inl ri), some (.inl i)] [] μ r μ' → lt.toInt = (pTl sd ρ : Int) → i.toInt = (k : Int) → 1 ≤ k ∧ (k ≤ S.1.length ∨ k = 1) → ri.toInt = (pRi ρ (pTl sd ρ) k : Int) → r = none ∧ gDw 28 μ μ' ∧ twA 28 (pTv S sd ρ) μ' := by
    intro th1 n
    induction n using Nat.strongRecOn with
    | ind n ih =>
    intro k lt ri i h hlt hi hk hri
    replace h := tx_iload (p' := 36) h em36_34 rfl rfl
    replace h := tx_aload_n (p' := 37) h em36_36 rfl rfl
    replace h := tx_getc (c := 4) (j := 0) (p' := 40) h em36_37 ((congrFun xo_5 9).trans rfl) rfl rfl rfl
    replace h := tx_getf (c := 6) (j := 0) (p' := 43) h em36_40 ((congrFun xo_5 57).trans rfl) rfl rfl (by decide) rfl
    rcases tx_icmp (t := 83) (p' := 46) h em36_43 (by decide) rfl with ⟨c43, h⟩ | ⟨c43, h⟩
    · replace c43 : (μ.1 2 0).toInt ≤ i.toInt := c43
      replace h := tx_aload_n (p' := 84) h em36_83 rfl rfl
      replace h := tx_iload (p' := 86) h em36_84 rfl rfl
      replace h := tx_bipush (v := 8) (p' := 88) h em36_86 (by decide +kernel) rfl
      replace h := tx_imul (p' := 89) h em36_88 rfl
      replace h := tx_iload_n (p' := 90) h em36_89 rfl rfl
      replace h := tx_iadd (p' := 91) h em36_90 rfl
      obtain ⟨r91, μ91, hE91, h⟩ := tx_invV (na := 2) (mn := 56) (as := [.inr (.inl (some 28)), .inl ((ri * (8 : Int32)) + lt)]) (rest := []) (p' := 94) h em36_91 ((congrFun xo_5 83).trans rfl) xm_56 rfl rfl
      have hrk : pRi ρ (pTl sd ρ) S.1.length = pRi ρ (pTl sd ρ) k := by
        by_cases q : S.1.length = 0
        · have ek : k = 1 := by omega
          rw [q, ek, pRi_1]; rfl
        · rw [show k = S.1.length by omega]
      have r4 : pRi ρ (pTl sd ρ) k ≤ 4 := pRi_5 (by omega)
      have hl7 := (pTl_b (sd := sd) (ρ := ρ)).2
      have b1 : (ri * (8 : Int32)).toInt = 8 * (pRi ρ (pTl sd ρ) k : Int) := by rw [an_mul (by rw [e8i]; omega) (by rw [e8i]; omega), e8i, hri]; omega
      have b2 : (ri * (8 : Int32) + lt).toInt = ((8 * pRi ρ (pTl sd ρ) k + pTl sd ρ : Nat) : Int) := by rw [an_add (by rw [b1]; omega) (by rw [b1]; omega), b1, hlt]; omega
      obtain ⟨k1, k2, k3⟩ := ex_close_28 hE91 hO hT b2 (by omega)
      obtain ⟨x9, hx9⟩ : ∃ x9 : Int32, r91 = some (.inl x9) := by
        rcases k3 with ⟨e, -⟩ | ⟨e, -⟩
        · exact ⟨_, e⟩
        · exact ⟨_, e⟩
      subst hx9
      replace h : eT xq_36 _ 94 [some (.inr (.inl (some 51))), some (.inr (.inl (some 28))), some (.inl sd), some (.inl lt), some (.inl ri), some (.inl i)] [.inl x9] μ91 r μ' := h
      replace h := tx_pop (p' := 95) h em36_94 rfl
      obtain ⟨rfl, hμ⟩ := tx_return h em36_95
      rw [hμ]
      exact ⟨rfl, k1, by rw [pTv_y th1, hrk]; exact k2⟩
    · replace c43 : ¬ (μ.1 2 0).toInt ≤ i.toInt := c43
      replace h := tx_aload_n (p' := 47) h em36_46 rfl rfl
      obtain ⟨b47, hk_b47, hr_b47, h⟩ := tx_getk (c := 8) (j := 0) (p' := 50) h em36_47 ((congrFun xo_5 98).trans rfl) rfl rfl rfl
      have eb47 : b47 = 29 := Option.some.inj (hr_b47.symm.trans ((hO).2 28 (by decide) 0 (by decide)))
      subst eb47
      replace h := tx_iload (p' := 52) h em36_50 rfl rfl
      replace h := tx_bipush (v := 8) (p' := 54) h em36_52 (by decide +kernel) rfl
      replace h := tx_imul (p' := 55) h em36_54 rfl
      replace h := tx_iload_n (p' := 56) h em36_55 rfl rfl
      replace h := tx_iadd (p' := 57) h em36_56 rfl
      obtain ⟨hb57, h⟩ := tx_iald (len := 40) (p' := 58) h em36_57 rfl rfl
      replace hb57 : (0 : Int) ≤ ((i * (8 : Int32)) + lt).toInt ∧ ((i * (8 : Int32)) + lt).toInt < 40 := hb57
      replace h := tx_aload_n (p' := 59) h em36_58 rfl rfl
      obtain ⟨b59, hk_b59, hr_b59, h⟩ := tx_getk (c := 8) (j := 0) (p' := 62) h em36_59 ((congrFun xo_5 98).trans rfl) rfl rfl rfl
      have eb59 : b59 = 29 := Option.some.inj (hr_b59.symm.trans ((hO).2 28 (by decide) 0 (by decide)))
      subst eb59
      replace h := tx_iload (p' := 64) h em36_62 rfl rfl
      replace h := tx_bipush (v := 8) (p' := 66) h em36_64 (by decide +kernel) rfl
      replace h := tx_imul (p' := 67) h em36_66 rfl
      replace h := tx_iload_n (p' := 68) h em36_67 rfl rfl
      replace h := tx_iadd (p' := 69) h em36_68 rfl
      obtain ⟨hb69, h⟩ := tx_iald (len := 40) (p' := 70) h em36_69 rfl rfl
      replace hb69 : (0 : Int) ≤ ((ri * (8 : Int32)) + lt).toInt ∧ ((ri * (8 : Int32)) + lt).toInt < 40 := hb69
      rcases tx_icmp (t := 77) (p' := 73) h em36_70 (by decide) rfl with ⟨c70, h⟩ | ⟨c70, h⟩
      · replace c70 : (μ.1 29 ((i * (8 : Int32)) + lt).toInt.toNat).toInt ≤ (μ.1 29 ((ri * (8 : Int32)) + lt).toInt.toNat).toInt := c70
        replace h := tx_iinc (v := 1) (p' := 80) h em36_77 (by decide +kernel) rfl rfl
        replace h : eT xq_36 _ 80 [some (.inr (.inl (some 51))), some (.inr (.inl (some 28))), some (.inl sd), some (.inl lt), some (.inl ri), some (.inl (i + 1))] [] μ r μ' := h
        obtain ⟨n2, hn2, h⟩ := tx_gotoS (t := 34) h em36_80 (by decide)
        have ei : (i + 1).toInt = ((k + 1 : Nat) : Int) := by rw [an_add (by rw [e1i]; omega) (by rw [e1i]; omega), e1i]; omega
        have r4 : pRi ρ (pTl sd ρ) k ≤ 4 := pRi_5 (by omega)
        have hl7 := (pTl_b (sd := sd) (ρ := ρ)).2
        have a1 : (i * (8 : Int32)).toInt = 8 * (k : Int) := by rw [an_mul (by rw [e8i]; omega) (by rw [e8i]; omega), e8i, hi]; omega
        have a2 : (i * (8 : Int32) + lt).toInt.toNat = 8 * k + pTl sd ρ := by
          have : (i * (8 : Int32) + lt).toInt = 8 * (k : Int) + pTl sd ρ := by rw [an_add (by rw [a1]; omega) (by rw [a1]; omega), a1, hlt]
          omega
        have b1 : (ri * (8 : Int32)).toInt = 8 * (pRi ρ (pTl sd ρ) k : Int) := by rw [an_mul (by rw [e8i]; omega) (by rw [e8i]; omega), e8i, hri]; omega
        have b2 : (ri * (8 : Int32) + lt).toInt.toNat = 8 * pRi ρ (pTl sd ρ) k + pTl sd ρ := by
          have : (ri * (8 : Int32) + lt).toInt = 8 * (pRi ρ (pTl sd ρ) k : Int) + pTl sd ρ := by rw [an_add (by rw [b1]; omega) (by rw [b1]; omega), b1, hlt]
          omega
        have c1 : μ.1 29 (8 * k + pTl sd ρ) = ρ (8 * k + pTl sd ρ) := (hT.1 _ (by omega)).1
        have c2 : μ.1 29 (8 * pRi ρ (pTl sd ρ) k + pTl sd ρ) = ρ (8 * pRi ρ (pTl sd ρ) k + pTl sd ρ) := (hT.1 _ (by omega)).1
        rw [a2, b2, c1, c2] at c70
        refine ih n2 hn2 (k + 1) _ _ _ h hlt ei (by omega) ?_
        show _ = (((if (ρ (8 * pRi ρ (pTl sd ρ) k + pTl sd ρ)).toInt < (ρ (8 * k + pTl sd ρ)).toInt then k else pRi ρ (pTl sd ρ) k) : Nat) : Int)
        rw [if_neg (by omega)]
        exact hri
      · replace c70 : ¬ (μ.1 29 ((i * (8 : Int32)) + lt).toInt.toNat).toInt ≤ (μ.1 29 ((ri * (8 : Int32)) + lt).toInt.toNat).toInt := c70
        replace h := tx_iload (p' := 75) h em36_73 rfl rfl
        replace h := tx_istore (p' := 77) h em36_75 rfl
        replace h : eT xq_36 _ 77 [some (.inr (.inl (some 51))), some (.inr (.inl (some 28))), some (.inl sd), some (.inl lt), some (.inl i), some (.inl i)] [] μ r μ' := h
        replace h := tx_iinc (v := 1) (p' := 80) h em36_77 (by decide +kernel) rfl rfl
        replace h : eT xq_36 _ 80 [some (.inr (.inl (some 51))), some (.inr (.inl (some 28))), some (.inl sd), some (.inl lt), some (.inl i), some (.inl (i + 1))] [] μ r μ' := h
        obtain ⟨n2, hn2, h⟩ := tx_gotoS (t := 34) h em36_80 (by decide)
        have ei : (i + 1).toInt = ((k + 1 : Nat) : Int) := by rw [an_add (by rw [e1i]; omega) (by rw [e1i]; omega), e1i]; omega
        have r4 : pRi ρ (pTl sd ρ) k ≤ 4 := pRi_5 (by omega)
        have hl7 := (pTl_b (sd := sd) (ρ := ρ)).2
        have a1 : (i * (8 : Int32)).toInt = 8 * (k : Int) := by rw [an_mul (by rw [e8i]; omega) (by rw [e8i]; omega), e8i, hi]; omega
        have a2 : (i * (8 : Int32) + lt).toInt.toNat = 8 * k + pTl sd ρ := by
          have : (i * (8 : Int32) + lt).toInt = 8 * (k : Int) + pTl sd ρ := by rw [an_add (by rw [a1]; omega) (by rw [a1]; omega), a1, hlt]
          omega
        have b1 : (ri * (8 : Int32)).toInt = 8 * (pRi ρ (pTl sd ρ) k : Int) := by rw [an_mul (by rw [e8i]; omega) (by rw [e8i]; omega), e8i, hri]; omega
        have b2 : (ri * (8 : Int32) + lt).toInt.toNat = 8 * pRi ρ (pTl sd ρ) k + pTl sd ρ := by
          have : (ri * (8 : Int32) + lt).toInt = 8 * (pRi ρ (pTl sd ρ) k : Int) + pTl sd ρ := by rw [an_add (by rw [b1]; omega) (by rw [b1]; omega), b1, hlt]
          omega
        have c1 : μ.1 29 (8 * k + pTl sd ρ) = ρ (8 * k + pTl sd ρ) := (hT.1 _ (by omega)).1
        have c2 : μ.1 29 (8 * pRi ρ (pTl sd ρ) k + pTl sd ρ) = ρ (8 * pRi ρ (pTl sd ρ) k + pTl sd ρ) := (hT.1 _ (by omega)).1
        rw [a2, b2, c1, c2] at c70
        refine ih n2 hn2 (k + 1) _ _ _ h hlt ei (by omega) ?_
        show _ = (((if (ρ (8 * pRi ρ (pTl sd ρ) k + pTl sd ρ)).toInt < (ρ (8 * k + pTl sd ρ)).toInt then k else pRi ρ (pTl sd ρ) k) : Nat) : Int)
        rw [if_pos (by omega)]
        exact hi
  replace h := tx_aload_n (p' := 1) h em36_0 rfl rfl
  replace h := tx_iload_n (p' := 2) h em36_1 rfl rfl
  replace h := tx_aload_n (p' := 3) h em36_2 rfl rfl
  replace h := tx_getf (c := 8) (j := 7) (p' := 6) h em36_3 ((congrFun xo_5 27).trans rfl) rfl rfl (by decide) rfl
  obtain ⟨r6, μ6, hE6, h⟩ := tx_invV (na := 3) (mn := 37) (as := [.inr (.inl (some 51)), .inl sd, .inl (μ.1 28 7)]) (rest := []) (p' := 9) h em36_6 ((congrFun xo_5 94).trans rfl) xm_37 rfl rfl
  obtain ⟨hmt, ⟨rfl, th1⟩ | ⟨rfl, th1⟩⟩ := ex_cthieves hE6 hS
  · rw [hmt] at h
    rw [hd7] at th1
    replace h : eT xq_36 _ 9 [some (.inr (.inl (some 51))), some (.inr (.inl (some 28))), some (.inl sd), none, none, none] [.inl (1 : Int32)] μ r μ' := h
    rcases tx_if (t := 13) (p' := 12) h em36_9 (by decide) rfl with ⟨c9, h⟩ | ⟨c9, h⟩
    · replace c9 : ¬ (1 : Int) = (0 : Int) := c9
      replace h := tx_bipush (v := 8) (p' := 15) h em36_13 (by decide +kernel) rfl
      replace h := tx_iload_n (p' := 16) h em36_15 rfl rfl
      replace h := tx_iconst (v := 4) (p' := 17) h em36_16 (by decide +kernel) rfl
      replace h := tx_aload_n (p' := 18) h em36_17 rfl rfl
      replace h := tx_getf (c := 8) (j := 7) (p' := 21) h em36_18 ((congrFun xo_5 27).trans rfl) rfl rfl (by decide) rfl
      replace h := tx_imul (p' := 22) h em36_21 rfl
      replace h := tx_iconst (v := 1) (p' := 23) h em36_22 (by decide +kernel) rfl
      replace h := tx_iadd (p' := 24) h em36_23 rfl
      obtain ⟨r24, μ24, hE24, h⟩ := tx_invS (na := 3) (mn := 32) (as := [.inl (8 : Int32), .inl sd, .inl (((4 : Int32) * (μ.1 28 7)) + (1 : Int32))]) (rest := []) (p' := 27) h em36_24 ((congrFun xo_5 87).trans rfl) xm_32 rfl rfl
      obtain ⟨hml, rfl⟩ := ex_clot hE24 (by decide)
      rw [hml] at h
      replace h : eT xq_36 _ 27 [some (.inr (.inl (some 51))), some (.inr (.inl (some 28))), some (.inl sd), none, none, none] [.inl (pLt 8 sd (((4 : Int32) * (μ.1 28 7)) + (1 : Int32)))] μ r μ' := h
      replace h := tx_istore_n (p' := 28) h em36_27 rfl
      replace h : eT xq_36 _ 28 [some (.inr (.inl (some 51))), some (.inr (.inl (some 28))), some (.inl sd), some (.inl (pLt 8 sd (((4 : Int32) * (μ.1 28 7)) + (1 : Int32)))), none, none] [] μ r μ' := h
      replace h := tx_iconst (v := 0) (p' := 29) h em36_28 (by decide +kernel) rfl
      replace h := tx_istore (p' := 31) h em36_29 rfl
      replace h : eT xq_36 _ 31 [some (.inr (.inl (some 51))), some (.inr (.inl (some 28))), some (.inl sd), some (.inl (pLt 8 sd (((4 : Int32) * (μ.1 28 7)) + (1 : Int32)))), some (.inl (0 : Int32)), none] [] μ r μ' := h
      replace h := tx_iconst (v := 1) (p' := 32) h em36_31 (by decide +kernel) rfl
      replace h := tx_istore (p' := 34) h em36_32 rfl
      replace h : eT xq_36 _ 34 [some (.inr (.inl (some 51))), some (.inr (.inl (some 28))), some (.inl sd), some (.inl (pLt 8 sd (((4 : Int32) * (μ.1 28 7)) + (1 : Int32)))), some (.inl (0 : Int32)), some (.inl (1 : Int32))] [] μ r μ' := h
      rw [hd7] at h
      obtain ⟨hl9, hl7⟩ := pTl_b (sd := sd) (ρ := ρ)
      exact loop th1 _ 1 _ _ _ h hl9 (by decide) (by omega) (by rw [pRi_1]; rfl)
    · replace c9 : ¬ ¬ (1 : Int) = (0 : Int) := c9
      exfalso
      omega
  · rw [hmt] at h
    rw [hd7] at th1
    replace h : eT xq_36 _ 9 [some (.inr (.inl (some 51))), some (.inr (.inl (some 28))), some (.inl sd), none, none, none] [.inl (0 : Int32)] μ r μ' := h
    rcases tx_if (t := 13) (p' := 12) h em36_9 (by decide) rfl with ⟨c9_1, h⟩ | ⟨c9_1, h⟩
    · replace c9_1 : ¬ (0 : Int) = (0 : Int) := c9_1
      exfalso
      omega
    · replace c9_1 : ¬ ¬ (0 : Int) = (0 : Int) := c9_1
      obtain ⟨rfl, hμ⟩ := tx_return h em36_12
      rw [hμ]
      exact ⟨rfl, gDw_rf, by rw [pTv_n th1]; exact hT⟩
set_option maxRecDepth 10000 in
set_option maxHeartbeats 4000000 in
theorem ex_cpass_28 {nn sd : Int32} {S : kSt} {ρ : Nat → Int32} {μ μ' : xM} {r : Option zV} (h0 : Ex gx xq_35 [.inr (.inl (some 51)), .inr (.inl (some 28)), .inl nn, .inl sd] μ r μ') (hO : hOK μ) (hS : cS9 S μ) (hT : tw9 S 28 ρ μ) (hI : pI S ρ) (hn0 : 0 ≤ nn.toInt) : r = none ∧ gDy 28 μ μ' ∧ tw9 S 28 (pDys S 0 sd nn.toInt.toNat ρ) μ' := by
  obtain ⟨n, h⟩ := tx_in (L := [some (.inr (.inl (some 51))), some (.inr (.inl (some 28))), some (.inl nn), some (.inl sd), none]) h0 rfl
  have e1i : (1 : Int32).toInt = 1 := by decide
  have hnh := an_hi nn
  have loop : ∀ (n k : Nat) (i : Int32) (ω : xM), eT xq_35 n 3 [some (.inr (.inl (some 51))), some (.inr (.inl (some 28))), some (.inl nn), some (.inl sd), some (.inl i)] [] ω r μ' → i.toInt = (k : Int) → k ≤ nn.toInt.toNat → gDy 28 μ ω → tw9 S 28 (pDys S 0 sd k ρ) ω → r = none ∧ gDy 28 μ μ' ∧ tw9 S 28 (pDys S 0 sd nn.toInt.toNat ρ) μ' := by
    intro n
    induction n using Nat.strongRecOn with
    | ind n ih =>
    intro k i ω h hi hk hG hTω
    have hOω := hOK_2 hG.2 hO
    have hSω := cS9_y hS hG (by decide)
    replace h := tx_iload (p' := 5) h em35_3 rfl rfl
    replace h := tx_iload_n (p' := 6) h em35_5 rfl rfl
    rcases tx_icmp (t := 36) (p' := 9) h em35_6 (by decide) rfl with ⟨c6, h⟩ | ⟨c6, h⟩
    · replace c6 : nn.toInt ≤ i.toInt := c6
      obtain ⟨rfl, hμ⟩ := tx_return h em35_36
      rw [hμ]
      have ek : k = nn.toInt.toNat := by omega
      rw [ek] at hTω
      exact ⟨rfl, hG, hTω⟩
    · replace c6 : ¬ nn.toInt ≤ i.toInt := c6
      replace h := tx_aload_n (p' := 10) h em35_9 rfl rfl
      replace h := tx_aload_n (p' := 11) h em35_10 rfl rfl
      obtain ⟨r11, μ11, hE11, h⟩ := tx_invV (na := 2) (mn := 39) (as := [.inr (.inl (some 51)), .inr (.inl (some 28))]) (rest := []) (p' := 14) h em35_11 ((congrFun xo_5 19).trans rfl) xm_39 rfl rfl
      obtain ⟨rfl, g1, hT1⟩ := ex_cwork_28 hE11 hOω hSω hTω (pI_b hS.1 (pI_dys hS.1 hI k))
      have hO1 := hOK_2 g1.2 hOω
      have hS1 := cS9_y hSω g1 (by decide)
      replace h : eT xq_35 _ 14 [some (.inr (.inl (some 51))), some (.inr (.inl (some 28))), some (.inl nn), some (.inl sd), some (.inl i)] [] μ11 r μ' := h
      replace h := tx_aload_n (p' := 15) h em35_14 rfl rfl
      replace h := tx_aload_n (p' := 16) h em35_15 rfl rfl
      replace h := tx_iload_n (p' := 17) h em35_16 rfl rfl
      obtain ⟨r17, μ17, hE17, h⟩ := tx_invV (na := 3) (mn := 36) (as := [.inr (.inl (some 51)), .inr (.inl (some 28)), .inl sd]) (rest := []) (p' := 20) h em35_17 ((congrFun xo_5 23).trans rfl) xm_36 rfl rfl
      obtain ⟨rfl, g2, hT2⟩ := ex_csteal_28 hE17 hO1 hS1 hT1.1
      replace h : eT xq_35 _ 20 [some (.inr (.inl (some 51))), some (.inr (.inl (some 28))), some (.inl nn), some (.inl sd), some (.inl i)] [] μ17 r μ' := h
      replace h := tx_aload_n (p' := 21) h em35_20 rfl rfl
      replace h := tx_dup (p' := 22) h em35_21 rfl
      replace h := tx_getf (c := 8) (j := 7) (p' := 25) h em35_22 ((congrFun xo_5 27).trans rfl) rfl rfl (by decide) rfl
      replace h := tx_iconst (v := 1) (p' := 26) h em35_25 (by decide +kernel) rfl
      replace h := tx_iadd (p' := 27) h em35_26 rfl
      replace h := tx_putf (a := 28) (c := 8) (j := 7) (p' := 30) h em35_27 ((congrFun xo_5 27).trans rfl) rfl
      replace h := tx_iinc (v := 1) (p' := 33) h em35_30 (by decide +kernel) rfl rfl
      replace h : eT xq_35 _ 33 [some (.inr (.inl (some 51))), some (.inr (.inl (some 28))), some (.inl nn), some (.inl sd), some (.inl (i + 1))] [] (xpi μ17 28 7 ((μ17.1 28 7) + (1 : Int32))) r μ' := h
      obtain ⟨n2, hn2, h⟩ := tx_gotoS (t := 3) h em35_33 (by decide)
      have ei : (i + 1).toInt = ((k + 1 : Nat) : Int) := by rw [an_add (by rw [e1i]; omega) (by rw [e1i]; omega), e1i]; omega
      have hT3 := tw9_n hS.1 hT1 hT2 (fun x p q => by
        by_cases th : pTh S sd (pWk S (pDys S 0 sd k ρ))
        · rw [pTv_y th]
          have hl7 := (pTl_b (sd := sd) (ρ := pWk S (pDys S 0 sd k ρ))).2
          have r4 := pRi_5 (ρ := pWk S (pDys S 0 sd k ρ)) (l := pTl sd (pWk S (pDys S 0 sd k ρ))) hS.1.1
          exact pLs_ne (by omega) (by omega)
        · rw [pTv_n th]) (g2.1 28 5 (by decide) (by decide) (by decide) (by decide) (by decide)) (g2.1 28 6 (by decide) (by decide) (by decide) (by decide) (by decide)) (fun j => g2.1 33 j (by decide) (by decide) (by decide) (by decide) (fun q => absurd q.1 (by decide)))
      have ed : pDys S 0 sd (k + 1) ρ = pUp (pTv S sd (pWk S (pDys S 0 sd k ρ))) 386 (pTv S sd (pWk S (pDys S 0 sd k ρ)) 386 + 1) := rfl
      have q7 : μ17.1 28 7 = pTv S sd (pWk S (pDys S 0 sd k ρ)) 386 := hT2.2.2.1
      rw [q7] at h
      refine ih n2 hn2 (k + 1) _ _ h ei (by omega) (gDy_i (gDy_tr hG (gDy_tr g1 (gDy_w g2))) (by decide)) ?_
      rw [ed]
      exact tw9_n hS.1 hT3 (twA_f (j := 7) hT2 (by decide)) (fun x p q => pUp_ne (by omega)) (xpi_ne (by decide)) (xpi_ne (by decide)) (fun j => xpi_ne (fun q => absurd q.1 (by decide)))
  replace h := tx_iconst (v := 0) (p' := 1) h em35_0 (by decide +kernel) rfl
  replace h := tx_istore (p' := 3) h em35_1 rfl
  replace h : eT xq_35 _ 3 [some (.inr (.inl (some 51))), some (.inr (.inl (some 28))), some (.inl nn), some (.inl sd), some (.inl (0 : Int32))] [] μ r μ' := h
  exact loop _ 0 _ _ h (by decide) (Nat.zero_le _) gDy_rf hT
