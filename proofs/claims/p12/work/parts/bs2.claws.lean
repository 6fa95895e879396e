/-! ===== the class's laws at a house, a letter, a verse ===== -/
/-- what the judge looks at and reckons with, alone -/
def gJ (μ μ' : xM) : Prop := (∀ k j, k ≠ 49 → k ≠ 50 → μ'.1 k j = μ.1 k j) ∧ μ'.2 = μ.2
theorem gJ_rf {μ : xM} : gJ μ μ := ⟨fun _ _ _ _ => rfl, rfl⟩
theorem gJ_tr {μ ν ω : xM} (h1 : gJ μ ν) (h2 : gJ ν ω) : gJ μ ω := ⟨fun k j a b => (h2.1 k j a b).trans (h1.1 k j a b), h2.2.trans h1.2⟩
theorem gJ_i {μ ν : xM} {j : Nat} {v : Int32} (h : gJ μ ν) : gJ μ (xpi ν 49 j v) := ⟨fun k i a b => (xpi_ne (fun q => a q.1)).trans (h.1 k i a b), h.2⟩
theorem gJ_j {μ ν : xM} (h : jE μ ν) : gJ μ ν := ⟨fun k j _ b => h.1 k j b, h.2⟩
theorem cS9_J {S : kSt} {μ ν : xM} (h : cS9 S μ) (e : gJ μ ν) : cS9 S ν := cS9_cg h (fun k j a b => e.1 k j (by omega) (by omega))
abbrev xq_2 : xP := (⟨"CapitalCase$Judge", "givesLeave", "(LCapitalCase$Town;III)Z"⟩, prog_3_method_2_code, 5, (some .boolean))
abbrev xq_7 : xP := (⟨"CapitalCase$Judge", "rank", "(LCapitalCase$Town;III)I"⟩, prog_3_method_3_code, 5, (some .int))
abbrev xq_8 : xP := (⟨"CapitalCase$Judge", "wears", "(LCapitalCase$Town;II)I"⟩, prog_3_method_4_code, 4, (some .int))
abbrev xq_6 : xP := (⟨"CapitalCase$Judge", "pays", "(II)I"⟩, prog_3_method_5_code, 3, (some .int))
abbrev xq_5 : xP := (⟨"CapitalCase$Judge", "lookAtVerse", "(I)V"⟩, prog_3_method_6_code, 2, none)
abbrev xq_4 : xP := (⟨"CapitalCase$Judge", "lookAtHouse", "(LCapitalCase$Town;II)V"⟩, prog_3_method_7_code, 5, none)
abbrev xq_53 : xP := (⟨"CapitalCase$Town", "lentBy", "(II)I"⟩, prog_10_method_5_code, 5, (some .int))
set_option maxRecDepth 10000 in
set_option maxHeartbeats 4000000 in
theorem ex_cjudge {l : Int32} {S : kSt} {k : Nat} {μ μ' : xM} {r : Option zV} (h0 : Ex gx xq_3 [.inr (.inl (some 48)), .inl l] μ r μ') (hS : cS9 S μ) (hl : l.toInt = (k : Int)) (hk : k < 4) : r = some (.inl (pJ S.2.2.2 k (fun i => μ.1 49 i))) ∧ gJ μ μ' := by
  obtain ⟨n, h⟩ := tx_in (L := [some (.inr (.inl (some 48))), some (.inl l), none, none, none, none]) h0 rfl
  obtain ⟨-, s2, -, ⟨s3, s4⟩⟩ := hS
  obtain ⟨g1, g2⟩ := ex_judge h0 (s4 k hk).2 hl s3.2 (s2 k) (s4 k hk).1
  exact ⟨g1, gJ_j g2⟩
set_option maxRecDepth 10000 in
set_option maxHeartbeats 4000000 in
theorem fill_49 {v : Int32} {μ μ' : xM} {r : Option zV} (h0 : Ex gx xq_207 [.inr (.inl (some 49)), .inl v] μ r μ') : r = none ∧ gJ μ μ' ∧ ∀ j : Nat, j < 9 → μ'.1 49 j = v := by
  obtain ⟨n, h⟩ := tx_in (L := [some (.inr (.inl (some 49))), some (.inl v), none, none]) h0 rfl
  have e1i : (1 : Int32).toInt = 1 := by decide
  have loop : ∀ (n : Nat) (i m : Int32) (ω : xM), eT xq_207 n 5 [some (.inr (.inl (some 49))), some (.inl v), some (.inl i), some (.inl m)] [] ω r μ' → m.toInt = 9 → 0 ≤ i.toInt → i.toInt ≤ 9 → gJ μ ω → (∀ j : Nat, (j : Int) < i.toInt → ω.1 49 j = v) → r = none ∧ gJ μ μ' ∧ ∀ j : Nat, j < 9 → μ'.1 49 j = v := by
    intro n
    induction n using Nat.strongRecOn with
    | ind n ih =>
    intro i m ω h hm hi0 hi1 hG hF
    replace h := tx_iload_n (p' := 6) h em207_5 rfl rfl
    replace h := tx_iload_n (p' := 7) h em207_6 rfl rfl
    rcases tx_icmp (t := 20) (p' := 10) h em207_7 (by decide) rfl with ⟨c7, h⟩ | ⟨c7, h⟩
    · replace c7 : m.toInt ≤ i.toInt := c7
      obtain ⟨rfl, hμ⟩ := tx_return h em207_20
      rw [hμ]
      exact ⟨rfl, hG, fun j hj => hF j (by omega)⟩
    · replace c7 : ¬ m.toInt ≤ i.toInt := c7
      replace h := tx_aload_n (p' := 11) h em207_10 rfl rfl
      replace h := tx_iload_n (p' := 12) h em207_11 rfl rfl
      replace h := tx_iload_n (p' := 13) h em207_12 rfl rfl
      obtain ⟨hb13, h⟩ := tx_iast (len := 9) (p' := 14) h em207_13 rfl rfl
      replace hb13 : (0 : Int) ≤ i.toInt ∧ i.toInt < 9 := hb13
      replace h := tx_iinc (v := 1) (p' := 17) h em207_14 (by decide +kernel) rfl rfl
      replace h : eT xq_207 _ 17 [some (.inr (.inl (some 49))), some (.inl v), some (.inl (i + 1)), some (.inl m)] [] (xpi ω 49 i.toInt.toNat v) r μ' := h
      obtain ⟨n2, hn2, h⟩ := tx_gotoS (t := 5) h em207_17 (by decide)
      have ei : (i + 1).toInt = i.toInt + 1 := by rw [an_add (by rw [e1i]; omega) (by rw [e1i]; omega), e1i]
      refine ih n2 hn2 _ _ _ h hm (by omega) (by omega) (gJ_i hG) (fun j hj => ?_)
      by_cases q : j = i.toInt.toNat
      · rw [q, xpi_at]
      · rw [xpi_ne (fun z => q z.2)]
        exact hF j (by omega)
  replace h := tx_iconst (v := 0) (p' := 1) h em207_0 (by decide +kernel) rfl
  replace h := tx_istore_n (p' := 2) h em207_1 rfl
  replace h : eT xq_207 _ 2 [some (.inr (.inl (some 49))), some (.inl v), some (.inl (0 : Int32)), none] [] μ r μ' := h
  replace h := tx_aload_n (p' := 3) h em207_2 rfl rfl
  replace h := tx_alen (p' := 4) h em207_3 rfl rfl
  replace h := tx_istore_n (p' := 5) h em207_4 rfl
  replace h : eT xq_207 _ 5 [some (.inr (.inl (some 49))), some (.inl v), some (.inl (0 : Int32)), some (.inl (Int32.ofNat 9))] [] μ r μ' := h
  exact loop _ _ _ _ h (by decide) (by decide) (by decide) gJ_rf (fun j hj => j0y hj)
set_option maxRecDepth 10000 in
set_option maxHeartbeats 4000000 in
theorem ex_lookV {v : Int32} {S : kSt} {vn : Nat} {μ μ' : xM} {r : Option zV} (h0 : Ex gx xq_5 [.inr (.inl (some 48)), .inl v] μ r μ') (hS : cS9 S μ) (hv : v.toInt = (vn : Int)) (hvn : vn < S.2.1.length) : r = none ∧ gJ μ μ' ∧ μ'.1 49 0 = vVa S vn ∧ μ'.1 49 1 = vDu S vn ∧ μ'.1 49 7 = vLo S vn ∧ ∀ j, j ≠ 0 → j ≠ 1 → j ≠ 7 → μ'.1 49 j = μ.1 49 j := by
  obtain ⟨n, h⟩ := tx_in (L := [some (.inr (.inl (some 48))), some (.inl v)]) h0 rfl
  replace h := tx_aload_n (p' := 1) h em5_0 rfl rfl
  replace h := tx_getc (c := 1) (j := 1) (p' := 4) h em5_1 ((congrFun xo_2 11).trans rfl) rfl rfl rfl
  replace h := tx_iconst (v := 0) (p' := 5) h em5_4 (by decide +kernel) rfl
  replace h := tx_aload_n (p' := 6) h em5_5 rfl rfl
  replace h := tx_getc (c := 1) (j := 0) (p' := 9) h em5_6 ((congrFun xo_2 18).trans rfl) rfl rfl rfl
  replace h := tx_getc (c := 6) (j := 6) (p' := 12) h em5_9 ((congrFun xo_2 51).trans rfl) rfl rfl rfl
  replace h := tx_iload_n (p' := 13) h em5_12 rfl rfl
  obtain ⟨hb13, h⟩ := tx_iald (len := 7) (p' := 14) h em5_13 rfl rfl
  replace hb13 : (0 : Int) ≤ v.toInt ∧ v.toInt < 7 := hb13
  obtain ⟨hb14, h⟩ := tx_iast (len := 9) (p' := 15) h em5_14 rfl rfl
  replace hb14 : (0 : Int) ≤ 0 ∧ (0 : Int) < 9 := hb14
  replace h := tx_aload_n (p' := 16) h em5_15 rfl rfl
  replace h := tx_getc (c := 1) (j := 1) (p' := 19) h em5_16 ((congrFun xo_2 11).trans rfl) rfl rfl rfl
  replace h := tx_iconst (v := 1) (p' := 20) h em5_19 (by decide +kernel) rfl
  replace h := tx_aload_n (p' := 21) h em5_20 rfl rfl
  replace h := tx_getc (c := 1) (j := 0) (p' := 24) h em5_21 ((congrFun xo_2 18).trans rfl) rfl rfl rfl
  replace h := tx_getc (c := 6) (j := 7) (p' := 27) h em5_24 ((congrFun xo_2 54).trans rfl) rfl rfl rfl
  replace h := tx_iload_n (p' := 28) h em5_27 rfl rfl
  obtain ⟨hb28, h⟩ := tx_iald (len := 7) (p' := 29) h em5_28 rfl rfl
  replace hb28 : (0 : Int) ≤ v.toInt ∧ v.toInt < 7 := hb28
  replace h : eT xq_5 _ 29 [some (.inr (.inl (some 48))), some (.inl v)] [.inl (μ.1 5 v.toInt.toNat), .inl (1 : Int32), .inr (.inl (some 49))] (xpi μ 49 0 (μ.1 4 v.toInt.toNat)) r μ' := h
  obtain ⟨hb29, h⟩ := tx_iast (len := 9) (p' := 30) h em5_29 rfl rfl
  replace hb29 : (0 : Int) ≤ 1 ∧ (1 : Int) < 9 := hb29
  replace h := tx_aload_n (p' := 31) h em5_30 rfl rfl
  replace h := tx_getc (c := 1) (j := 1) (p' := 34) h em5_31 ((congrFun xo_2 11).trans rfl) rfl rfl rfl
  replace h := tx_bipush (v := 7) (p' := 36) h em5_34 (by decide +kernel) rfl
  replace h := tx_aload_n (p' := 37) h em5_36 rfl rfl
  replace h := tx_getc (c := 1) (j := 0) (p' := 40) h em5_37 ((congrFun xo_2 18).trans rfl) rfl rfl rfl
  replace h := tx_getc (c := 6) (j := 8) (p' := 43) h em5_40 ((congrFun xo_2 57).trans rfl) rfl rfl rfl
  replace h := tx_iload_n (p' := 44) h em5_43 rfl rfl
  obtain ⟨hb44, h⟩ := tx_iald (len := 7) (p' := 45) h em5_44 rfl rfl
  replace hb44 : (0 : Int) ≤ v.toInt ∧ v.toInt < 7 := hb44
  replace h : eT xq_5 _ 45 [some (.inr (.inl (some 48))), some (.inl v)] [.inl (μ.1 6 v.toInt.toNat), .inl (7 : Int32), .inr (.inl (some 49))] (xpi (xpi μ 49 0 (μ.1 4 v.toInt.toNat)) 49 1 (μ.1 5 v.toInt.toNat)) r μ' := h
  obtain ⟨hb45, h⟩ := tx_iast (len := 9) (p' := 46) h em5_45 rfl rfl
  replace hb45 : (0 : Int) ≤ 7 ∧ (7 : Int) < 9 := hb45
  obtain ⟨rfl, hμ⟩ := tx_return h em5_46
  replace hμ : μ' = (xpi (xpi (xpi μ 49 0 (μ.1 4 v.toInt.toNat)) 49 1 (μ.1 5 v.toInt.toNat)) 49 7 (μ.1 6 v.toInt.toNat)) := hμ
  obtain ⟨d1, d2, d3, -⟩ := cS9_v hS hvn
  rw [hμ, show v.toInt.toNat = vn by omega]
  exact ⟨rfl, gJ_i (gJ_i (gJ_i gJ_rf)), by rw [xpi_ne (fun q => absurd q.2 (by decide)), xpi_ne (fun q => absurd q.2 (by decide)), xpi_at]; exact d1, by rw [xpi_ne (fun q => absurd q.2 (by decide)), xpi_at]; exact d2, by rw [xpi_at]; exact d3, fun j a b c => by rw [xpi_ne (fun q => c q.2), xpi_ne (fun q => b q.2), xpi_ne (fun q => a q.2)]⟩
set_option maxRecDepth 10000 in
set_option maxHeartbeats 4000000 in
theorem ex_lentBy_28 {hh0 l : Int32} {hn ln : Nat} {μ μ' : xM} {r : Option zV} (h0 : Ex gx xq_53 [.inr (.inl (some 28)), .inl hh0, .inl l] μ r μ') (hO : hOK μ) (hh : hh0.toInt = (hn : Int)) (hh4 : hn ≤ 4) (hl : l.toInt = (ln : Int)) (hl7 : ln ≤ 7) : r = some (.inl (s5 (fun o => μ.1 32 (40 * hn + 8 * o + ln)) 5)) ∧ μ' = μ := by
  obtain ⟨n, h⟩ := tx_in (L := [some (.inr (.inl (some 28))), some (.inl hh0), some (.inl l), none, none]) h0 rfl
  have e1i : (1 : Int32).toInt = 1 := by decide
  have e5i : (5 : Int32).toInt = 5 := by decide
  have e8i : (8 : Int32).toInt = 8 := by decide
  have loop : ∀ (n k : Nat) (n9 i : Int32), eT xq_53 n 5 [some (.inr (.inl (some 28))), some (.inl hh0), some (.inl l), some (.inl n9), some (.inl i)] [] μ r μ' → i.toInt = (k : Int) → k ≤ 5 → n9 = s5 (fun o => μ.1 32 (40 * hn + 8 * o + ln)) k → r = some (.inl (s5 (fun o => μ.1 32 (40 * hn + 8 * o + ln)) 5)) ∧ μ' = μ := by
    intro n
    induction n using Nat.strongRecOn with
    | ind n ih =>
    intro k n9 i h hi hk hs9
    replace h := tx_iload (p' := 7) h em53_5 rfl rfl
    replace h := tx_iconst (v := 5) (p' := 8) h em53_7 (by decide +kernel) rfl
    rcases tx_icmp (t := 36) (p' := 11) h em53_8 (by decide) rfl with ⟨c8, h⟩ | ⟨c8, h⟩
    · replace c8 : 5 ≤ i.toInt := c8
      replace h := tx_iload_n (p' := 37) h em53_36 rfl rfl
      obtain ⟨rfl, hμ⟩ := tx_ireturn h em53_37
      rw [hμ, hs9, show k = 5 by omega]
      exact ⟨rfl, rfl⟩
    · replace c8 : ¬ 5 ≤ i.toInt := c8
      replace h := tx_iload_n (p' := 12) h em53_11 rfl rfl
      replace h := tx_aload_n (p' := 13) h em53_12 rfl rfl
      obtain ⟨b13, hk_b13, hr_b13, h⟩ := tx_getk (c := 8) (j := 3) (p' := 16) h em53_13 ((congrFun xo_9 21).trans rfl) rfl rfl rfl
      have eb13 : b13 = 32 := Option.some.inj (hr_b13.symm.trans ((hO).2 28 (by decide) 3 (by decide)))
      subst eb13
      replace h := tx_iload_n (p' := 17) h em53_16 rfl rfl
      replace h := tx_iconst (v := 5) (p' := 18) h em53_17 (by decide +kernel) rfl
      replace h := tx_imul (p' := 19) h em53_18 rfl
      replace h := tx_iload (p' := 21) h em53_19 rfl rfl
      replace h := tx_iadd (p' := 22) h em53_21 rfl
      replace h := tx_bipush (v := 8) (p' := 24) h em53_22 (by decide +kernel) rfl
      replace h := tx_imul (p' := 25) h em53_24 rfl
      replace h := tx_iload_n (p' := 26) h em53_25 rfl rfl
      replace h := tx_iadd (p' := 27) h em53_26 rfl
      obtain ⟨hb27, h⟩ := tx_iald (len := 200) (p' := 28) h em53_27 rfl rfl
      replace hb27 : (0 : Int) ≤ ((((hh0 * (5 : Int32)) + i) * (8 : Int32)) + l).toInt ∧ ((((hh0 * (5 : Int32)) + i) * (8 : Int32)) + l).toInt < 200 := hb27
      replace h := tx_iadd (p' := 29) h em53_28 rfl
      replace h := tx_istore_n (p' := 30) h em53_29 rfl
      replace h : eT xq_53 _ 30 [some (.inr (.inl (some 28))), some (.inl hh0), some (.inl l), some (.inl (n9 + (μ.1 32 ((((hh0 * (5 : Int32)) + i) * (8 : Int32)) + l).toInt.toNat))), some (.inl i)] [] μ r μ' := h
      replace h := tx_iinc (v := 1) (p' := 33) h em53_30 (by decide +kernel) rfl rfl
      replace h : eT xq_53 _ 33 [some (.inr (.inl (some 28))), some (.inl hh0), some (.inl l), some (.inl (n9 + (μ.1 32 ((((hh0 * (5 : Int32)) + i) * (8 : Int32)) + l).toInt.toNat))), some (.inl (i + 1))] [] μ r μ' := h
      obtain ⟨n2, hn2, h⟩ := tx_gotoS (t := 5) h em53_33 (by decide)
      have ei : (i + 1).toInt = ((k + 1 : Nat) : Int) := by rw [an_add (by rw [e1i]; omega) (by rw [e1i]; omega), e1i]; omega
      have m1 : (hh0 * (5 : Int32)).toInt = 5 * (hn : Int) := by rw [an_mul (by rw [e5i]; omega) (by rw [e5i]; omega), e5i, hh]; omega
      have m2 : (hh0 * (5 : Int32) + i).toInt = 5 * (hn : Int) + k := by rw [an_add (by rw [m1]; omega) (by rw [m1]; omega), m1, hi]
      have m3 : ((hh0 * (5 : Int32) + i) * (8 : Int32)).toInt = 8 * (5 * (hn : Int) + k) := by rw [an_mul (by rw [m2, e8i]; omega) (by rw [m2, e8i]; omega), m2, e8i]; omega
      have m4 : ((hh0 * (5 : Int32) + i) * (8 : Int32) + l).toInt = 8 * (5 * (hn : Int) + k) + ln := by rw [an_add (by rw [m3]; omega) (by rw [m3]; omega), m3, hl]
      refine ih n2 hn2 (k + 1) _ _ h ei (by omega) ?_
      show _ = s5 _ k + _
      rw [hs9, show ((hh0 * (5 : Int32) + i) * (8 : Int32) + l).toInt.toNat = 40 * hn + 8 * k + ln by omega]
  replace h := tx_iconst (v := 0) (p' := 1) h em53_0 (by decide +kernel) rfl
  replace h := tx_istore_n (p' := 2) h em53_1 rfl
  replace h : eT xq_53 _ 2 [some (.inr (.inl (some 28))), some (.inl hh0), some (.inl l), some (.inl (0 : Int32)), none] [] μ r μ' := h
  replace h := tx_iconst (v := 0) (p' := 3) h em53_2 (by decide +kernel) rfl
  replace h := tx_istore (p' := 5) h em53_3 rfl
  replace h : eT xq_53 _ 5 [some (.inr (.inl (some 28))), some (.inl hh0), some (.inl l), some (.inl (0 : Int32)), some (.inl (0 : Int32))] [] μ r μ' := h
  exact loop _ 0 _ _ h (by decide) (by decide) rfl
set_option maxRecDepth 10000 in
set_option maxHeartbeats 4000000 in
theorem ex_lookH_28 {hh0 l : Int32} {hn ln : Nat} {μ μ' : xM} {r : Option zV} (h0 : Ex gx xq_4 [.inr (.inl (some 48)), .inr (.inl (some 28)), .inl hh0, .inl l] μ r μ') (hO : hOK μ) (hh : hh0.toInt = (hn : Int)) (hh4 : hn ≤ 4) (hl : l.toInt = (ln : Int)) (hl7 : ln ≤ 7) : r = none ∧ gJ μ μ' ∧ (∀ j, j ≤ 8 → μ'.1 49 j = tV (μ.1 49 0) (μ.1 49 1) (μ.1 28 7) (μ.1 31 (8 * hn + ln)) (μ.1 29 (8 * hn + ln)) (Int32.ofNat hn) (Int32.ofNat ln) (μ.1 49 7) (s5 (fun o => μ.1 32 (40 * hn + 8 * o + ln)) 5) j) := by
  obtain ⟨n, h⟩ := tx_in (L := [some (.inr (.inl (some 48))), some (.inr (.inl (some 28))), some (.inl hh0), some (.inl l), none]) h0 rfl
  replace h := tx_iload_n (p' := 1) h em4_0 rfl rfl
  replace h := tx_bipush (v := 8) (p' := 3) h em4_1 (by decide +kernel) rfl
  replace h := tx_imul (p' := 4) h em4_3 rfl
  replace h := tx_iload_n (p' := 5) h em4_4 rfl rfl
  replace h := tx_iadd (p' := 6) h em4_5 rfl
  replace h := tx_istore (p' := 8) h em4_6 rfl
  replace h : eT xq_4 _ 8 [some (.inr (.inl (some 48))), some (.inr (.inl (some 28))), some (.inl hh0), some (.inl l), some (.inl ((hh0 * (8 : Int32)) + l))] [] μ r μ' := h
  replace h := tx_aload_n (p' := 9) h em4_8 rfl rfl
  replace h := tx_getc (c := 1) (j := 1) (p' := 12) h em4_9 ((congrFun xo_2 11).trans rfl) rfl rfl rfl
  replace h := tx_iconst (v := 2) (p' := 13) h em4_12 (by decide +kernel) rfl
  replace h := tx_aload_n (p' := 14) h em4_13 rfl rfl
  replace h := tx_getf (c := 8) (j := 7) (p' := 17) h em4_14 ((congrFun xo_2 60).trans rfl) rfl rfl (by decide) rfl
  obtain ⟨hb17, h⟩ := tx_iast (len := 9) (p' := 18) h em4_17 rfl rfl
  replace hb17 : (0 : Int) ≤ 2 ∧ (2 : Int) < 9 := hb17
  replace h := tx_aload_n (p' := 19) h em4_18 rfl rfl
  replace h := tx_getc (c := 1) (j := 1) (p' := 22) h em4_19 ((congrFun xo_2 11).trans rfl) rfl rfl rfl
  replace h := tx_iconst (v := 3) (p' := 23) h em4_22 (by decide +kernel) rfl
  replace h := tx_aload_n (p' := 24) h em4_23 rfl rfl
  obtain ⟨b24, hk_b24, hr_b24, h⟩ := tx_getk (c := 8) (j := 2) (p' := 27) h em4_24 ((congrFun xo_2 66).trans rfl) rfl rfl rfl
  have eb24 : b24 = 31 := Option.some.inj (hr_b24.symm.trans ((hO).2 28 (by decide) 2 (by decide)))
  subst eb24
  replace h := tx_iload (p' := 29) h em4_27 rfl rfl
  obtain ⟨hb29, h⟩ := tx_iald (len := 40) (p' := 30) h em4_29 rfl rfl
  replace hb29 : (0 : Int) ≤ ((hh0 * (8 : Int32)) + l).toInt ∧ ((hh0 * (8 : Int32)) + l).toInt < 40 := hb29
  replace h : eT xq_4 _ 30 [some (.inr (.inl (some 48))), some (.inr (.inl (some 28))), some (.inl hh0), some (.inl l), some (.inl ((hh0 * (8 : Int32)) + l))] [.inl (μ.1 31 ((hh0 * (8 : Int32)) + l).toInt.toNat), .inl (3 : Int32), .inr (.inl (some 49))] (xpi μ 49 2 (μ.1 28 7)) r μ' := h
  obtain ⟨hb30, h⟩ := tx_iast (len := 9) (p' := 31) h em4_30 rfl rfl
  replace hb30 : (0 : Int) ≤ 3 ∧ (3 : Int) < 9 := hb30
  replace h := tx_aload_n (p' := 32) h em4_31 rfl rfl
  replace h := tx_getc (c := 1) (j := 1) (p' := 35) h em4_32 ((congrFun xo_2 11).trans rfl) rfl rfl rfl
  replace h := tx_iconst (v := 4) (p' := 36) h em4_35 (by decide +kernel) rfl
  replace h := tx_aload_n (p' := 37) h em4_36 rfl rfl
  obtain ⟨b37, hk_b37, hr_b37, h⟩ := tx_getk (c := 8) (j := 0) (p' := 40) h em4_37 ((congrFun xo_2 69).trans rfl) rfl rfl rfl
  have eb37 : b37 = 29 := Option.some.inj (hr_b37.symm.trans ((hO).2 28 (by decide) 0 (by decide)))
  subst eb37
  replace h := tx_iload (p' := 42) h em4_40 rfl rfl
  obtain ⟨hb42, h⟩ := tx_iald (len := 40) (p' := 43) h em4_42 rfl rfl
  replace hb42 : (0 : Int) ≤ ((hh0 * (8 : Int32)) + l).toInt ∧ ((hh0 * (8 : Int32)) + l).toInt < 40 := hb42
  replace h : eT xq_4 _ 43 [some (.inr (.inl (some 48))), some (.inr (.inl (some 28))), some (.inl hh0), some (.inl l), some (.inl ((hh0 * (8 : Int32)) + l))] [.inl (μ.1 29 ((hh0 * (8 : Int32)) + l).toInt.toNat), .inl (4 : Int32), .inr (.inl (some 49))] (xpi (xpi μ 49 2 (μ.1 28 7)) 49 3 (μ.1 31 ((hh0 * (8 : Int32)) + l).toInt.toNat)) r μ' := h
  obtain ⟨hb43, h⟩ := tx_iast (len := 9) (p' := 44) h em4_43 rfl rfl
  replace hb43 : (0 : Int) ≤ 4 ∧ (4 : Int) < 9 := hb43
  replace h := tx_aload_n (p' := 45) h em4_44 rfl rfl
  replace h := tx_getc (c := 1) (j := 1) (p' := 48) h em4_45 ((congrFun xo_2 11).trans rfl) rfl rfl rfl
  replace h := tx_iconst (v := 5) (p' := 49) h em4_48 (by decide +kernel) rfl
  replace h := tx_iload_n (p' := 50) h em4_49 rfl rfl
  obtain ⟨hb50, h⟩ := tx_iast (len := 9) (p' := 51) h em4_50 rfl rfl
  replace hb50 : (0 : Int) ≤ 5 ∧ (5 : Int) < 9 := hb50
  replace h := tx_aload_n (p' := 52) h em4_51 rfl rfl
  replace h := tx_getc (c := 1) (j := 1) (p' := 55) h em4_52 ((congrFun xo_2 11).trans rfl) rfl rfl rfl
  replace h := tx_bipush (v := 6) (p' := 57) h em4_55 (by decide +kernel) rfl
  replace h := tx_iload_n (p' := 58) h em4_57 rfl rfl
  obtain ⟨hb58, h⟩ := tx_iast (len := 9) (p' := 59) h em4_58 rfl rfl
  replace hb58 : (0 : Int) ≤ 6 ∧ (6 : Int) < 9 := hb58
  replace h := tx_aload_n (p' := 60) h em4_59 rfl rfl
  replace h := tx_getc (c := 1) (j := 1) (p' := 63) h em4_60 ((congrFun xo_2 11).trans rfl) rfl rfl rfl
  replace h := tx_bipush (v := 8) (p' := 65) h em4_63 (by decide +kernel) rfl
  replace h := tx_aload_n (p' := 66) h em4_65 rfl rfl
  replace h := tx_iload_n (p' := 67) h em4_66 rfl rfl
  replace h := tx_iload_n (p' := 68) h em4_67 rfl rfl
  obtain ⟨r68, μ68, hE68, h⟩ := tx_invV (na := 3) (mn := 53) (as := [.inr (.inl (some 28)), .inl hh0, .inl l]) (rest := [.inl (8 : Int32), .inr (.inl (some 49))]) (p' := 71) h em4_68 ((congrFun xo_2 72).trans rfl) xm_53 rfl rfl
  obtain ⟨rfl, hmb⟩ := ex_lentBy_28 hE68 (hOK_2 rfl hO) hh hh4 hl hl7
  rw [hmb] at h
  replace h : eT xq_4 _ 71 [some (.inr (.inl (some 48))), some (.inr (.inl (some 28))), some (.inl hh0), some (.inl l), some (.inl ((hh0 * (8 : Int32)) + l))] [.inl (s5 (fun o => ((xpi (xpi (xpi (xpi (xpi μ 49 2 (μ.1 28 7)) 49 3 (μ.1 31 ((hh0 * (8 : Int32)) + l).toInt.toNat)) 49 4 (μ.1 29 ((hh0 * (8 : Int32)) + l).toInt.toNat)) 49 5 hh0) 49 6 l)).1 32 (40 * hn + 8 * o + ln)) 5), .inl (8 : Int32), .inr (.inl (some 49))] (xpi (xpi (xpi (xpi (xpi μ 49 2 (μ.1 28 7)) 49 3 (μ.1 31 ((hh0 * (8 : Int32)) + l).toInt.toNat)) 49 4 (μ.1 29 ((hh0 * (8 : Int32)) + l).toInt.toNat)) 49 5 hh0) 49 6 l) r μ' := h
  obtain ⟨hb71, h⟩ := tx_iast (len := 9) (p' := 72) h em4_71 rfl rfl
  replace hb71 : (0 : Int) ≤ 8 ∧ (8 : Int) < 9 := hb71
  obtain ⟨rfl, hμ⟩ := tx_return h em4_72
  have e8i : (8 : Int32).toInt = 8 := by decide
  have m1 : (hh0 * (8 : Int32)).toInt = 8 * (hn : Int) := by rw [an_mul (by rw [e8i]; omega) (by rw [e8i]; omega), e8i, hh]; omega
  have m2 : (hh0 * (8 : Int32) + l).toInt = 8 * (hn : Int) + ln := by rw [an_add (by rw [m1]; omega) (by rw [m1]; omega), m1, hl]
  have m3 : (hh0 * (8 : Int32) + l).toInt.toNat = 8 * hn + ln := by omega
  rw [m3] at hμ
  rw [hμ]
  refine ⟨rfl, gJ_i (gJ_i (gJ_i (gJ_i (gJ_i (gJ_i gJ_rf))))), fun j hj => ?_⟩
  rcases le9 hj with rfl | rfl | rfl | rfl | rfl | rfl | rfl | rfl | rfl
  · rfl
  · rfl
  · rfl
  · rfl
  · rfl
  · exact ofN hh
  · exact ofN hl
  · rfl
  · exact s5_cg 5 (fun o _ => by
      show (xpi _ _ _ _).1 32 _ = _
      rw [xpi_ne (fun q => absurd q.1 (by decide)), xpi_ne (fun q => absurd q.1 (by decide)), xpi_ne (fun q => absurd q.1 (by decide)), xpi_ne (fun q => absurd q.1 (by decide)), xpi_ne (fun q => absurd q.1 (by decide))])
/-- the numbers of the town at cell c are the row's -/
def twA (c : Nat) (ρ : Nat → Int32) (μ : xM) : Prop := (∀ j, j < 40 → μ.1 (c + 1) j = ρ j ∧ μ.1 (c + 2) j = ρ (40 + j) ∧ μ.1 (c + 3) j = ρ (80 + j)) ∧ (∀ j, j < 200 → μ.1 (c + 4) j = ρ (120 + j)) ∧ μ.1 c 7 = ρ 386 ∧ μ.1 c 8 = ρ 387 ∧ μ.1 c 9 = ρ 388
theorem twA_J {c : Nat} {ρ : Nat → Int32} {μ ν : xM} (h : twA c ρ μ) (e : gJ μ ν) (hc : c + 4 < 49 ∨ 50 < c) : twA c ρ ν := by
  obtain ⟨a, b, d1, d2, d3⟩ := h
  refine ⟨fun j hj => ?_, fun j hj => ?_, ?_, ?_, ?_⟩
  · rw [e.1 (c + 1) j (by omega) (by omega), e.1 (c + 2) j (by omega) (by omega), e.1 (c + 3) j (by omega) (by omega)]; exact a j hj
  · rw [e.1 (c + 4) j (by omega) (by omega)]; exact b j hj
  · rw [e.1 c 7 (by omega) (by omega)]; exact d1
  · rw [e.1 c 8 (by omega) (by omega)]; exact d2
  · rw [e.1 c 9 (by omega) (by omega)]; exact d3
theorem twA_s5 {c : Nat} {ρ : Nat → Int32} {μ : xM} (h : twA c ρ μ) {hn ln : Nat} (hh : hn ≤ 4) (hl : ln ≤ 7) : s5 (fun o => μ.1 (c + 4) (40 * hn + 8 * o + ln)) 5 = pLent ρ hn ln := s5_cg 5 (fun o ho => by
  show μ.1 (c + 4) _ = ρ _
  rw [h.2.1 _ (by omega), show 120 + (40 * hn + 8 * o + ln) = 120 + 40 * hn + 8 * o + ln by omega])
set_option maxRecDepth 10000 in
set_option maxHeartbeats 4000000 in
theorem ex_cleave_28 {hh0 l v : Int32} {hn ln vn : Nat} {S : kSt} {ρ : Nat → Int32} {μ μ' : xM} {r : Option zV} (h0 : Ex gx xq_2 [.inr (.inl (some 48)), .inr (.inl (some 28)), .inl hh0, .inl l, .inl v] μ r μ') (hO : hOK μ) (hS : cS9 S μ) (hT : twA 28 ρ μ) (hh : hh0.toInt = (hn : Int)) (hh4 : hn ≤ 4) (hl : l.toInt = (ln : Int)) (hl7 : ln ≤ 7) (hv : v.toInt = (vn : Int)) (hvn : vn < S.2.1.length) : gJ μ μ' ∧ ((r = some (.inl 1) ∧ pLv S ρ hn ln vn) ∨ (r = some (.inl 0) ∧ ¬ pLv S ρ hn ln vn)) := by
  obtain ⟨n, h⟩ := tx_in (L := [some (.inr (.inl (some 48))), some (.inr (.inl (some 28))), some (.inl hh0), some (.inl l), some (.inl v)]) h0 rfl
  replace h := tx_aload_n (p' := 1) h em2_0 rfl rfl
  replace h := tx_iload (p' := 3) h em2_1 rfl rfl
  obtain ⟨r3, μ3, hE3, h⟩ := tx_invV (na := 2) (mn := 5) (as := [.inr (.inl (some 48)), .inl v]) (rest := []) (p' := 6) h em2_3 ((congrFun xo_2 22).trans rfl) xm_5 rfl rfl
  obtain ⟨rfl, g1, w0, w1, w7, -⟩ := ex_lookV hE3 hS hv hvn
  replace h : eT xq_2 _ 6 [some (.inr (.inl (some 48))), some (.inr (.inl (some 28))), some (.inl hh0), some (.inl l), some (.inl v)] [] μ3 r μ' := h
  replace h := tx_aload_n (p' := 7) h em2_6 rfl rfl
  replace h := tx_aload_n (p' := 8) h em2_7 rfl rfl
  replace h := tx_iload_n (p' := 9) h em2_8 rfl rfl
  replace h := tx_iload_n (p' := 10) h em2_9 rfl rfl
  obtain ⟨r10, μ10, hE10, h⟩ := tx_invV (na := 4) (mn := 4) (as := [.inr (.inl (some 48)), .inr (.inl (some 28)), .inl hh0, .inl l]) (rest := []) (p' := 13) h em2_10 ((congrFun xo_2 26).trans rfl) xm_4 rfl rfl
  have hO1 := hOK_2 g1.2 hO
  have hT1 := twA_J hT g1 (by decide)
  obtain ⟨rfl, g2, w9⟩ := ex_lookH_28 hE10 hO1 hh hh4 hl hl7
  replace h : eT xq_2 _ 13 [some (.inr (.inl (some 48))), some (.inr (.inl (some 28))), some (.inl hh0), some (.inl l), some (.inl v)] [] μ10 r μ' := h
  replace h := tx_aload_n (p' := 14) h em2_13 rfl rfl
  replace h := tx_iconst (v := 0) (p' := 15) h em2_14 (by decide +kernel) rfl
  obtain ⟨r15, μ15, hE15, h⟩ := tx_invV (na := 2) (mn := 3) (as := [.inr (.inl (some 48)), .inl (0 : Int32)]) (rest := []) (p' := 18) h em2_15 ((congrFun xo_2 32).trans rfl) xm_3 rfl rfl
  have g3 := gJ_tr g1 g2
  obtain ⟨rfl, g4⟩ := ex_cjudge (k := 0) hE15 (cS9_J hS g3) (by decide) (by decide)
  have g5 := gJ_tr g3 g4
  have hj : pJ S.2.2.2 0 (fun i => μ10.1 49 i) = pJ S.2.2.2 0 (pVh S ρ hn ln vn) := pJ_cg (fun i hi => ?_) (hS.2.1 0)
  rotate_left
  · show μ10.1 49 i = pVh S ρ hn ln vn i
    rw [w9 i hi, w0, w1, w7, twA_s5 hT1 hh4 hl7, hT1.2.2.1]
    unfold pVh
    rw [(hT1.1 (8 * hn + ln) (by omega)).2.2, (hT1.1 (8 * hn + ln) (by omega)).1]
  rw [hj] at h
  replace h : eT xq_2 _ 18 [some (.inr (.inl (some 48))), some (.inr (.inl (some 28))), some (.inl hh0), some (.inl l), some (.inl v)] [.inl (pJ S.2.2.2 0 (pVh S ρ hn ln vn))] μ15 r μ' := h
  rcases tx_if (t := 25) (p' := 21) h em2_18 (by decide) rfl with ⟨c18, h⟩ | ⟨c18, h⟩
  · replace c18 : (pJ S.2.2.2 0 (pVh S ρ hn ln vn)).toInt ≤ 0 := c18
    replace h := tx_iconst (v := 0) (p' := 26) h em2_25 (by decide +kernel) rfl
    obtain ⟨rfl, hμ⟩ := tx_ireturn h em2_26
    rw [hμ]
    exact ⟨g5, Or.inr ⟨rfl, by unfold pLv; omega⟩⟩
  · replace c18 : ¬ (pJ S.2.2.2 0 (pVh S ρ hn ln vn)).toInt ≤ 0 := c18
    replace h := tx_iconst (v := 1) (p' := 22) h em2_21 (by decide +kernel) rfl
    replace h := tx_goto (t := 26) h em2_22 (by decide)
    obtain ⟨rfl, hμ⟩ := tx_ireturn h em2_26
    rw [hμ]
    exact ⟨g5, Or.inl ⟨rfl, by unfold pLv; omega⟩⟩
set_option maxRecDepth 10000 in
set_option maxHeartbeats 4000000 in
theorem ex_crank_28 {hh0 l v : Int32} {hn ln vn : Nat} {S : kSt} {ρ : Nat → Int32} {μ μ' : xM} {r : Option zV} (h0 : Ex gx xq_7 [.inr (.inl (some 48)), .inr (.inl (some 28)), .inl hh0, .inl l, .inl v] μ r μ') (hO : hOK μ) (hS : cS9 S μ) (hT : twA 28 ρ μ) (hh : hh0.toInt = (hn : Int)) (hh4 : hn ≤ 4) (hl : l.toInt = (ln : Int)) (hl7 : ln ≤ 7) (hv : v.toInt = (vn : Int)) (hvn : vn < S.2.1.length) : gJ μ μ' ∧ r = some (.inl (pRk S ρ hn ln vn)) := by
  obtain ⟨n, h⟩ := tx_in (L := [some (.inr (.inl (some 48))), some (.inr (.inl (some 28))), some (.inl hh0), some (.inl l), some (.inl v)]) h0 rfl
  replace h := tx_aload_n (p' := 1) h em7_0 rfl rfl
  replace h := tx_iload (p' := 3) h em7_1 rfl rfl
  obtain ⟨r3, μ3, hE3, h⟩ := tx_invV (na := 2) (mn := 5) (as := [.inr (.inl (some 48)), .inl v]) (rest := []) (p' := 6) h em7_3 ((congrFun xo_2 22).trans rfl) xm_5 rfl rfl
  obtain ⟨rfl, g1, w0, w1, w7, -⟩ := ex_lookV hE3 hS hv hvn
  replace h : eT xq_7 _ 6 [some (.inr (.inl (some 48))), some (.inr (.inl (some 28))), some (.inl hh0), some (.inl l), some (.inl v)] [] μ3 r μ' := h
  replace h := tx_aload_n (p' := 7) h em7_6 rfl rfl
  replace h := tx_aload_n (p' := 8) h em7_7 rfl rfl
  replace h := tx_iload_n (p' := 9) h em7_8 rfl rfl
  replace h := tx_iload_n (p' := 10) h em7_9 rfl rfl
  obtain ⟨r10, μ10, hE10, h⟩ := tx_invV (na := 4) (mn := 4) (as := [.inr (.inl (some 48)), .inr (.inl (some 28)), .inl hh0, .inl l]) (rest := []) (p' := 13) h em7_10 ((congrFun xo_2 26).trans rfl) xm_4 rfl rfl
  have hO1 := hOK_2 g1.2 hO
  have hT1 := twA_J hT g1 (by decide)
  obtain ⟨rfl, g2, w9⟩ := ex_lookH_28 hE10 hO1 hh hh4 hl hl7
  replace h : eT xq_7 _ 13 [some (.inr (.inl (some 48))), some (.inr (.inl (some 28))), some (.inl hh0), some (.inl l), some (.inl v)] [] μ10 r μ' := h
  replace h := tx_aload_n (p' := 14) h em7_13 rfl rfl
  replace h := tx_iconst (v := 1) (p' := 15) h em7_14 (by decide +kernel) rfl
  obtain ⟨r15, μ15, hE15, h⟩ := tx_invV (na := 2) (mn := 3) (as := [.inr (.inl (some 48)), .inl (1 : Int32)]) (rest := []) (p' := 18) h em7_15 ((congrFun xo_2 32).trans rfl) xm_3 rfl rfl
  have g3 := gJ_tr g1 g2
  obtain ⟨rfl, g4⟩ := ex_cjudge (k := 1) hE15 (cS9_J hS g3) (by decide) (by decide)
  have g5 := gJ_tr g3 g4
  have hj : pJ S.2.2.2 1 (fun i => μ10.1 49 i) = pJ S.2.2.2 1 (pVh S ρ hn ln vn) := pJ_cg (fun i hi => ?_) (hS.2.1 1)
  rotate_left
  · show μ10.1 49 i = pVh S ρ hn ln vn i
    rw [w9 i hi, w0, w1, w7, twA_s5 hT1 hh4 hl7, hT1.2.2.1]
    unfold pVh
    rw [(hT1.1 (8 * hn + ln) (by omega)).2.2, (hT1.1 (8 * hn + ln) (by omega)).1]
  rw [hj] at h
  replace h : eT xq_7 _ 18 [some (.inr (.inl (some 48))), some (.inr (.inl (some 28))), some (.inl hh0), some (.inl l), some (.inl v)] [.inl (pJ S.2.2.2 1 (pVh S ρ hn ln vn))] μ15 r μ' := h
  obtain ⟨rfl, hμ⟩ := tx_ireturn h em7_18
  rw [hμ]
  exact ⟨g5, rfl⟩
set_option maxRecDepth 10000 in
set_option maxHeartbeats 4000000 in
theorem ex_cwears_28 {hh0 l : Int32} {hn ln : Nat} {S : kSt} {ρ : Nat → Int32} {μ μ' : xM} {r : Option zV} (h0 : Ex gx xq_8 [.inr (.inl (some 48)), .inr (.inl (some 28)), .inl hh0, .inl l] μ r μ') (hO : hOK μ) (hS : cS9 S μ) (hT : twA 28 ρ μ) (hh : hh0.toInt = (hn : Int)) (hh4 : hn ≤ 4) (hl : l.toInt = (ln : Int)) (hl7 : ln ≤ 7) : gJ μ μ' ∧ r = some (.inl (pWr S ρ hn ln)) := by
  obtain ⟨n, h⟩ := tx_in (L := [some (.inr (.inl (some 48))), some (.inr (.inl (some 28))), some (.inl hh0), some (.inl l)]) h0 rfl
  replace h := tx_aload_n (p' := 1) h em8_0 rfl rfl
  replace h := tx_getc (c := 1) (j := 1) (p' := 4) h em8_1 ((congrFun xo_2 11).trans rfl) rfl rfl rfl
  replace h := tx_iconst (v := 0) (p' := 5) h em8_4 (by decide +kernel) rfl
  obtain ⟨r5, μ5, hE5, h⟩ := tx_invS (na := 2) (mn := 207) (as := [.inr (.inl (some 49)), .inl (0 : Int32)]) (rest := []) (p' := 8) h em8_5 ((congrFun xo_2 36).trans rfl) xm_207 rfl rfl
  obtain ⟨rfl, g1, w8⟩ := fill_49 hE5
  replace h : eT xq_8 _ 8 [some (.inr (.inl (some 48))), some (.inr (.inl (some 28))), some (.inl hh0), some (.inl l)] [] μ5 r μ' := h
  replace h := tx_aload_n (p' := 9) h em8_8 rfl rfl
  replace h := tx_aload_n (p' := 10) h em8_9 rfl rfl
  replace h := tx_iload_n (p' := 11) h em8_10 rfl rfl
  replace h := tx_iload_n (p' := 12) h em8_11 rfl rfl
  obtain ⟨r12, μ12, hE12, h⟩ := tx_invV (na := 4) (mn := 4) (as := [.inr (.inl (some 48)), .inr (.inl (some 28)), .inl hh0, .inl l]) (rest := []) (p' := 15) h em8_12 ((congrFun xo_2 26).trans rfl) xm_4 rfl rfl
  have hO1 := hOK_2 g1.2 hO
  have hT1 := twA_J hT g1 (by decide)
  obtain ⟨rfl, g2, w9⟩ := ex_lookH_28 hE12 hO1 hh hh4 hl hl7
  replace h : eT xq_8 _ 15 [some (.inr (.inl (some 48))), some (.inr (.inl (some 28))), some (.inl hh0), some (.inl l)] [] μ12 r μ' := h
  replace h := tx_iconst (v := 0) (p' := 16) h em8_15 (by decide +kernel) rfl
  replace h := tx_bipush (v := 9) (p' := 18) h em8_16 (by decide +kernel) rfl
  replace h := tx_aload_n (p' := 19) h em8_18 rfl rfl
  replace h := tx_iconst (v := 2) (p' := 20) h em8_19 (by decide +kernel) rfl
  obtain ⟨r20, μ20, hE20, h⟩ := tx_invV (na := 2) (mn := 3) (as := [.inr (.inl (some 48)), .inl (2 : Int32)]) (rest := [.inl (9 : Int32), .inl (0 : Int32)]) (p' := 23) h em8_20 ((congrFun xo_2 32).trans rfl) xm_3 rfl rfl
  have g3 := gJ_tr g1 g2
  obtain ⟨rfl, g4⟩ := ex_cjudge (k := 2) hE20 (cS9_J hS g3) (by decide) (by decide)
  have g5 := gJ_tr g3 g4
  have hj : pJ S.2.2.2 2 (fun i => μ12.1 49 i) = pJ S.2.2.2 2 (pVw ρ hn ln) := pJ_cg (fun i hi => ?_) (hS.2.1 2)
  rotate_left
  · show μ12.1 49 i = pVw ρ hn ln i
    rw [w9 i hi, w8 0 (by decide), w8 1 (by decide), w8 7 (by decide), twA_s5 hT1 hh4 hl7, hT1.2.2.1]
    unfold pVw
    rw [(hT1.1 (8 * hn + ln) (by omega)).2.2, (hT1.1 (8 * hn + ln) (by omega)).1]
  rw [hj] at h
  replace h : eT xq_8 _ 23 [some (.inr (.inl (some 48))), some (.inr (.inl (some 28))), some (.inl hh0), some (.inl l)] [.inl (pJ S.2.2.2 2 (pVw ρ hn ln)), .inl (9 : Int32), .inl (0 : Int32)] μ20 r μ' := h
  replace h := tx_min (p' := 26) h em8_23 ((congrFun xo_2 42).trans rfl) rfl
  replace h := tx_max (p' := 29) h em8_26 ((congrFun xo_2 48).trans rfl) rfl
  obtain ⟨rfl, hμ⟩ := tx_ireturn h em8_29
  rw [hμ]
  refine ⟨g5, ?_⟩
  unfold pWr
  rw [← pHd_c (by decide)]
set_option maxRecDepth 10000 in
set_option maxHeartbeats 4000000 in
theorem ex_cpays {v d : Int32} {vn : Nat} {S : kSt} {μ μ' : xM} {r : Option zV} (h0 : Ex gx xq_6 [.inr (.inl (some 48)), .inl v, .inl d] μ r μ') (hS : cS9 S μ) (hv : v.toInt = (vn : Int)) (hvn : vn < S.2.1.length) : gJ μ μ' ∧ r = some (.inl (pPy S d vn)) := by
  obtain ⟨n, h⟩ := tx_in (L := [some (.inr (.inl (some 48))), some (.inl v), some (.inl d)]) h0 rfl
  replace h := tx_aload_n (p' := 1) h em6_0 rfl rfl
  replace h := tx_getc (c := 1) (j := 1) (p' := 4) h em6_1 ((congrFun xo_2 11).trans rfl) rfl rfl rfl
  replace h := tx_iconst (v := 0) (p' := 5) h em6_4 (by decide +kernel) rfl
  obtain ⟨r5, μ5, hE5, h⟩ := tx_invS (na := 2) (mn := 207) (as := [.inr (.inl (some 49)), .inl (0 : Int32)]) (rest := []) (p' := 8) h em6_5 ((congrFun xo_2 36).trans rfl) xm_207 rfl rfl
  obtain ⟨rfl, g1, w8⟩ := fill_49 hE5
  replace h : eT xq_6 _ 8 [some (.inr (.inl (some 48))), some (.inl v), some (.inl d)] [] μ5 r μ' := h
  replace h := tx_aload_n (p' := 9) h em6_8 rfl rfl
  replace h := tx_iload_n (p' := 10) h em6_9 rfl rfl
  obtain ⟨r10, μ10, hE10, h⟩ := tx_invV (na := 2) (mn := 5) (as := [.inr (.inl (some 48)), .inl v]) (rest := []) (p' := 13) h em6_10 ((congrFun xo_2 22).trans rfl) xm_5 rfl rfl
  have hS1 := cS9_J hS g1
  obtain ⟨rfl, g2, w0, w1, w7, w9⟩ := ex_lookV hE10 hS1 hv hvn
  replace h : eT xq_6 _ 13 [some (.inr (.inl (some 48))), some (.inl v), some (.inl d)] [] μ10 r μ' := h
  replace h := tx_aload_n (p' := 14) h em6_13 rfl rfl
  replace h := tx_getc (c := 1) (j := 1) (p' := 17) h em6_14 ((congrFun xo_2 11).trans rfl) rfl rfl rfl
  replace h := tx_iconst (v := 2) (p' := 18) h em6_17 (by decide +kernel) rfl
  replace h := tx_iload_n (p' := 19) h em6_18 rfl rfl
  obtain ⟨hb19, h⟩ := tx_iast (len := 9) (p' := 20) h em6_19 rfl rfl
  replace hb19 : (0 : Int) ≤ 2 ∧ (2 : Int) < 9 := hb19
  replace h := tx_iconst (v := 0) (p' := 21) h em6_20 (by decide +kernel) rfl
  replace h := tx_bipush (v := 99) (p' := 23) h em6_21 (by decide +kernel) rfl
  replace h := tx_aload_n (p' := 24) h em6_23 rfl rfl
  replace h := tx_iconst (v := 3) (p' := 25) h em6_24 (by decide +kernel) rfl
  obtain ⟨r25, μ25, hE25, h⟩ := tx_invV (na := 2) (mn := 3) (as := [.inr (.inl (some 48)), .inl (3 : Int32)]) (rest := [.inl (99 : Int32), .inl (0 : Int32)]) (p' := 28) h em6_25 ((congrFun xo_2 32).trans rfl) xm_3 rfl rfl
  have g3 : gJ μ (xpi μ10 49 2 d) := gJ_i (gJ_tr g1 g2)
  obtain ⟨rfl, g4⟩ := ex_cjudge (k := 3) hE25 (cS9_J hS g3) (by decide) (by decide)
  have g5 := gJ_tr g3 g4
  have hj : pJ S.2.2.2 3 (fun i => ((xpi μ10 49 (2 : Int32).toInt.toNat d)).1 49 i) = pJ S.2.2.2 3 (pVp S d vn) := pJ_cg (fun i hi => ?_) (hS.2.1 3)
  rotate_left
  · show ((xpi μ10 49 2 d)).1 49 i = pVp S d vn i
    rcases le9 hi with rfl | rfl | rfl | rfl | rfl | rfl | rfl | rfl | rfl
    · rw [xpi_ne (by decide), w0]; rfl
    · rw [xpi_ne (by decide), w1]; rfl
    · rw [xpi_at]; rfl
    · rw [xpi_ne (by decide), w9 3 (by decide) (by decide) (by decide), w8 3 (by decide)]; rfl
    · rw [xpi_ne (by decide), w9 4 (by decide) (by decide) (by decide), w8 4 (by decide)]; rfl
    · rw [xpi_ne (by decide), w9 5 (by decide) (by decide) (by decide), w8 5 (by decide)]; rfl
    · rw [xpi_ne (by decide), w9 6 (by decide) (by decide) (by decide), w8 6 (by decide)]; rfl
    · rw [xpi_ne (by decide), w7]; rfl
    · rw [xpi_ne (by decide), w9 8 (by decide) (by decide) (by decide), w8 8 (by decide)]; rfl
  rw [hj] at h
  replace h : eT xq_6 _ 28 [some (.inr (.inl (some 48))), some (.inl v), some (.inl d)] [.inl (pJ S.2.2.2 3 (pVp S d vn)), .inl (99 : Int32), .inl (0 : Int32)] μ25 r μ' := h
  replace h := tx_min (p' := 31) h em6_28 ((congrFun xo_2 42).trans rfl) rfl
  replace h := tx_max (p' := 34) h em6_31 ((congrFun xo_2 48).trans rfl) rfl
  obtain ⟨rfl, hμ⟩ := tx_ireturn h em6_34
  rw [hμ]
  refine ⟨g5, ?_⟩
  unfold pPy
  rw [← pHd_c (by decide)]
