/-! ===== the reference's laws at a house, a letter, a verse ===== -/
def gM (μ μ' : xM) : Prop := (∀ k j, k ≠ 105 → k ≠ 106 → ¬ (k = 75 ∧ j = 58) → μ'.1 k j = μ.1 k j) ∧ μ'.2 = μ.2
theorem gM_rf {μ : xM} : gM μ μ := ⟨fun _ _ _ _ _ => rfl, rfl⟩
theorem gM_tr {μ ν ω : xM} (h1 : gM μ ν) (h2 : gM ν ω) : gM μ ω := ⟨fun k j a b c => (h2.1 k j a b c).trans (h1.1 k j a b c), h2.2.trans h1.2⟩
theorem gM_i {μ ν : xM} {j : Nat} {v : Int32} (h : gM μ ν) : gM μ (xpi ν 105 j v) := ⟨fun k i a b c => (xpi_ne (fun q => a q.1)).trans (h.1 k i a b c), h.2⟩
theorem gM_9 {μ ν : xM} (h : pE9 μ ν) : gM μ ν := ⟨fun k j _ b c => h.1 k j b c, h.2⟩
theorem gM_c {μ ν : xM} (h : gM μ ν) {k j : Nat} (a : k ≠ 105) (b : k ≠ 106) (c : k ≠ 75) : ν.1 k j = μ.1 k j := h.1 k j a b (fun q => c q.1)
def zS9 (S : kSt) : Prop := kWf S ∧ (∀ k, oLw (lwOf S.2.2.2 k)) ∧ ∀ k, k < 4 → kOkL (lwOf S.2.2.2 k)
/-- the reference's live side is s, and it is S -/
def rS9 (S : kSt) (s : Nat) (μ : xM) : Prop := zS9 S ∧ (s ≤ 1 ∧ (μ.1 75 2).toInt = (s : Int)) ∧ sM s S μ ∧ rLC s (420 * s + 420) (130 * s + 130) S.2.2.2 μ
theorem rS9_cg {S : kSt} {s : Nat} {μ ν : xM} (h : rS9 S s μ) (e : ∀ k j, 84 ≤ k → k ≤ 102 → ν.1 k j = μ.1 k j) (e2 : ν.1 75 2 = μ.1 75 2) : rS9 S s ν := ⟨h.1, ⟨h.2.1.1, by rw [e2]; exact h.2.1.2⟩, sM_cg (fun k j a b => e k j a (by omega)) h.2.2.1, rLC_e h.2.2.2 (fun k j a b => e k j (by omega) b) (Int.le_refl _) (Int.le_refl _)⟩
theorem rS9_M {S : kSt} {s : Nat} {μ ν : xM} (h : rS9 S s μ) (e : gM μ ν) : rS9 S s ν := rS9_cg h (fun k j a b => gM_c e (by omega) (by omega) (by omega)) (e.1 75 2 (by decide) (by decide) (fun q => absurd q.2 (by decide)))
theorem rS9_v {S : kSt} {s : Nat} {μ : xM} (h : rS9 S s μ) {v : Nat} (hv : v < S.2.1.length) : μ.1 89 (7 * s + v) = vVa S v ∧ μ.1 90 (7 * s + v) = vDu S v ∧ μ.1 87 (7 * s + v) = vLo S v ∧ ∀ i : Nat, i < (kV S v).1.length → (μ.1 88 (8 * (7 * s + v) + i)).toInt = (kV S v).1.getD i 0 := by
  obtain ⟨d1, d2, d3, d4⟩ := h.2.2.1.2.2 v hv
  unfold vVa vDu vLo
  rw [← d1, ← d3, ← d4, Int32.ofInt_toInt, Int32.ofInt_toInt, Int32.ofInt_toInt]
  exact ⟨rfl, rfl, rfl, d2⟩
/-- what is told where no law is -/
def pPl (k : Nat) (V : kVr) : Int32 := if k = 3 then V 0 else if k = 1 then 0 else 1
theorem pJ_no {F : Nat → Option kLw} {k : Nat} {V : kVr} (h : F k = none) : pJ F k V = pPl k V := by
  have e : lwOf F k = kDef k := by unfold lwOf; rw [h]; rfl
  unfold pJ pPl
  rw [e]
  unfold kDef
  by_cases h3 : k = 3
  · rw [if_pos h3, if_pos h3]; rfl
  · rw [if_neg h3, if_neg h3]
    by_cases h1 : k = 1
    · rw [if_pos h1, if_pos h1]; rfl
    · rw [if_neg h1, if_neg h1]; rfl
abbrev xq_142 : xP := (⟨"CapitalCaseModel", "givesLeave", "(III)Z"⟩, prog_14_method_59_code, 4, (some .boolean))
abbrev xq_179 : xP := (⟨"CapitalCaseModel", "rankOf", "(III)I"⟩, prog_14_method_60_code, 4, (some .int))
abbrev xq_199 : xP := (⟨"CapitalCaseModel", "wearsOf", "(II)I"⟩, prog_14_method_61_code, 3, (some .int))
abbrev xq_175 : xP := (⟨"CapitalCaseModel", "paysOf", "(I)I"⟩, prog_14_method_62_code, 2, (some .int))
abbrev xq_164 : xP := (⟨"CapitalCaseModel", "looks", "()V"⟩, prog_14_method_55_code, 2, none)
abbrev xq_165 : xP := (⟨"CapitalCaseModel", "looksAt", "(II)V"⟩, prog_14_method_56_code, 3, none)
abbrev xq_166 : xP := (⟨"CapitalCaseModel", "looksFor", "(I)V"⟩, prog_14_method_57_code, 2, none)
abbrev xq_161 : xP := (⟨"CapitalCaseModel", "lentOut", "(II)I"⟩, prog_14_method_52_code, 5, (some .int))
abbrev xq_145 : xP := (⟨"CapitalCaseModel", "held", "(III)I"⟩, prog_14_method_41_code, 3, (some .int))
set_option maxRecDepth 10000 in
set_option maxHeartbeats 4000000 in
theorem ex_mtells {l pl : Int32} {S : kSt} {s k : Nat} {μ μ' : xM} {r : Option zV} (h0 : Ex gx xq_159 [.inr (.inl (some 75)), .inl l, .inl pl] μ r μ') (hS : rS9 S s μ) (hl : l.toInt = (k : Int)) (hk : k < 4) (hp : pl = pPl k (fun i => μ.1 105 i)) : gM μ μ' ∧ r = some (.inl (pJ S.2.2.2 k (fun i => μ.1 105 i))) := by
  obtain ⟨n, h⟩ := tx_in (L := [some (.inr (.inl (some 75))), some (.inl l), some (.inl pl), none, none, none, none]) h0 rfl
  obtain ⟨g1, g2, g3⟩ := ex_lawTells h0 hl hk hS.2.1.1 hS.2.1.2 (hS.2.2.2 k hk) (fun L e => by
    have e9 : lwOf S.2.2.2 k = L := by unfold lwOf; rw [e]; rfl
    rw [← e9]
    exact ⟨hS.1.2.1 k, hS.1.2.2 k hk⟩)
  refine ⟨gM_9 g1, ?_⟩
  cases hF : S.2.2.2 k with
  | none => rw [g2 hF, pJ_no hF, hp]
  | some L =>
    rw [g3 L hF]
    unfold pJ lwOf
    rw [hF]
    rfl
set_option maxRecDepth 10000 in
set_option maxHeartbeats 4000000 in
theorem ex_held {x lo hi : Int32} {μ μ' : xM} {r : Option zV} (h0 : Ex gx xq_145 [.inl x, .inl lo, .inl hi] μ r μ') : μ' = μ ∧ r = some (.inl (pHd x lo hi)) := by
  obtain ⟨n, h⟩ := tx_in (L := [some (.inl x), some (.inl lo), some (.inl hi)]) h0 rfl
  replace h := tx_iload_n (p' := 1) h em145_0 rfl rfl
  replace h := tx_iload_n (p' := 2) h em145_1 rfl rfl
  rcases tx_icmp (t := 9) (p' := 5) h em145_2 (by decide) rfl with ⟨c2, h⟩ | ⟨c2, h⟩
  · replace c2 : lo.toInt ≤ x.toInt := c2
    replace h := tx_iload_n (p' := 10) h em145_9 rfl rfl
    replace h := tx_iload_n (p' := 11) h em145_10 rfl rfl
    rcases tx_icmp (t := 18) (p' := 14) h em145_11 (by decide) rfl with ⟨c11, h⟩ | ⟨c11, h⟩
    · replace c11 : x.toInt ≤ hi.toInt := c11
      replace h := tx_iload_n (p' := 19) h em145_18 rfl rfl
      obtain ⟨rfl, hμ⟩ := tx_ireturn h em145_19
      refine ⟨hμ, ?_⟩
      unfold pHd
      rw [if_neg (fun q => by have := Int32.lt_iff_toInt_lt.mp q; omega), if_neg (fun q => by have := Int32.lt_iff_toInt_lt.mp q; omega)]
    · replace c11 : ¬ x.toInt ≤ hi.toInt := c11
      replace h := tx_iload_n (p' := 15) h em145_14 rfl rfl
      replace h := tx_goto (t := 19) h em145_15 (by decide)
      obtain ⟨rfl, hμ⟩ := tx_ireturn h em145_19
      refine ⟨hμ, ?_⟩
      unfold pHd
      rw [if_neg (fun q => by have := Int32.lt_iff_toInt_lt.mp q; omega), if_pos (Int32.lt_iff_toInt_lt.mpr (by omega))]
  · replace c2 : ¬ lo.toInt ≤ x.toInt := c2
    replace h := tx_iload_n (p' := 6) h em145_5 rfl rfl
    replace h := tx_goto (t := 19) h em145_6 (by decide)
    obtain ⟨rfl, hμ⟩ := tx_ireturn h em145_19
    refine ⟨hμ, ?_⟩
    unfold pHd
    rw [if_pos (Int32.lt_iff_toInt_lt.mpr (by omega))]
set_option maxRecDepth 10000 in
set_option maxHeartbeats 4000000 in
theorem ex_lentOut {hh0 l : Int32} {hn ln : Nat} {μ μ' : xM} {r : Option zV} (h0 : Ex gx xq_161 [.inr (.inl (some 75)), .inl hh0, .inl l] μ r μ') (hh : hh0.toInt = (hn : Int)) (hh4 : hn ≤ 4) (hl : l.toInt = (ln : Int)) (hl7 : ln ≤ 7) : r = some (.inl (s5 (fun o => μ.1 108 (120 + 40 * hn + 8 * o + ln)) 5)) ∧ μ' = μ := by
  obtain ⟨n, h⟩ := tx_in (L := [some (.inr (.inl (some 75))), some (.inl hh0), some (.inl l), none, none]) h0 rfl
  have e1i : (1 : Int32).toInt = 1 := by decide
  have e40 : (40 : Int32).toInt = 40 := by decide
  have e120 : (120 : Int32).toInt = 120 := by decide
  have e8i : (8 : Int32).toInt = 8 := by decide
  have loop : ∀ (n k : Nat) (n9 i : Int32), eT xq_161 n 5 [some (.inr (.inl (some 75))), some (.inl hh0), some (.inl l), some (.inl n9), some (.inl i)] [] μ r μ' → i.toInt = (k : Int) → k ≤ 5 → n9 = s5 (fun o => μ.1 108 (120 + 40 * hn + 8 * o + ln)) k → r = some (.inl (s5 (fun o => μ.1 108 (120 + 40 * hn + 8 * o + ln)) 5)) ∧ μ' = μ := by
    intro n
    induction n using Nat.strongRecOn with
    | ind n ih =>
    intro k n9 i h hi hk hs9
    replace h := tx_iload (p' := 7) h em161_5 rfl rfl
    replace h := tx_iconst (v := 5) (p' := 8) h em161_7 (by decide +kernel) rfl
    rcases tx_icmp (t := 40) (p' := 11) h em161_8 (by decide) rfl with ⟨c8, h⟩ | ⟨c8, h⟩
    · replace c8 : 5 ≤ i.toInt := c8
      replace h := tx_iload_n (p' := 41) h em161_40 rfl rfl
      obtain ⟨rfl, hμ⟩ := tx_ireturn h em161_41
      rw [hμ, hs9, show k = 5 by omega]
      exact ⟨rfl, rfl⟩
    · replace c8 : ¬ 5 ≤ i.toInt := c8
      replace h := tx_iload_n (p' := 12) h em161_11 rfl rfl
      replace h := tx_aload_n (p' := 13) h em161_12 rfl rfl
      replace h := tx_getc (c := 12) (j := 0) (p' := 16) h em161_13 ((congrFun xo_12 116).trans rfl) rfl rfl rfl
      replace h := tx_bipush (v := 120) (p' := 18) h em161_16 (by decide +kernel) rfl
      replace h := tx_bipush (v := 40) (p' := 20) h em161_18 (by decide +kernel) rfl
      replace h := tx_iload_n (p' := 21) h em161_20 rfl rfl
      replace h := tx_imul (p' := 22) h em161_21 rfl
      replace h := tx_iadd (p' := 23) h em161_22 rfl
      replace h := tx_bipush (v := 8) (p' := 25) h em161_23 (by decide +kernel) rfl
      replace h := tx_iload (p' := 27) h em161_25 rfl rfl
      replace h := tx_imul (p' := 28) h em161_27 rfl
      replace h := tx_iadd (p' := 29) h em161_28 rfl
      replace h := tx_iload_n (p' := 30) h em161_29 rfl rfl
      replace h := tx_iadd (p' := 31) h em161_30 rfl
      obtain ⟨hb31, h⟩ := tx_iald (len := 390) (p' := 32) h em161_31 rfl rfl
      replace hb31 : (0 : Int) ≤ ((((120 : Int32) + ((40 : Int32) * hh0)) + ((8 : Int32) * i)) + l).toInt ∧ ((((120 : Int32) + ((40 : Int32) * hh0)) + ((8 : Int32) * i)) + l).toInt < 390 := hb31
      replace h := tx_iadd (p' := 33) h em161_32 rfl
      replace h := tx_istore_n (p' := 34) h em161_33 rfl
      replace h : eT xq_161 _ 34 [some (.inr (.inl (some 75))), some (.inl hh0), some (.inl l), some (.inl (n9 + (μ.1 108 ((((120 : Int32) + ((40 : Int32) * hh0)) + ((8 : Int32) * i)) + l).toInt.toNat))), some (.inl i)] [] μ r μ' := h
      replace h := tx_iinc (v := 1) (p' := 37) h em161_34 (by decide +kernel) rfl rfl
      replace h : eT xq_161 _ 37 [some (.inr (.inl (some 75))), some (.inl hh0), some (.inl l), some (.inl (n9 + (μ.1 108 ((((120 : Int32) + ((40 : Int32) * hh0)) + ((8 : Int32) * i)) + l).toInt.toNat))), some (.inl (i + 1))] [] μ r μ' := h
      obtain ⟨n2, hn2, h⟩ := tx_gotoS (t := 5) h em161_37 (by decide)
      have ei : (i + 1).toInt = ((k + 1 : Nat) : Int) := by rw [an_add (by rw [e1i]; omega) (by rw [e1i]; omega), e1i]; omega
      have m1 : ((40 : Int32) * hh0).toInt = 40 * (hn : Int) := by rw [an_mul (by rw [e40]; omega) (by rw [e40]; omega), e40, hh]
      have m2 : ((120 : Int32) + ((40 : Int32) * hh0)).toInt = 120 + 40 * (hn : Int) := by rw [an_add (by rw [m1, e120]; omega) (by rw [m1, e120]; omega), m1, e120]
      have m3 : ((8 : Int32) * i).toInt = 8 * (k : Int) := by rw [an_mul (by rw [e8i]; omega) (by rw [e8i]; omega), e8i, hi]
      have m4 : (((120 : Int32) + ((40 : Int32) * hh0)) + ((8 : Int32) * i)).toInt = 120 + 40 * (hn : Int) + 8 * k := by rw [an_add (by rw [m2, m3]; omega) (by rw [m2, m3]; omega), m2, m3]
      have m5 : ((((120 : Int32) + ((40 : Int32) * hh0)) + ((8 : Int32) * i)) + l).toInt = 120 + 40 * (hn : Int) + 8 * k + ln := by rw [an_add (by rw [m4]; omega) (by rw [m4]; omega), m4, hl]
      refine ih n2 hn2 (k + 1) _ _ h ei (by omega) ?_
      show _ = s5 _ k + _
      rw [hs9, show ((((120 : Int32) + ((40 : Int32) * hh0)) + ((8 : Int32) * i)) + l).toInt.toNat = 120 + 40 * hn + 8 * k + ln by omega]
  replace h := tx_iconst (v := 0) (p' := 1) h em161_0 (by decide +kernel) rfl
  replace h := tx_istore_n (p' := 2) h em161_1 rfl
  replace h : eT xq_161 _ 2 [some (.inr (.inl (some 75))), some (.inl hh0), some (.inl l), some (.inl (0 : Int32)), none] [] μ r μ' := h
  replace h := tx_iconst (v := 0) (p' := 3) h em161_2 (by decide +kernel) rfl
  replace h := tx_istore (p' := 5) h em161_3 rfl
  replace h : eT xq_161 _ 5 [some (.inr (.inl (some 75))), some (.inl hh0), some (.inl l), some (.inl (0 : Int32)), some (.inl (0 : Int32))] [] μ r μ' := h
  exact loop _ 0 _ _ h (by decide) (by decide) rfl
set_option maxRecDepth 10000 in
set_option maxHeartbeats 4000000 in
theorem ex_looks {μ μ' : xM} {r : Option zV} (h0 : Ex gx xq_164 [.inr (.inl (some 75))] μ r μ') : r = none ∧ gM μ μ' ∧ ∀ j : Nat, j ≤ 8 → μ'.1 105 j = if j = 2 then μ.1 108 386 else 0 := by
  obtain ⟨n, h⟩ := tx_in (L := [some (.inr (.inl (some 75))), none]) h0 rfl
  have e1i : (1 : Int32).toInt = 1 := by decide
  have loop : ∀ (n : Nat) (i : Int32) (ω : xM), eT xq_164 n 2 [some (.inr (.inl (some 75))), some (.inl i)] [] ω r μ' → 0 ≤ i.toInt → i.toInt ≤ 9 → gM μ ω → (∀ j : Nat, (j : Int) < i.toInt → ω.1 105 j = 0) → r = none ∧ gM μ μ' ∧ ∀ j : Nat, j ≤ 8 → μ'.1 105 j = if j = 2 then μ.1 108 386 else 0 := by
    intro n
    induction n using Nat.strongRecOn with
    | ind n ih =>
    intro i ω h hi0 hi1 hG hF
    replace h := tx_iload_n (p' := 3) h em164_2 rfl rfl
    replace h := tx_bipush (v := 9) (p' := 5) h em164_3 (by decide +kernel) rfl
    rcases tx_icmp (t := 21) (p' := 8) h em164_5 (by decide) rfl with ⟨c5, h⟩ | ⟨c5, h⟩
    · replace c5 : 9 ≤ i.toInt := c5
      replace h := tx_aload_n (p' := 22) h em164_21 rfl rfl
      replace h := tx_getc (c := 12) (j := 56) (p' := 25) h em164_22 ((congrFun xo_12 107).trans rfl) rfl rfl rfl
      replace h := tx_iconst (v := 2) (p' := 26) h em164_25 (by decide +kernel) rfl
      replace h := tx_aload_n (p' := 27) h em164_26 rfl rfl
      replace h := tx_getc (c := 12) (j := 0) (p' := 30) h em164_27 ((congrFun xo_12 116).trans rfl) rfl rfl rfl
      replace h := tx_sipush (v := 386) (p' := 33) h em164_30 (by decide +kernel) rfl
      obtain ⟨hb33, h⟩ := tx_iald (len := 390) (p' := 34) h em164_33 rfl rfl
      replace hb33 : (0 : Int) ≤ 386 ∧ (386 : Int) < 390 := hb33
      replace h : eT xq_164 _ 34 [some (.inr (.inl (some 75))), some (.inl i)] [.inl (ω.1 108 386), .inl (2 : Int32), .inr (.inl (some 105))] ω r μ' := h
      obtain ⟨hb34, h⟩ := tx_iast (len := 9) (p' := 35) h em164_34 rfl rfl
      replace hb34 : (0 : Int) ≤ 2 ∧ (2 : Int) < 9 := hb34
      obtain ⟨rfl, hμ⟩ := tx_return h em164_35
      replace hμ : μ' = (xpi ω 105 2 (ω.1 108 386)) := hμ
      rw [hμ]
      refine ⟨rfl, gM_i hG, fun j hj => ?_⟩
      by_cases q : j = 2
      · rw [if_pos q, q, xpi_at]
        exact gM_c hG (by decide) (by decide) (by decide)
      · rw [if_neg q, xpi_ne (fun z => q z.2)]
        exact hF j (by omega)
    · replace c5 : ¬ 9 ≤ i.toInt := c5
      replace h := tx_aload_n (p' := 9) h em164_8 rfl rfl
      replace h := tx_getc (c := 12) (j := 56) (p' := 12) h em164_9 ((congrFun xo_12 107).trans rfl) rfl rfl rfl
      replace h := tx_iload_n (p' := 13) h em164_12 rfl rfl
      replace h := tx_iconst (v := 0) (p' := 14) h em164_13 (by decide +kernel) rfl
      obtain ⟨hb14, h⟩ := tx_iast (len := 9) (p' := 15) h em164_14 rfl rfl
      replace hb14 : (0 : Int) ≤ i.toInt ∧ i.toInt < 9 := hb14
      replace h := tx_iinc (v := 1) (p' := 18) h em164_15 (by decide +kernel) rfl rfl
      replace h : eT xq_164 _ 18 [some (.inr (.inl (some 75))), some (.inl (i + 1))] [] (xpi ω 105 i.toInt.toNat (0 : Int32)) r μ' := h
      obtain ⟨n2, hn2, h⟩ := tx_gotoS (t := 2) h em164_18 (by decide)
      have ei : (i + 1).toInt = i.toInt + 1 := by rw [an_add (by rw [e1i]; omega) (by rw [e1i]; omega), e1i]
      refine ih n2 hn2 _ _ h (by omega) (by omega) (gM_i hG) (fun j hj => ?_)
      by_cases q : j = i.toInt.toNat
      · rw [q, xpi_at]
      · rw [xpi_ne (fun z => q z.2)]
        exact hF j (by omega)
  replace h := tx_iconst (v := 0) (p' := 1) h em164_0 (by decide +kernel) rfl
  replace h := tx_istore_n (p' := 2) h em164_1 rfl
  replace h : eT xq_164 _ 2 [some (.inr (.inl (some 75))), some (.inl (0 : Int32))] [] μ r μ' := h
  exact loop _ _ _ h (by decide) (by decide) gM_rf (fun j hj => j0y hj)
set_option maxRecDepth 10000 in
set_option maxHeartbeats 4000000 in
theorem ex_looksAt {hh0 l : Int32} {hn ln : Nat} {μ μ' : xM} {r : Option zV} (h0 : Ex gx xq_165 [.inr (.inl (some 75)), .inl hh0, .inl l] μ r μ') (hh : hh0.toInt = (hn : Int)) (hh4 : hn ≤ 4) (hl : l.toInt = (ln : Int)) (hl7 : ln ≤ 7) : r = none ∧ gM μ μ' ∧ ∀ j : Nat, j ≤ 8 → μ'.1 105 j = pVw (fun x => μ.1 108 x) hn ln j := by
  obtain ⟨n, h⟩ := tx_in (L := [some (.inr (.inl (some 75))), some (.inl hh0), some (.inl l)]) h0 rfl
  replace h := tx_aload_n (p' := 1) h em165_0 rfl rfl
  obtain ⟨r1, μ1, hE1, h⟩ := tx_invV (na := 1) (mn := 164) (as := [.inr (.inl (some 75))]) (rest := []) (p' := 4) h em165_1 ((congrFun xo_12 344).trans rfl) xm_164 rfl rfl
  obtain ⟨rfl, g1, w1⟩ := ex_looks hE1
  replace h : eT xq_165 _ 4 [some (.inr (.inl (some 75))), some (.inl hh0), some (.inl l)] [] μ1 r μ' := h
  replace h := tx_aload_n (p' := 5) h em165_4 rfl rfl
  replace h := tx_getc (c := 12) (j := 56) (p' := 8) h em165_5 ((congrFun xo_12 107).trans rfl) rfl rfl rfl
  replace h := tx_iconst (v := 3) (p' := 9) h em165_8 (by decide +kernel) rfl
  replace h := tx_aload_n (p' := 10) h em165_9 rfl rfl
  replace h := tx_getc (c := 12) (j := 0) (p' := 13) h em165_10 ((congrFun xo_12 116).trans rfl) rfl rfl rfl
  replace h := tx_bipush (v := 80) (p' := 15) h em165_13 (by decide +kernel) rfl
  replace h := tx_bipush (v := 8) (p' := 17) h em165_15 (by decide +kernel) rfl
  replace h := tx_iload_n (p' := 18) h em165_17 rfl rfl
  replace h := tx_imul (p' := 19) h em165_18 rfl
  replace h := tx_iadd (p' := 20) h em165_19 rfl
  replace h := tx_iload_n (p' := 21) h em165_20 rfl rfl
  replace h := tx_iadd (p' := 22) h em165_21 rfl
  obtain ⟨hb22, h⟩ := tx_iald (len := 390) (p' := 23) h em165_22 rfl rfl
  replace hb22 : (0 : Int) ≤ (((80 : Int32) + ((8 : Int32) * hh0)) + l).toInt ∧ (((80 : Int32) + ((8 : Int32) * hh0)) + l).toInt < 390 := hb22
  obtain ⟨hb23, h⟩ := tx_iast (len := 9) (p' := 24) h em165_23 rfl rfl
  replace hb23 : (0 : Int) ≤ 3 ∧ (3 : Int) < 9 := hb23
  replace h := tx_aload_n (p' := 25) h em165_24 rfl rfl
  replace h := tx_getc (c := 12) (j := 56) (p' := 28) h em165_25 ((congrFun xo_12 107).trans rfl) rfl rfl rfl
  replace h := tx_iconst (v := 4) (p' := 29) h em165_28 (by decide +kernel) rfl
  replace h := tx_aload_n (p' := 30) h em165_29 rfl rfl
  replace h := tx_getc (c := 12) (j := 0) (p' := 33) h em165_30 ((congrFun xo_12 116).trans rfl) rfl rfl rfl
  replace h := tx_bipush (v := 8) (p' := 35) h em165_33 (by decide +kernel) rfl
  replace h := tx_iload_n (p' := 36) h em165_35 rfl rfl
  replace h := tx_imul (p' := 37) h em165_36 rfl
  replace h := tx_iload_n (p' := 38) h em165_37 rfl rfl
  replace h := tx_iadd (p' := 39) h em165_38 rfl
  obtain ⟨hb39, h⟩ := tx_iald (len := 390) (p' := 40) h em165_39 rfl rfl
  replace hb39 : (0 : Int) ≤ (((8 : Int32) * hh0) + l).toInt ∧ (((8 : Int32) * hh0) + l).toInt < 390 := hb39
  replace h : eT xq_165 _ 40 [some (.inr (.inl (some 75))), some (.inl hh0), some (.inl l)] [.inl (μ1.1 108 (((8 : Int32) * hh0) + l).toInt.toNat), .inl (4 : Int32), .inr (.inl (some 105))] (xpi μ1 105 3 (μ1.1 108 (((80 : Int32) + ((8 : Int32) * hh0)) + l).toInt.toNat)) r μ' := h
  obtain ⟨hb40, h⟩ := tx_iast (len := 9) (p' := 41) h em165_40 rfl rfl
  replace hb40 : (0 : Int) ≤ 4 ∧ (4 : Int) < 9 := hb40
  replace h := tx_aload_n (p' := 42) h em165_41 rfl rfl
  replace h := tx_getc (c := 12) (j := 56) (p' := 45) h em165_42 ((congrFun xo_12 107).trans rfl) rfl rfl rfl
  replace h := tx_iconst (v := 5) (p' := 46) h em165_45 (by decide +kernel) rfl
  replace h := tx_iload_n (p' := 47) h em165_46 rfl rfl
  obtain ⟨hb47, h⟩ := tx_iast (len := 9) (p' := 48) h em165_47 rfl rfl
  replace hb47 : (0 : Int) ≤ 5 ∧ (5 : Int) < 9 := hb47
  replace h := tx_aload_n (p' := 49) h em165_48 rfl rfl
  replace h := tx_getc (c := 12) (j := 56) (p' := 52) h em165_49 ((congrFun xo_12 107).trans rfl) rfl rfl rfl
  replace h := tx_bipush (v := 6) (p' := 54) h em165_52 (by decide +kernel) rfl
  replace h := tx_iload_n (p' := 55) h em165_54 rfl rfl
  obtain ⟨hb55, h⟩ := tx_iast (len := 9) (p' := 56) h em165_55 rfl rfl
  replace hb55 : (0 : Int) ≤ 6 ∧ (6 : Int) < 9 := hb55
  replace h := tx_aload_n (p' := 57) h em165_56 rfl rfl
  replace h := tx_getc (c := 12) (j := 56) (p' := 60) h em165_57 ((congrFun xo_12 107).trans rfl) rfl rfl rfl
  replace h := tx_bipush (v := 8) (p' := 62) h em165_60 (by decide +kernel) rfl
  replace h := tx_aload_n (p' := 63) h em165_62 rfl rfl
  replace h := tx_iload_n (p' := 64) h em165_63 rfl rfl
  replace h := tx_iload_n (p' := 65) h em165_64 rfl rfl
  obtain ⟨r65, μ65, hE65, h⟩ := tx_invV (na := 3) (mn := 161) (as := [.inr (.inl (some 75)), .inl hh0, .inl l]) (rest := [.inl (8 : Int32), .inr (.inl (some 105))]) (p' := 68) h em165_65 ((congrFun xo_12 347).trans rfl) xm_161 rfl rfl
  obtain ⟨rfl, hmb⟩ := ex_lentOut hE65 hh hh4 hl hl7
  rw [hmb] at h
  replace h : eT xq_165 _ 68 [some (.inr (.inl (some 75))), some (.inl hh0), some (.inl l)] [.inl (s5 (fun o => ((xpi (xpi (xpi (xpi μ1 105 3 (μ1.1 108 (((80 : Int32) + ((8 : Int32) * hh0)) + l).toInt.toNat)) 105 4 (μ1.1 108 (((8 : Int32) * hh0) + l).toInt.toNat)) 105 5 hh0) 105 6 l)).1 108 (120 + 40 * hn + 8 * o + ln)) 5), .inl (8 : Int32), .inr (.inl (some 105))] (xpi (xpi (xpi (xpi μ1 105 3 (μ1.1 108 (((80 : Int32) + ((8 : Int32) * hh0)) + l).toInt.toNat)) 105 4 (μ1.1 108 (((8 : Int32) * hh0) + l).toInt.toNat)) 105 5 hh0) 105 6 l) r μ' := h
  obtain ⟨hb68, h⟩ := tx_iast (len := 9) (p' := 69) h em165_68 rfl rfl
  replace hb68 : (0 : Int) ≤ 8 ∧ (8 : Int) < 9 := hb68
  obtain ⟨rfl, hμ⟩ := tx_return h em165_69
  replace hμ : μ' = (xpi (xpi (xpi (xpi (xpi μ1 105 3 (μ1.1 108 (((80 : Int32) + ((8 : Int32) * hh0)) + l).toInt.toNat)) 105 4 (μ1.1 108 (((8 : Int32) * hh0) + l).toInt.toNat)) 105 5 hh0) 105 6 l) 105 8 (s5 (fun o => ((xpi (xpi (xpi (xpi μ1 105 3 (μ1.1 108 (((80 : Int32) + ((8 : Int32) * hh0)) + l).toInt.toNat)) 105 4 (μ1.1 108 (((8 : Int32) * hh0) + l).toInt.toNat)) 105 5 hh0) 105 6 l)).1 108 (120 + 40 * hn + 8 * o + ln)) 5)) := hμ
  have e8i : (8 : Int32).toInt = 8 := by decide
  have e80 : (80 : Int32).toInt = 80 := by decide
  have m1 : ((8 : Int32) * hh0).toInt = 8 * (hn : Int) := by rw [an_mul (by rw [e8i]; omega) (by rw [e8i]; omega), e8i, hh]
  have m2 : (((8 : Int32) * hh0) + l).toInt = 8 * (hn : Int) + ln := by rw [an_add (by rw [m1]; omega) (by rw [m1]; omega), m1, hl]
  have m3 : ((80 : Int32) + ((8 : Int32) * hh0)).toInt = 80 + 8 * (hn : Int) := by rw [an_add (by rw [m1, e80]; omega) (by rw [m1, e80]; omega), m1, e80]
  have m4 : (((80 : Int32) + ((8 : Int32) * hh0)) + l).toInt = 80 + 8 * (hn : Int) + ln := by rw [an_add (by rw [m3]; omega) (by rw [m3]; omega), m3, hl]
  rw [show (((8 : Int32) * hh0) + l).toInt.toNat = 8 * hn + ln by omega, show (((80 : Int32) + ((8 : Int32) * hh0)) + l).toInt.toNat = 80 + (8 * hn + ln) by omega] at hμ
  rw [hμ]
  have e108 : ∀ x, μ1.1 108 x = μ.1 108 x := fun x => gM_c g1 (by decide) (by decide) (by decide)
  refine ⟨rfl, gM_i (gM_i (gM_i (gM_i (gM_i g1)))), fun j hj => ?_⟩
  rcases le9 hj with rfl | rfl | rfl | rfl | rfl | rfl | rfl | rfl | rfl
  · show μ1.1 105 0 = _; rw [w1 0 (by decide)]; rfl
  · show μ1.1 105 1 = _; rw [w1 1 (by decide)]; rfl
  · show μ1.1 105 2 = _; rw [w1 2 (by decide)]; rfl
  · show μ1.1 108 _ = _; rw [e108]; rfl
  · show μ1.1 108 _ = _; rw [e108]; rfl
  · exact ofN hh
  · exact ofN hl
  · show μ1.1 105 7 = _; rw [w1 7 (by decide)]; rfl
  · exact s5_cg 5 (fun o _ => by
      show (xpi _ _ _ _).1 108 _ = _
      rw [xpi_ne (fun q => absurd q.1 (by decide)), xpi_ne (fun q => absurd q.1 (by decide)), xpi_ne (fun q => absurd q.1 (by decide)), xpi_ne (fun q => absurd q.1 (by decide))]
      exact e108 _)
set_option maxRecDepth 10000 in
set_option maxHeartbeats 4000000 in
theorem ex_looksFor {v : Int32} {S : kSt} {s vn : Nat} {μ μ' : xM} {r : Option zV} (h0 : Ex gx xq_166 [.inr (.inl (some 75)), .inl v] μ r μ') (hS : rS9 S s μ) (hv : v.toInt = (vn : Int)) (hvn : vn < S.2.1.length) : r = none ∧ gM μ μ' ∧ μ'.1 105 0 = vVa S vn ∧ μ'.1 105 1 = vDu S vn ∧ μ'.1 105 7 = vLo S vn ∧ ∀ j, j ≠ 0 → j ≠ 1 → j ≠ 7 → μ'.1 105 j = μ.1 105 j := by
  obtain ⟨n, h⟩ := tx_in (L := [some (.inr (.inl (some 75))), some (.inl v)]) h0 rfl
  have e7i : (7 : Int32).toInt = 7 := by decide
  have h7 := hS.1.1.2.1
  have s2 := hS.2.1
  have m7 : ((7 : Int32) * (μ.1 75 2)).toInt = 7 * (s : Int) := by rw [an_mul (by rw [e7i]; omega) (by rw [e7i]; omega), e7i, s2.2]
  have m8 : (((7 : Int32) * (μ.1 75 2)) + v).toInt = 7 * (s : Int) + vn := by rw [an_add (by rw [m7]; omega) (by rw [m7]; omega), m7, hv]
  have m9 : (((7 : Int32) * (μ.1 75 2)) + v).toInt.toNat = 7 * s + vn := by omega
  replace h := tx_aload_n (p' := 1) h em166_0 rfl rfl
  replace h := tx_getc (c := 12) (j := 56) (p' := 4) h em166_1 ((congrFun xo_12 107).trans rfl) rfl rfl rfl
  replace h := tx_iconst (v := 0) (p' := 5) h em166_4 (by decide +kernel) rfl
  replace h := tx_aload_n (p' := 6) h em166_5 rfl rfl
  replace h := tx_getc (c := 12) (j := 38) (p' := 9) h em166_6 ((congrFun xo_12 58).trans rfl) rfl rfl rfl
  replace h := tx_bipush (v := 7) (p' := 11) h em166_9 (by decide +kernel) rfl
  replace h := tx_aload_n (p' := 12) h em166_11 rfl rfl
  replace h := tx_getf (c := 12) (j := 2) (p' := 15) h em166_12 ((congrFun xo_12 230).trans rfl) rfl rfl (by decide) rfl
  replace h := tx_imul (p' := 16) h em166_15 rfl
  replace h := tx_iload_n (p' := 17) h em166_16 rfl rfl
  replace h := tx_iadd (p' := 18) h em166_17 rfl
  obtain ⟨hb18, h⟩ := tx_iald (len := 14) (p' := 19) h em166_18 rfl rfl
  replace hb18 : (0 : Int) ≤ (((7 : Int32) * (μ.1 75 2)) + v).toInt ∧ (((7 : Int32) * (μ.1 75 2)) + v).toInt < 14 := hb18
  obtain ⟨hb19, h⟩ := tx_iast (len := 9) (p' := 20) h em166_19 rfl rfl
  replace hb19 : (0 : Int) ≤ 0 ∧ (0 : Int) < 9 := hb19
  replace h := tx_aload_n (p' := 21) h em166_20 rfl rfl
  replace h := tx_getc (c := 12) (j := 56) (p' := 24) h em166_21 ((congrFun xo_12 107).trans rfl) rfl rfl rfl
  replace h := tx_iconst (v := 1) (p' := 25) h em166_24 (by decide +kernel) rfl
  replace h := tx_aload_n (p' := 26) h em166_25 rfl rfl
  replace h := tx_getc (c := 12) (j := 39) (p' := 29) h em166_26 ((congrFun xo_12 61).trans rfl) rfl rfl rfl
  replace h := tx_bipush (v := 7) (p' := 31) h em166_29 (by decide +kernel) rfl
  replace h := tx_aload_n (p' := 32) h em166_31 rfl rfl
  replace h := tx_getf (c := 12) (j := 2) (p' := 35) h em166_32 ((congrFun xo_12 230).trans rfl) rfl rfl (by decide) rfl
  replace h : eT xq_166 _ 35 [some (.inr (.inl (some 75))), some (.inl v)] [.inl (μ.1 75 2), .inl (7 : Int32), .inr (.inl (some 90)), .inl (1 : Int32), .inr (.inl (some 105))] (xpi μ 105 0 (μ.1 89 (((7 : Int32) * (μ.1 75 2)) + v).toInt.toNat)) r μ' := h
  replace h := tx_imul (p' := 36) h em166_35 rfl
  replace h := tx_iload_n (p' := 37) h em166_36 rfl rfl
  replace h := tx_iadd (p' := 38) h em166_37 rfl
  obtain ⟨hb38, h⟩ := tx_iald (len := 14) (p' := 39) h em166_38 rfl rfl
  replace hb38 : (0 : Int) ≤ (((7 : Int32) * (μ.1 75 2)) + v).toInt ∧ (((7 : Int32) * (μ.1 75 2)) + v).toInt < 14 := hb38
  replace h : eT xq_166 _ 39 [some (.inr (.inl (some 75))), some (.inl v)] [.inl (μ.1 90 (((7 : Int32) * (μ.1 75 2)) + v).toInt.toNat), .inl (1 : Int32), .inr (.inl (some 105))] (xpi μ 105 0 (μ.1 89 (((7 : Int32) * (μ.1 75 2)) + v).toInt.toNat)) r μ' := h
  obtain ⟨hb39, h⟩ := tx_iast (len := 9) (p' := 40) h em166_39 rfl rfl
  replace hb39 : (0 : Int) ≤ 1 ∧ (1 : Int) < 9 := hb39
  replace h := tx_aload_n (p' := 41) h em166_40 rfl rfl
  replace h := tx_getc (c := 12) (j := 56) (p' := 44) h em166_41 ((congrFun xo_12 107).trans rfl) rfl rfl rfl
  replace h := tx_bipush (v := 7) (p' := 46) h em166_44 (by decide +kernel) rfl
  replace h := tx_aload_n (p' := 47) h em166_46 rfl rfl
  replace h := tx_getc (c := 12) (j := 36) (p' := 50) h em166_47 ((congrFun xo_12 52).trans rfl) rfl rfl rfl
  replace h := tx_bipush (v := 7) (p' := 52) h em166_50 (by decide +kernel) rfl
  replace h := tx_aload_n (p' := 53) h em166_52 rfl rfl
  replace h := tx_getf (c := 12) (j := 2) (p' := 56) h em166_53 ((congrFun xo_12 230).trans rfl) rfl rfl (by decide) rfl
  replace h : eT xq_166 _ 56 [some (.inr (.inl (some 75))), some (.inl v)] [.inl (μ.1 75 2), .inl (7 : Int32), .inr (.inl (some 87)), .inl (7 : Int32), .inr (.inl (some 105))] (xpi (xpi μ 105 0 (μ.1 89 (((7 : Int32) * (μ.1 75 2)) + v).toInt.toNat)) 105 1 (μ.1 90 (((7 : Int32) * (μ.1 75 2)) + v).toInt.toNat)) r μ' := h
  replace h := tx_imul (p' := 57) h em166_56 rfl
  replace h := tx_iload_n (p' := 58) h em166_57 rfl rfl
  replace h := tx_iadd (p' := 59) h em166_58 rfl
  obtain ⟨hb59, h⟩ := tx_iald (len := 14) (p' := 60) h em166_59 rfl rfl
  replace hb59 : (0 : Int) ≤ (((7 : Int32) * (μ.1 75 2)) + v).toInt ∧ (((7 : Int32) * (μ.1 75 2)) + v).toInt < 14 := hb59
  replace h : eT xq_166 _ 60 [some (.inr (.inl (some 75))), some (.inl v)] [.inl (μ.1 87 (((7 : Int32) * (μ.1 75 2)) + v).toInt.toNat), .inl (7 : Int32), .inr (.inl (some 105))] (xpi (xpi μ 105 0 (μ.1 89 (((7 : Int32) * (μ.1 75 2)) + v).toInt.toNat)) 105 1 (μ.1 90 (((7 : Int32) * (μ.1 75 2)) + v).toInt.toNat)) r μ' := h
  obtain ⟨hb60, h⟩ := tx_iast (len := 9) (p' := 61) h em166_60 rfl rfl
  replace hb60 : (0 : Int) ≤ 7 ∧ (7 : Int) < 9 := hb60
  obtain ⟨rfl, hμ⟩ := tx_return h em166_61
  replace hμ : μ' = (xpi (xpi (xpi μ 105 0 (μ.1 89 (((7 : Int32) * (μ.1 75 2)) + v).toInt.toNat)) 105 1 (μ.1 90 (((7 : Int32) * (μ.1 75 2)) + v).toInt.toNat)) 105 7 (μ.1 87 (((7 : Int32) * (μ.1 75 2)) + v).toInt.toNat)) := hμ
  obtain ⟨d1, d2, d3, -⟩ := rS9_v hS hvn
  rw [m9] at hμ
  rw [hμ]
  exact ⟨rfl, gM_i (gM_i (gM_i gM_rf)), by rw [xpi_ne (fun q => absurd q.2 (by decide)), xpi_ne (fun q => absurd q.2 (by decide)), xpi_at]; exact d1, by rw [xpi_ne (fun q => absurd q.2 (by decide)), xpi_at]; exact d2, by rw [xpi_at]; exact d3, fun j a b c => by rw [xpi_ne (fun q => c q.2), xpi_ne (fun q => b q.2), xpi_ne (fun q => a q.2)]⟩
set_option maxRecDepth 10000 in
set_option maxHeartbeats 4000000 in
theorem ex_mleave {hh0 l v : Int32} {hn ln vn s : Nat} {S : kSt} {μ μ' : xM} {r : Option zV} (h0 : Ex gx xq_142 [.inr (.inl (some 75)), .inl hh0, .inl l, .inl v] μ r μ') (hS : rS9 S s μ) (hh : hh0.toInt = (hn : Int)) (hh4 : hn ≤ 4) (hl : l.toInt = (ln : Int)) (hl7 : ln ≤ 7) (hv : v.toInt = (vn : Int)) (hvn : vn < S.2.1.length) : gM μ μ' ∧ ((r = some (.inl 1) ∧ pLv S (fun x => μ.1 108 x) hn ln vn) ∨ (r = some (.inl 0) ∧ ¬ pLv S (fun x => μ.1 108 x) hn ln vn)) := by
  obtain ⟨n, h⟩ := tx_in (L := [some (.inr (.inl (some 75))), some (.inl hh0), some (.inl l), some (.inl v)]) h0 rfl
  replace h := tx_aload_n (p' := 1) h em142_0 rfl rfl
  replace h := tx_iload_n (p' := 2) h em142_1 rfl rfl
  replace h := tx_iload_n (p' := 3) h em142_2 rfl rfl
  obtain ⟨r3, μ3, hE3, h⟩ := tx_invV (na := 3) (mn := 165) (as := [.inr (.inl (some 75)), .inl hh0, .inl l]) (rest := []) (p' := 6) h em142_3 ((congrFun xo_12 353).trans rfl) xm_165 rfl rfl
  obtain ⟨rfl, g1, w1⟩ := ex_looksAt hE3 hh hh4 hl hl7
  have hS1 := rS9_M hS g1
  replace h : eT xq_142 _ 6 [some (.inr (.inl (some 75))), some (.inl hh0), some (.inl l), some (.inl v)] [] μ3 r μ' := h
  replace h := tx_aload_n (p' := 7) h em142_6 rfl rfl
  replace h := tx_iload_n (p' := 8) h em142_7 rfl rfl
  obtain ⟨r8, μ8, hE8, h⟩ := tx_invV (na := 2) (mn := 166) (as := [.inr (.inl (some 75)), .inl v]) (rest := []) (p' := 11) h em142_8 ((congrFun xo_12 356).trans rfl) xm_166 rfl rfl
  obtain ⟨rfl, g2, w0, wa, w7, w9⟩ := ex_looksFor hE8 hS1 hv hvn
  have hS2 := rS9_M hS1 g2
  replace h : eT xq_142 _ 11 [some (.inr (.inl (some 75))), some (.inl hh0), some (.inl l), some (.inl v)] [] μ8 r μ' := h
  replace h := tx_aload_n (p' := 12) h em142_11 rfl rfl
  replace h := tx_iconst (v := 0) (p' := 13) h em142_12 (by decide +kernel) rfl
  replace h := tx_iconst (v := 1) (p' := 14) h em142_13 (by decide +kernel) rfl
  obtain ⟨r14, μ14, hE14, h⟩ := tx_invV (na := 3) (mn := 159) (as := [.inr (.inl (some 75)), .inl (0 : Int32), .inl (1 : Int32)]) (rest := []) (p' := 17) h em142_14 ((congrFun xo_12 359).trans rfl) xm_159 rfl rfl
  obtain ⟨g3, rfl⟩ := ex_mtells (k := 0) hE14 hS2 (by decide) (by decide) (rfl)
  have g5 := gM_tr (gM_tr g1 g2) g3
  have hj : pJ S.2.2.2 0 (fun i => μ8.1 105 i) = pJ S.2.2.2 0 (pVh S (fun x => μ.1 108 x) hn ln vn) := pJ_cg (fun i hi => ?_) (hS.1.2.1 0)
  rotate_left
  · show μ8.1 105 i = pVh S (fun x => μ.1 108 x) hn ln vn i
    rcases le9 hi with rfl | rfl | rfl | rfl | rfl | rfl | rfl | rfl | rfl
    · rw [w0]; rfl
    · rw [wa]; rfl
    · rw [w9 2 (by decide) (by decide) (by decide), w1 2 (by decide)]; rfl
    · rw [w9 3 (by decide) (by decide) (by decide), w1 3 (by decide)]; rfl
    · rw [w9 4 (by decide) (by decide) (by decide), w1 4 (by decide)]; rfl
    · rw [w9 5 (by decide) (by decide) (by decide), w1 5 (by decide)]; rfl
    · rw [w9 6 (by decide) (by decide) (by decide), w1 6 (by decide)]; rfl
    · rw [w7]; rfl
    · rw [w9 8 (by decide) (by decide) (by decide), w1 8 (by decide)]; rfl
  rw [hj] at h
  replace h : eT xq_142 _ 17 [some (.inr (.inl (some 75))), some (.inl hh0), some (.inl l), some (.inl v)] [.inl (pJ S.2.2.2 0 (pVh S (fun x => μ.1 108 x) hn ln vn))] μ14 r μ' := h
  rcases tx_if (t := 24) (p' := 20) h em142_17 (by decide) rfl with ⟨c17, h⟩ | ⟨c17, h⟩
  · replace c17 : (pJ S.2.2.2 0 (pVh S (fun x => μ.1 108 x) hn ln vn)).toInt ≤ 0 := c17
    replace h := tx_iconst (v := 0) (p' := 25) h em142_24 (by decide +kernel) rfl
    obtain ⟨rfl, hμ⟩ := tx_ireturn h em142_25
    rw [hμ]
    exact ⟨g5, Or.inr ⟨rfl, by unfold pLv; omega⟩⟩
  · replace c17 : ¬ (pJ S.2.2.2 0 (pVh S (fun x => μ.1 108 x) hn ln vn)).toInt ≤ 0 := c17
    replace h := tx_iconst (v := 1) (p' := 21) h em142_20 (by decide +kernel) rfl
    replace h := tx_goto (t := 25) h em142_21 (by decide)
    obtain ⟨rfl, hμ⟩ := tx_ireturn h em142_25
    rw [hμ]
    exact ⟨g5, Or.inl ⟨rfl, by unfold pLv; omega⟩⟩
set_option maxRecDepth 10000 in
set_option maxHeartbeats 4000000 in
theorem ex_mrank {hh0 l v : Int32} {hn ln vn s : Nat} {S : kSt} {μ μ' : xM} {r : Option zV} (h0 : Ex gx xq_179 [.inr (.inl (some 75)), .inl hh0, .inl l, .inl v] μ r μ') (hS : rS9 S s μ) (hh : hh0.toInt = (hn : Int)) (hh4 : hn ≤ 4) (hl : l.toInt = (ln : Int)) (hl7 : ln ≤ 7) (hv : v.toInt = (vn : Int)) (hvn : vn < S.2.1.length) : gM μ μ' ∧ r = some (.inl (pRk S (fun x => μ.1 108 x) hn ln vn)) := by
  obtain ⟨n, h⟩ := tx_in (L := [some (.inr (.inl (some 75))), some (.inl hh0), some (.inl l), some (.inl v)]) h0 rfl
  replace h := tx_aload_n (p' := 1) h em179_0 rfl rfl
  replace h := tx_iload_n (p' := 2) h em179_1 rfl rfl
  replace h := tx_iload_n (p' := 3) h em179_2 rfl rfl
  obtain ⟨r3, μ3, hE3, h⟩ := tx_invV (na := 3) (mn := 165) (as := [.inr (.inl (some 75)), .inl hh0, .inl l]) (rest := []) (p' := 6) h em179_3 ((congrFun xo_12 353).trans rfl) xm_165 rfl rfl
  obtain ⟨rfl, g1, w1⟩ := ex_looksAt hE3 hh hh4 hl hl7
  have hS1 := rS9_M hS g1
  replace h : eT xq_179 _ 6 [some (.inr (.inl (some 75))), some (.inl hh0), some (.inl l), some (.inl v)] [] μ3 r μ' := h
  replace h := tx_aload_n (p' := 7) h em179_6 rfl rfl
  replace h := tx_iload_n (p' := 8) h em179_7 rfl rfl
  obtain ⟨r8, μ8, hE8, h⟩ := tx_invV (na := 2) (mn := 166) (as := [.inr (.inl (some 75)), .inl v]) (rest := []) (p' := 11) h em179_8 ((congrFun xo_12 356).trans rfl) xm_166 rfl rfl
  obtain ⟨rfl, g2, w0, wa, w7, w9⟩ := ex_looksFor hE8 hS1 hv hvn
  have hS2 := rS9_M hS1 g2
  replace h : eT xq_179 _ 11 [some (.inr (.inl (some 75))), some (.inl hh0), some (.inl l), some (.inl v)] [] μ8 r μ' := h
  replace h := tx_aload_n (p' := 12) h em179_11 rfl rfl
  replace h := tx_iconst (v := 1) (p' := 13) h em179_12 (by decide +kernel) rfl
  replace h := tx_iconst (v := 0) (p' := 14) h em179_13 (by decide +kernel) rfl
  obtain ⟨r14, μ14, hE14, h⟩ := tx_invV (na := 3) (mn := 159) (as := [.inr (.inl (some 75)), .inl (1 : Int32), .inl (0 : Int32)]) (rest := []) (p' := 17) h em179_14 ((congrFun xo_12 359).trans rfl) xm_159 rfl rfl
  obtain ⟨g3, rfl⟩ := ex_mtells (k := 1) hE14 hS2 (by decide) (by decide) (rfl)
  have g5 := gM_tr (gM_tr g1 g2) g3
  have hj : pJ S.2.2.2 1 (fun i => μ8.1 105 i) = pJ S.2.2.2 1 (pVh S (fun x => μ.1 108 x) hn ln vn) := pJ_cg (fun i hi => ?_) (hS.1.2.1 1)
  rotate_left
  · show μ8.1 105 i = pVh S (fun x => μ.1 108 x) hn ln vn i
    rcases le9 hi with rfl | rfl | rfl | rfl | rfl | rfl | rfl | rfl | rfl
    · rw [w0]; rfl
    · rw [wa]; rfl
    · rw [w9 2 (by decide) (by decide) (by decide), w1 2 (by decide)]; rfl
    · rw [w9 3 (by decide) (by decide) (by decide), w1 3 (by decide)]; rfl
    · rw [w9 4 (by decide) (by decide) (by decide), w1 4 (by decide)]; rfl
    · rw [w9 5 (by decide) (by decide) (by decide), w1 5 (by decide)]; rfl
    · rw [w9 6 (by decide) (by decide) (by decide), w1 6 (by decide)]; rfl
    · rw [w7]; rfl
    · rw [w9 8 (by decide) (by decide) (by decide), w1 8 (by decide)]; rfl
  rw [hj] at h
  replace h : eT xq_179 _ 17 [some (.inr (.inl (some 75))), some (.inl hh0), some (.inl l), some (.inl v)] [.inl (pJ S.2.2.2 1 (pVh S (fun x => μ.1 108 x) hn ln vn))] μ14 r μ' := h
  obtain ⟨rfl, hμ⟩ := tx_ireturn h em179_17
  rw [hμ]
  exact ⟨g5, rfl⟩
set_option maxRecDepth 10000 in
set_option maxHeartbeats 4000000 in
theorem ex_mwears {hh0 l : Int32} {hn ln s : Nat} {S : kSt} {μ μ' : xM} {r : Option zV} (h0 : Ex gx xq_199 [.inr (.inl (some 75)), .inl hh0, .inl l] μ r μ') (hS : rS9 S s μ) (hh : hh0.toInt = (hn : Int)) (hh4 : hn ≤ 4) (hl : l.toInt = (ln : Int)) (hl7 : ln ≤ 7) : gM μ μ' ∧ r = some (.inl (pWr S (fun x => μ.1 108 x) hn ln)) := by
  obtain ⟨n, h⟩ := tx_in (L := [some (.inr (.inl (some 75))), some (.inl hh0), some (.inl l)]) h0 rfl
  replace h := tx_aload_n (p' := 1) h em199_0 rfl rfl
  replace h := tx_iload_n (p' := 2) h em199_1 rfl rfl
  replace h := tx_iload_n (p' := 3) h em199_2 rfl rfl
  obtain ⟨r3, μ3, hE3, h⟩ := tx_invV (na := 3) (mn := 165) (as := [.inr (.inl (some 75)), .inl hh0, .inl l]) (rest := []) (p' := 6) h em199_3 ((congrFun xo_12 353).trans rfl) xm_165 rfl rfl
  obtain ⟨rfl, g1, w1⟩ := ex_looksAt hE3 hh hh4 hl hl7
  have hS1 := rS9_M hS g1
  replace h : eT xq_199 _ 6 [some (.inr (.inl (some 75))), some (.inl hh0), some (.inl l)] [] μ3 r μ' := h
  replace h := tx_aload_n (p' := 7) h em199_6 rfl rfl
  replace h := tx_iconst (v := 2) (p' := 8) h em199_7 (by decide +kernel) rfl
  replace h := tx_iconst (v := 1) (p' := 9) h em199_8 (by decide +kernel) rfl
  obtain ⟨r9, μ9, hE9, h⟩ := tx_invV (na := 3) (mn := 159) (as := [.inr (.inl (some 75)), .inl (2 : Int32), .inl (1 : Int32)]) (rest := []) (p' := 12) h em199_9 ((congrFun xo_12 359).trans rfl) xm_159 rfl rfl
  obtain ⟨g3, rfl⟩ := ex_mtells (k := 2) hE9 hS1 (by decide) (by decide) (rfl)
  have g5 := gM_tr (g1) g3
  have hj : pJ S.2.2.2 2 (fun i => μ3.1 105 i) = pJ S.2.2.2 2 (pVw (fun x => μ.1 108 x) hn ln) := pJ_cg (fun i hi => ?_) (hS.1.2.1 2)
  rotate_left
  · exact w1 i hi -- μ3
  rw [hj] at h
  replace h : eT xq_199 _ 12 [some (.inr (.inl (some 75))), some (.inl hh0), some (.inl l)] [.inl (pJ S.2.2.2 2 (pVw (fun x => μ.1 108 x) hn ln))] μ9 r μ' := h
  replace h := tx_iconst (v := 0) (p' := 13) h em199_12 (by decide +kernel) rfl
  replace h := tx_bipush (v := 9) (p' := 15) h em199_13 (by decide +kernel) rfl
  obtain ⟨r15, μ15, hE15, h⟩ := tx_invS (na := 3) (mn := 145) (as := [.inl (pJ S.2.2.2 2 (pVw (fun x => μ.1 108 x) hn ln)), .inl (0 : Int32), .inl (9 : Int32)]) (rest := []) (p' := 18) h em199_15 ((congrFun xo_12 362).trans rfl) xm_145 rfl rfl
  obtain ⟨hmh, rfl⟩ := ex_held hE15
  rw [hmh] at h
  replace h : eT xq_199 _ 18 [some (.inr (.inl (some 75))), some (.inl hh0), some (.inl l)] [.inl (pHd (pJ S.2.2.2 2 (pVw (fun x => μ.1 108 x) hn ln)) (0 : Int32) (9 : Int32))] μ9 r μ' := h
  obtain ⟨rfl, hμ⟩ := tx_ireturn h em199_18
  rw [hμ]
  exact ⟨g5, rfl⟩
set_option maxRecDepth 10000 in
set_option maxHeartbeats 4000000 in
theorem ex_mpays {v : Int32} {vn s : Nat} {S : kSt} {μ μ' : xM} {r : Option zV} (h0 : Ex gx xq_175 [.inr (.inl (some 75)), .inl v] μ r μ') (hS : rS9 S s μ) (hv : v.toInt = (vn : Int)) (hvn : vn < S.2.1.length) : gM μ μ' ∧ r = some (.inl (pPy S (μ.1 108 386) vn)) := by
  obtain ⟨n, h⟩ := tx_in (L := [some (.inr (.inl (some 75))), some (.inl v)]) h0 rfl
  replace h := tx_aload_n (p' := 1) h em175_0 rfl rfl
  obtain ⟨r1, μ1, hE1, h⟩ := tx_invV (na := 1) (mn := 164) (as := [.inr (.inl (some 75))]) (rest := []) (p' := 4) h em175_1 ((congrFun xo_12 344).trans rfl) xm_164 rfl rfl
  obtain ⟨rfl, g1, w1⟩ := ex_looks hE1
  replace h : eT xq_175 _ 4 [some (.inr (.inl (some 75))), some (.inl v)] [] μ1 r μ' := h
  replace h := tx_aload_n (p' := 5) h em175_4 rfl rfl
  replace h := tx_iload_n (p' := 6) h em175_5 rfl rfl
  obtain ⟨r6, μ6, hE6, h⟩ := tx_invV (na := 2) (mn := 166) (as := [.inr (.inl (some 75)), .inl v]) (rest := []) (p' := 9) h em175_6 ((congrFun xo_12 356).trans rfl) xm_166 rfl rfl
  have hS1 := rS9_M hS g1
  obtain ⟨rfl, g2, w0, wa, w7, w9⟩ := ex_looksFor hE6 hS1 hv hvn
  have hS2 := rS9_M hS1 g2
  replace h : eT xq_175 _ 9 [some (.inr (.inl (some 75))), some (.inl v)] [] μ6 r μ' := h
  replace h := tx_aload_n (p' := 10) h em175_9 rfl rfl
  replace h := tx_iconst (v := 3) (p' := 11) h em175_10 (by decide +kernel) rfl
  replace h := tx_aload_n (p' := 12) h em175_11 rfl rfl
  replace h := tx_getc (c := 12) (j := 56) (p' := 15) h em175_12 ((congrFun xo_12 107).trans rfl) rfl rfl rfl
  replace h := tx_iconst (v := 0) (p' := 16) h em175_15 (by decide +kernel) rfl
  obtain ⟨hb16, h⟩ := tx_iald (len := 9) (p' := 17) h em175_16 rfl rfl
  replace hb16 : (0 : Int) ≤ 0 ∧ (0 : Int) < 9 := hb16
  replace h : eT xq_175 _ 17 [some (.inr (.inl (some 75))), some (.inl v)] [.inl (μ6.1 105 0), .inl (3 : Int32), .inr (.inl (some 75))] μ6 r μ' := h
  obtain ⟨r17, μ17, hE17, h⟩ := tx_invV (na := 3) (mn := 159) (as := [.inr (.inl (some 75)), .inl (3 : Int32), .inl (μ6.1 105 0)]) (rest := []) (p' := 20) h em175_17 ((congrFun xo_12 359).trans rfl) xm_159 rfl rfl
  obtain ⟨g3, rfl⟩ := ex_mtells (k := 3) hE17 hS2 (by decide) (by decide) (rfl)
  have g5 := gM_tr (gM_tr g1 g2) g3
  have hj : pJ S.2.2.2 3 (fun i => μ6.1 105 i) = pJ S.2.2.2 3 (pVp S (μ.1 108 386) vn) := pJ_cg (fun i hi => ?_) (hS.1.2.1 3)
  rotate_left
  · show μ6.1 105 i = pVp S (μ.1 108 386) vn i
    rcases le9 hi with rfl | rfl | rfl | rfl | rfl | rfl | rfl | rfl | rfl
    · rw [w0]; rfl
    · rw [wa]; rfl
    · rw [w9 2 (by decide) (by decide) (by decide), w1 2 (by decide)]; rfl
    · rw [w9 3 (by decide) (by decide) (by decide), w1 3 (by decide)]; rfl
    · rw [w9 4 (by decide) (by decide) (by decide), w1 4 (by decide)]; rfl
    · rw [w9 5 (by decide) (by decide) (by decide), w1 5 (by decide)]; rfl
    · rw [w9 6 (by decide) (by decide) (by decide), w1 6 (by decide)]; rfl
    · rw [w7]; rfl
    · rw [w9 8 (by decide) (by decide) (by decide), w1 8 (by decide)]; rfl
  rw [hj] at h
  replace h : eT xq_175 _ 20 [some (.inr (.inl (some 75))), some (.inl v)] [.inl (pJ S.2.2.2 3 (pVp S (μ.1 108 386) vn))] μ17 r μ' := h
  replace h := tx_iconst (v := 0) (p' := 21) h em175_20 (by decide +kernel) rfl
  replace h := tx_bipush (v := 99) (p' := 23) h em175_21 (by decide +kernel) rfl
  obtain ⟨r23, μ23, hE23, h⟩ := tx_invS (na := 3) (mn := 145) (as := [.inl (pJ S.2.2.2 3 (pVp S (μ.1 108 386) vn)), .inl (0 : Int32), .inl (99 : Int32)]) (rest := []) (p' := 26) h em175_23 ((congrFun xo_12 362).trans rfl) xm_145 rfl rfl
  obtain ⟨hmh, rfl⟩ := ex_held hE23
  rw [hmh] at h
  replace h : eT xq_175 _ 26 [some (.inr (.inl (some 75))), some (.inl v)] [.inl (pHd (pJ S.2.2.2 3 (pVp S (μ.1 108 386) vn)) (0 : Int32) (99 : Int32))] μ17 r μ' := h
  obtain ⟨rfl, hμ⟩ := tx_ireturn h em175_26
  rw [hμ]
  exact ⟨g5, rfl⟩
