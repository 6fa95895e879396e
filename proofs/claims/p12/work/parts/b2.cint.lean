/-- the number of the first k digits at p -/
def cDg (μ : xM) (p : Nat) : Nat → Int
  | 0 => 0
  | k + 1 => cDg μ p k * 10 + ((μ.1 1 (p + k)).toInt - 48)
def cV (μ : xM) (a : Int) : Int := cDg μ (cP μ a).toNat (cS μ a).toNat
/-- ints have one to four digits, names one to eight letters -/
def cTV (μ : xM) (E : Int) : Prop := (0 ≤ E ∧ E ≤ 400) ∧ (E < 400 → cK μ E ≤ 1) ∧ ∀ a : Int, 0 ≤ a → a ≤ E → (0 ≤ cP μ a ∧ cP μ a ≤ 2000) ∧
  (cK μ a = 3 → 1 ≤ cS μ a ∧ cS μ a ≤ 4 ∧ ∀ i : Nat, (i : Int) < cS μ a → 48 ≤ (μ.1 1 ((cP μ a).toNat + i)).toInt ∧ (μ.1 1 ((cP μ a).toNat + i)).toInt ≤ 57) ∧
  (cK μ a = 2 → 1 ≤ cS μ a ∧ cS μ a ≤ 8 ∧ ∀ i : Nat, (i : Int) < cS μ a → 97 ≤ (μ.1 1 ((cP μ a).toNat + i)).toInt ∧ (μ.1 1 ((cP μ a).toNat + i)).toInt ≤ 122)
theorem cDg_b {μ : xM} {p : Nat} : ∀ {k : Nat}, (∀ i, i < k → 48 ≤ (μ.1 1 (p + i)).toInt ∧ (μ.1 1 (p + i)).toInt ≤ 57) → 0 ≤ cDg μ p k ∧ cDg μ p k < 10 ^ k
  | 0, _ => by unfold cDg; omega
  | k + 1, h => by
    have h1 := cDg_b (k := k) (fun i hi => h i (by omega))
    have h2 := h k (by omega)
    unfold cDg
    rw [Int.pow_succ]
    omega
/-- what an expression may change: the parser's place and fault, the steps -/
def pE (μ μ' : xM) : Prop := (∀ k j, k ≠ 12 → k ≠ 13 → k ≠ 21 → k ≠ 22 → μ'.1 k j = μ.1 k j) ∧ (∀ j, j ≠ 3 → j ≠ 4 → j ≠ 5 → μ'.1 12 j = μ.1 12 j) ∧ (∀ j, j ≠ 14 → μ'.1 13 j = μ.1 13 j) ∧ μ'.2 = μ.2
theorem pE_rf {μ : xM} : pE μ μ := ⟨fun _ _ _ _ _ _ => rfl, fun _ _ _ _ => rfl, fun _ _ => rfl, rfl⟩
theorem pE_tr {μ ν μ' : xM} (h1 : pE μ ν) (h2 : pE ν μ') : pE μ μ' := ⟨fun k j a b c d => (h2.1 k j a b c d).trans (h1.1 k j a b c d), fun j a b c => (h2.2.1 j a b c).trans (h1.2.1 j a b c), fun j a => (h2.2.2.1 j a).trans (h1.2.2.1 j a), h2.2.2.2.trans h1.2.2.2⟩
theorem pE_p {μ ν : xM} {j : Nat} {v : Int32} (h : pE μ ν) (hj : j = 3 ∨ j = 4 ∨ j = 5) : pE μ (xpi ν 12 j v) := by
  refine ⟨fun k i a b c d => (xpi_ne (fun q => a q.1)).trans (h.1 k i a b c d), fun i a b c => (xpi_ne (fun q => by omega)).trans (h.2.1 i a b c), fun i a => (xpi_ne (fun q => absurd q.1 (by decide))).trans (h.2.2.1 i a), h.2.2.2⟩
theorem pE_K {μ ν : xM} (h : pE μ ν) (a : Int) : cK ν a = cK μ a := by unfold cK; rw [h.1 24 _ (by decide) (by decide) (by decide) (by decide)]
theorem pE_P {μ ν : xM} (h : pE μ ν) (a : Int) : cP ν a = cP μ a := by unfold cP; rw [h.1 25 _ (by decide) (by decide) (by decide) (by decide)]
theorem pE_S {μ ν : xM} (h : pE μ ν) (a : Int) : cS ν a = cS μ a := by unfold cS; rw [h.1 26 _ (by decide) (by decide) (by decide) (by decide)]
theorem pE_Kf {μ ν : xM} (h : pE μ ν) : cK ν = cK μ := funext (pE_K h)
theorem pE_TV {μ ν : xM} {E : Int} (h : pE μ ν) (ht : cTV μ E) : cTV ν E := by
  refine ⟨ht.1, by rw [pE_K h]; exact ht.2.1, fun a h0 h1 => ?_⟩
  rw [pE_K h, pE_P h, pE_S h]
  have e : ∀ j, ν.1 1 j = μ.1 1 j := fun j => h.1 1 j (by decide) (by decide) (by decide) (by decide)
  simp only [e]
  exact ht.2.2 a h0 h1
/-- a token that is none of the last ones is followed by one more -/
theorem cTV_s {μ : xM} {E a : Int} (h : cTV μ E) (h0 : a ≤ E) (h1 : a < 400) (hk : 2 ≤ cK μ a) : a + 1 ≤ E := by
  obtain ⟨⟨h2, h3⟩, h4, -⟩ := h
  by_cases e : a = E
  · subst e
    have := h4 h1
    omega
  · omega
theorem pE_F {μ ν : xM} {f : Int32} (h : pE μ ν) : pE μ (cF ν f) := pE_p (pE_p h (Or.inr (Or.inl rfl))) (Or.inr (Or.inr rfl))
theorem cF_4 {μ : xM} {f : Int32} : (cF μ f).1 12 4 = f := rfl
theorem cF_5 {μ : xM} {f : Int32} : (cF μ f).1 12 5 = μ.1 25 (cA μ).toNat := rfl
/-- how an expression at depth d ends; E: what is known of the kind behind it -/
def uP (e d : Int) (E : Int → Prop) (μ : xM) (r : Option zV) (μ' : xM) : Prop := pE μ μ' ∧ ((r = some (.inl 1) ∧ cA μ < cA μ' ∧ cA μ' ≤ e ∧ xs (cK μ) (cA μ) d false = xs (cK μ) (cA μ') d true ∧ (μ'.1 12 4 = μ.1 12 4 ∧ μ'.1 12 5 = μ.1 12 5) ∧ E (cK μ (cA μ'))) ∨ (r = some (.inl 0) ∧ ∃ p f : Int, xs (cK μ) (cA μ) d false = (p, f) ∧ ¬ f = 0 ∧ (μ'.1 12 4).toInt = f ∧ (μ'.1 12 5).toInt = cP μ p))
def uS (q : xP) (d : Int) (E : Int → Prop) : Prop := ∀ (dd : Int32) (μ μ' : xM) (r : Option zV), dd.toInt = d → Ex gx q [.inr (.inl (some 12)), .inl dd] μ r μ' → ∀ e : Int, 0 ≤ cA μ → cA μ ≤ e → cTV μ e → uP e d E μ r μ'
def E1 (_ : Int) : Prop := True
def E2 (k : Int) : Prop := ¬ k = 42 ∧ ¬ k = 47
def E3 (k : Int) : Prop := E2 k ∧ ¬ k = 43 ∧ ¬ k = 45
abbrev xq_11 : xP := (⟨"CapitalCase$Parser", "intOf", "(III)I"⟩, prog_4_method_14_code, 6, (some .int))
abbrev xq_43 : xP := (⟨"CapitalCase$Script", "add", "(II)V"⟩, prog_8_method_4_code, 3, none)
abbrev xq_236 : xP := (⟨"CapitalCase$Parser", "parseUnit", "(I)Z"⟩, prog_4_method_18_code, 3, (some .boolean))
abbrev xq_235 : xP := (⟨"CapitalCase$Parser", "parsePart", "(I)Z"⟩, prog_4_method_17_code, 4, (some .boolean))
abbrev xq_234 : xP := (⟨"CapitalCase$Parser", "parseSum", "(I)Z"⟩, prog_4_method_16_code, 4, (some .boolean))
set_option maxRecDepth 10000 in
set_option maxHeartbeats 4000000 in
theorem ex_add {a b : Int32} {μ μ' : xM} {r : Option zV} (h0 : Ex gx xq_43 [.inr (.inl (some 13)), .inl a, .inl b] μ r μ') : r = none ∧ pE μ μ' ∧ (∀ j, μ'.1 12 j = μ.1 12 j) := by
  obtain ⟨n, h⟩ := tx_in (L := [some (.inr (.inl (some 13))), some (.inl a), some (.inl b)]) h0 rfl
  replace h := tx_aload_n (p' := 1) h em43_0 rfl rfl
  replace h := tx_getf (c := 6) (j := 14) (p' := 4) h em43_1 ((congrFun xo_7 66).trans rfl) rfl rfl (by decide) rfl
  replace h := tx_sipush (v := 408) (p' := 7) h em43_4 (by decide +kernel) rfl
  rcases tx_icmp (t := 40) (p' := 10) h em43_7 (by decide) rfl with ⟨c7, h⟩ | ⟨c7, h⟩
  · replace c7 : 408 ≤ (μ.1 13 14).toInt := c7
    obtain ⟨rfl, hμ⟩ := tx_return h em43_40
    subst hμ
    exact ⟨rfl, pE_rf, fun _ => rfl⟩
  · replace c7 : ¬ 408 ≤ (μ.1 13 14).toInt := c7
    replace h := tx_aload_n (p' := 11) h em43_10 rfl rfl
    replace h := tx_getc (c := 6) (j := 12) (p' := 14) h em43_11 ((congrFun xo_7 35).trans rfl) rfl rfl rfl
    replace h := tx_aload_n (p' := 15) h em43_14 rfl rfl
    replace h := tx_getf (c := 6) (j := 14) (p' := 18) h em43_15 ((congrFun xo_7 66).trans rfl) rfl rfl (by decide) rfl
    replace h := tx_iload_n (p' := 19) h em43_18 rfl rfl
    obtain ⟨hb19, h⟩ := tx_iast (len := 408) (p' := 20) h em43_19 rfl rfl
    replace hb19 : 0 ≤ (μ.1 13 14).toInt ∧ (μ.1 13 14).toInt < 408 := hb19
    replace h := tx_aload_n (p' := 21) h em43_20 rfl rfl
    replace h := tx_getc (c := 6) (j := 13) (p' := 24) h em43_21 ((congrFun xo_7 38).trans rfl) rfl rfl rfl
    replace h := tx_aload_n (p' := 25) h em43_24 rfl rfl
    replace h := tx_getf (c := 6) (j := 14) (p' := 28) h em43_25 ((congrFun xo_7 66).trans rfl) rfl rfl (by decide) rfl
    replace h : eT xq_43 _ 28 [some (.inr (.inl (some 13))), some (.inl a), some (.inl b)] [.inl (μ.1 13 14), .inr (.inl (some 22))] (xpi μ 21 (μ.1 13 14).toInt.toNat a) r μ' := h
    replace h := tx_iload_n (p' := 29) h em43_28 rfl rfl
    obtain ⟨hb29, h⟩ := tx_iast (len := 408) (p' := 30) h em43_29 rfl rfl
    replace hb29 : 0 ≤ (μ.1 13 14).toInt ∧ (μ.1 13 14).toInt < 408 := hb29
    replace h := tx_aload_n (p' := 31) h em43_30 rfl rfl
    replace h := tx_dup (p' := 32) h em43_31 rfl
    replace h := tx_getf (c := 6) (j := 14) (p' := 35) h em43_32 ((congrFun xo_7 66).trans rfl) rfl rfl (by decide) rfl
    replace h : eT xq_43 _ 35 [some (.inr (.inl (some 13))), some (.inl a), some (.inl b)] [.inl (μ.1 13 14), .inr (.inl (some 13))] (xpi (xpi μ 21 (μ.1 13 14).toInt.toNat a) 22 (μ.1 13 14).toInt.toNat b) r μ' := h
    replace h := tx_iconst (v := 1) (p' := 36) h em43_35 (by decide +kernel) rfl
    replace h := tx_iadd (p' := 37) h em43_36 rfl
    replace h := tx_putf (a := 13) (c := 6) (j := 14) (p' := 40) h em43_37 ((congrFun xo_7 66).trans rfl) rfl
    obtain ⟨rfl, hμ⟩ := tx_return h em43_40
    subst hμ
    refine ⟨rfl, ⟨fun k j a b c d => ?_, fun j a b c => ?_, fun j a => ?_, rfl⟩, fun j => ?_⟩
    · rw [xpi_ne (fun q => b q.1), xpi_ne (fun q => d q.1), xpi_ne (fun q => c q.1)]
    · rw [xpi_ne (fun q => absurd q.1 (by decide)), xpi_ne (fun q => absurd q.1 (by decide)), xpi_ne (fun q => absurd q.1 (by decide))]
    · rw [xpi_ne (fun q => a q.2), xpi_ne (fun q => absurd q.1 (by decide)), xpi_ne (fun q => absurd q.1 (by decide))]
    · rw [xpi_ne (fun q => absurd q.1 (by decide)), xpi_ne (fun q => absurd q.1 (by decide)), xpi_ne (fun q => absurd q.1 (by decide))]
set_option maxRecDepth 10000 in
set_option maxHeartbeats 4000000 in
theorem ex_intOf {t lo hi : Int32} {μ μ' : xM} {r : Option zV} (h0 : Ex gx xq_11 [.inr (.inl (some 12)), .inl t, .inl lo, .inl hi] μ r μ') {E : Int} (ht : cTV μ E) (ht0 : 0 ≤ t.toInt) (ht1 : t.toInt ≤ E) (hk : cK μ t.toInt = 3) : ∃ v : Int32, r = some (.inl v) ∧ v.toInt = cV μ t.toInt ∧ (((v.toInt < lo.toInt ∨ hi.toInt < v.toInt) ∧ (μ.1 12 6).toInt = 0 ∧ μ' = xpi (xpi μ 12 6 5) 12 7 (μ.1 25 t.toInt.toNat)) ∨ ((¬ (v.toInt < lo.toInt ∨ hi.toInt < v.toInt) ∨ ¬ (μ.1 12 6).toInt = 0) ∧ μ' = μ)) := by
  obtain ⟨n, h⟩ := tx_in (L := [some (.inr (.inl (some 12))), some (.inl t), some (.inl lo), some (.inl hi), none, none]) h0 rfl
  obtain ⟨⟨hdp, hp2⟩, hd1, -⟩ := ht.2.2 t.toInt ht0 ht1
  obtain ⟨hd1, hd2, hd3⟩ := hd1 hk
  have loop : ∀ (n : Nat) (nb i : Int32), eT xq_11 n 6 [some (.inr (.inl (some 12))), some (.inl t), some (.inl lo), some (.inl hi), some (.inl nb), some (.inl i)] [] μ r μ' → 0 ≤ i.toInt → i.toInt ≤ cS μ t.toInt → nb.toInt = cDg μ (cP μ t.toInt).toNat i.toInt.toNat → ∃ v : Int32, r = some (.inl v) ∧ v.toInt = cV μ t.toInt ∧ (((v.toInt < lo.toInt ∨ hi.toInt < v.toInt) ∧ (μ.1 12 6).toInt = 0 ∧ μ' = xpi (xpi μ 12 6 5) 12 7 (μ.1 25 t.toInt.toNat)) ∨ ((¬ (v.toInt < lo.toInt ∨ hi.toInt < v.toInt) ∨ ¬ (μ.1 12 6).toInt = 0) ∧ μ' = μ)) := by
    intro n
    induction n using Nat.strongRecOn with
    | ind n ih =>
    intro nb i h hi0 hi5 hnb
    replace h := tx_iload (p' := 8) h em11_6 rfl rfl
    replace h := tx_aload_n (p' := 9) h em11_8 rfl rfl
    replace h := tx_getc (c := 2) (j := 1) (p' := 12) h em11_9 ((congrFun xo_3 21).trans rfl) rfl rfl rfl
    replace h := tx_getc (c := 7) (j := 2) (p' := 15) h em11_12 ((congrFun xo_3 102).trans rfl) rfl rfl rfl
    replace h := tx_iload_n (p' := 16) h em11_15 rfl rfl
    obtain ⟨hb16, h⟩ := tx_iald (len := 401) (p' := 17) h em11_16 rfl rfl
    replace hb16 : 0 ≤ t.toInt ∧ t.toInt < 401 := hb16
    rcases tx_icmp (t := 54) (p' := 20) h em11_17 (by decide) rfl with ⟨c17, h⟩ | ⟨c17, h⟩
    · replace c17 : (μ.1 26 t.toInt.toNat).toInt ≤ i.toInt := c17
      replace c17 : cS μ t.toInt ≤ i.toInt := by unfold cS; omega
      have hnb2 : nb.toInt = cV μ t.toInt := by unfold cV; rw [hnb, show i.toInt.toNat = (cS μ t.toInt).toNat by omega]
      replace h := tx_aload_n (p' := 55) h em11_54 rfl rfl
      replace h := tx_iload (p' := 57) h em11_55 rfl rfl
      replace h := tx_iload_n (p' := 58) h em11_57 rfl rfl
      rcases tx_icmp (t := 67) (p' := 61) h em11_58 (by decide) rfl with ⟨c58, h⟩ | ⟨c58, h⟩
      · replace c58 : nb.toInt < lo.toInt := c58
        replace h := tx_iconst (v := 1) (p' := 68) h em11_67 (by decide +kernel) rfl
        replace h := tx_goto (t := 72) h em11_68 (by decide)
        replace h := tx_iconst (v := 5) (p' := 73) h em11_72 (by decide +kernel) rfl
        replace h := tx_iload_n (p' := 74) h em11_73 rfl rfl
        obtain ⟨r74, μ74, hE74, h⟩ := tx_invV (na := 4) (mn := 14) (as := [.inr (.inl (some 12)), .inl (1 : Int32), .inl (5 : Int32), .inl t]) (rest := []) (p' := 77) h em11_74 ((congrFun xo_3 98).trans rfl) xm_14 rfl rfl
        obtain ⟨rfl, hm⟩ := ex_noteLater hE74
        replace h : eT xq_11 _ 77 [some (.inr (.inl (some 12))), some (.inl t), some (.inl lo), some (.inl hi), some (.inl nb), some (.inl i)] [] μ74 r μ' := h
        replace h := tx_iload (p' := 79) h em11_77 rfl rfl
        obtain ⟨rfl, hμ⟩ := tx_ireturn h em11_79
        subst hμ
        refine ⟨nb, rfl, hnb2, ?_⟩
        rcases hm with ⟨g1, g2, g3⟩ | ⟨g1, g2⟩
        · first
            | (exfalso; exact g1 (by decide))
            | exact Or.inl ⟨by omega, g2, g3⟩
        · first
            | exact Or.inr ⟨by omega, g2⟩
            | (refine Or.inr ⟨?_, g2⟩; rcases g1 with g1 | g1; · exact absurd g1 (by decide)
               · exact Or.inr g1)
      · replace c58 : ¬ nb.toInt < lo.toInt := c58
        replace h := tx_iload (p' := 63) h em11_61 rfl rfl
        replace h := tx_iload_n (p' := 64) h em11_63 rfl rfl
        rcases tx_icmp (t := 71) (p' := 67) h em11_64 (by decide) rfl with ⟨c64, h⟩ | ⟨c64, h⟩
        · replace c64 : nb.toInt ≤ hi.toInt := c64
          replace h := tx_iconst (v := 0) (p' := 72) h em11_71 (by decide +kernel) rfl
          replace h := tx_iconst (v := 5) (p' := 73) h em11_72 (by decide +kernel) rfl
          replace h := tx_iload_n (p' := 74) h em11_73 rfl rfl
          obtain ⟨r74_1, μ74_1, hE74_1, h⟩ := tx_invV (na := 4) (mn := 14) (as := [.inr (.inl (some 12)), .inl (0 : Int32), .inl (5 : Int32), .inl t]) (rest := []) (p' := 77) h em11_74 ((congrFun xo_3 98).trans rfl) xm_14 rfl rfl
          obtain ⟨rfl, hm⟩ := ex_noteLater hE74_1
          replace h : eT xq_11 _ 77 [some (.inr (.inl (some 12))), some (.inl t), some (.inl lo), some (.inl hi), some (.inl nb), some (.inl i)] [] μ74_1 r μ' := h
          replace h := tx_iload (p' := 79) h em11_77 rfl rfl
          obtain ⟨rfl, hμ⟩ := tx_ireturn h em11_79
          subst hμ
          refine ⟨nb, rfl, hnb2, ?_⟩
          rcases hm with ⟨g1, g2, g3⟩ | ⟨g1, g2⟩
          · first
              | (exfalso; exact g1 (by decide))
              | exact Or.inl ⟨by omega, g2, g3⟩
          · first
              | exact Or.inr ⟨by omega, g2⟩
              | (refine Or.inr ⟨?_, g2⟩; rcases g1 with g1 | g1; · exact absurd g1 (by decide)
                 · exact Or.inr g1)
        · replace c64 : ¬ nb.toInt ≤ hi.toInt := c64
          replace h := tx_iconst (v := 1) (p' := 68) h em11_67 (by decide +kernel) rfl
          replace h := tx_goto (t := 72) h em11_68 (by decide)
          replace h := tx_iconst (v := 5) (p' := 73) h em11_72 (by decide +kernel) rfl
          replace h := tx_iload_n (p' := 74) h em11_73 rfl rfl
          obtain ⟨r74_2, μ74_2, hE74_2, h⟩ := tx_invV (na := 4) (mn := 14) (as := [.inr (.inl (some 12)), .inl (1 : Int32), .inl (5 : Int32), .inl t]) (rest := []) (p' := 77) h em11_74 ((congrFun xo_3 98).trans rfl) xm_14 rfl rfl
          obtain ⟨rfl, hm⟩ := ex_noteLater hE74_2
          replace h : eT xq_11 _ 77 [some (.inr (.inl (some 12))), some (.inl t), some (.inl lo), some (.inl hi), some (.inl nb), some (.inl i)] [] μ74_2 r μ' := h
          replace h := tx_iload (p' := 79) h em11_77 rfl rfl
          obtain ⟨rfl, hμ⟩ := tx_ireturn h em11_79
          subst hμ
          refine ⟨nb, rfl, hnb2, ?_⟩
          rcases hm with ⟨g1, g2, g3⟩ | ⟨g1, g2⟩
          · first
              | (exfalso; exact g1 (by decide))
              | exact Or.inl ⟨by omega, g2, g3⟩
          · first
              | exact Or.inr ⟨by omega, g2⟩
              | (refine Or.inr ⟨?_, g2⟩; rcases g1 with g1 | g1; · exact absurd g1 (by decide)
                 · exact Or.inr g1)
    · replace c17 : ¬ (μ.1 26 t.toInt.toNat).toInt ≤ i.toInt := c17
      replace c17 : i.toInt < cS μ t.toInt := by unfold cS; omega
      have hdb := cDg_b (μ := μ) (p := (cP μ t.toInt).toNat) (k := i.toInt.toNat) (fun j hj => hd3 j (by omega))
      have h10 : (10 : Int) ^ i.toInt.toNat ≤ 1000 := by
        have : i.toInt.toNat = 0 ∨ i.toInt.toNat = 1 ∨ i.toInt.toNat = 2 ∨ i.toInt.toNat = 3 := by omega
        rcases this with e | e | e | e <;> rw [e] <;> decide
      have hdi := hd3 i.toInt.toNat (by omega)
      have e10 : (10 : Int32).toInt = 10 := by decide
      have e48 : (48 : Int32).toInt = 48 := by decide
      have e1 : (1 : Int32).toInt = 1 := by decide
      have ea : ((μ.1 25 t.toInt.toNat) + i).toInt = cP μ t.toInt + i.toInt := by rw [an_add (by unfold cP at hdp hp2; omega) (by unfold cP at hdp hp2; omega)]; rfl
      have eb : (μ.1 1 ((μ.1 25 t.toInt.toNat) + i).toInt.toNat) = μ.1 1 ((cP μ t.toInt).toNat + i.toInt.toNat) := by rw [ea, show (cP μ t.toInt + i.toInt).toNat = (cP μ t.toInt).toNat + i.toInt.toNat by omega]
      have hm10 : (nb * 10).toInt = nb.toInt * 10 := by rw [an_mul (by rw [e10]; omega) (by rw [e10]; omega), e10]
      have hnb1 : ((nb * 10) + (μ.1 1 ((μ.1 25 t.toInt.toNat) + i).toInt.toNat) - 48).toInt = nb.toInt * 10 + ((μ.1 1 (cP μ t.toInt + i.toInt).toNat).toInt - 48) := by
        rw [show (cP μ t.toInt + i.toInt).toNat = (cP μ t.toInt).toNat + i.toInt.toNat by omega, eb]
        have e2 : ((nb * 10) + (μ.1 1 ((cP μ t.toInt).toNat + i.toInt.toNat))).toInt = nb.toInt * 10 + (μ.1 1 ((cP μ t.toInt).toNat + i.toInt.toNat)).toInt := by rw [an_add (by rw [hm10]; omega) (by rw [hm10]; omega), hm10]
        rw [an_sub (by rw [e2, e48]; omega) (by rw [e2, e48]; omega), e2, e48]
        omega
      have hi1 : (i + 1).toInt = i.toInt + 1 := by rw [an_add (by rw [e1]; omega) (by rw [e1]; omega), e1]
      replace h := tx_iload (p' := 22) h em11_20 rfl rfl
      replace h := tx_bipush (v := 10) (p' := 24) h em11_22 (by decide +kernel) rfl
      replace h := tx_imul (p' := 25) h em11_24 rfl
      replace h := tx_aload_n (p' := 26) h em11_25 rfl rfl
      replace h := tx_getc (c := 2) (j := 2) (p' := 29) h em11_26 ((congrFun xo_3 29).trans rfl) rfl rfl rfl
      replace h := tx_aload_n (p' := 30) h em11_29 rfl rfl
      replace h := tx_getc (c := 2) (j := 1) (p' := 33) h em11_30 ((congrFun xo_3 21).trans rfl) rfl rfl rfl
      replace h := tx_getc (c := 7) (j := 1) (p' := 36) h em11_33 ((congrFun xo_3 83).trans rfl) rfl rfl rfl
      replace h := tx_iload_n (p' := 37) h em11_36 rfl rfl
      obtain ⟨hb37, h⟩ := tx_iald (len := 401) (p' := 38) h em11_37 rfl rfl
      replace hb37 : 0 ≤ t.toInt ∧ t.toInt < 401 := hb37
      replace h := tx_iload (p' := 40) h em11_38 rfl rfl
      replace h := tx_iadd (p' := 41) h em11_40 rfl
      obtain ⟨hb41, h⟩ := tx_bald (len := 2000) (p' := 42) h em11_41 rfl rfl
      replace hb41 : 0 ≤ ((μ.1 25 t.toInt.toNat) + i).toInt ∧ ((μ.1 25 t.toInt.toNat) + i).toInt < 2000 := hb41
      replace h := tx_iadd (p' := 43) h em11_42 rfl
      replace h := tx_bipush (v := 48) (p' := 45) h em11_43 (by decide +kernel) rfl
      replace h := tx_isub (p' := 46) h em11_45 rfl
      replace h := tx_istore (p' := 48) h em11_46 rfl
      replace h : eT xq_11 _ 48 [some (.inr (.inl (some 12))), some (.inl t), some (.inl lo), some (.inl hi), some (.inl (((nb * (10 : Int32)) + (μ.1 1 ((μ.1 25 t.toInt.toNat) + i).toInt.toNat)) - (48 : Int32))), some (.inl i)] [] μ r μ' := h
      replace h := tx_iinc (v := 1) (p' := 51) h em11_48 (by decide +kernel) rfl rfl
      replace h : eT xq_11 _ 51 [some (.inr (.inl (some 12))), some (.inl t), some (.inl lo), some (.inl hi), some (.inl (((nb * (10 : Int32)) + (μ.1 1 ((μ.1 25 t.toInt.toNat) + i).toInt.toNat)) - (48 : Int32))), some (.inl (i + 1))] [] μ r μ' := h
      obtain ⟨n2, hn2, h⟩ := tx_gotoS (t := 6) h em11_51 (by decide)
      exact ih n2 hn2 (((nb * (10 : Int32)) + (μ.1 1 ((μ.1 25 t.toInt.toNat) + i).toInt.toNat)) - (48 : Int32)) (i + 1) h (by rw [hi1]; omega) (by rw [hi1]; omega) (by rw [hnb1, hi1, show (i.toInt + 1).toNat = i.toInt.toNat + 1 by omega]; unfold cDg; rw [hnb, show (cP μ t.toInt).toNat + i.toInt.toNat = (cP μ t.toInt + i.toInt).toNat by omega])
  replace h := tx_iconst (v := 0) (p' := 1) h em11_0 (by decide +kernel) rfl
  replace h := tx_istore (p' := 3) h em11_1 rfl
  replace h : eT xq_11 _ 3 [some (.inr (.inl (some 12))), some (.inl t), some (.inl lo), some (.inl hi), some (.inl (0 : Int32)), none] [] μ r μ' := h
  replace h := tx_iconst (v := 0) (p' := 4) h em11_3 (by decide +kernel) rfl
  replace h := tx_istore (p' := 6) h em11_4 rfl
  replace h : eT xq_11 _ 6 [some (.inr (.inl (some 12))), some (.inl t), some (.inl lo), some (.inl hi), some (.inl (0 : Int32)), some (.inl (0 : Int32))] [] μ r μ' := h
  exact loop _ _ _ h (by decide) (by show (0 : Int) ≤ _; omega) rfl
