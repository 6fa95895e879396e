/-! ===== the reference: its row, its history; set ===== -/
theorem xcp_s {μ : xM} {a b n : Nat} : xpi (xcp μ a b n) b n (μ.1 a n) = xcp μ a b (n + 1) := by
  refine Prod.ext (funext fun k => funext fun j => ?_) rfl
  show (if k = b ∧ j = n then μ.1 a n else if k = b ∧ j < n then μ.1 a j else μ.1 k j) = if k = b ∧ j < n + 1 then μ.1 a j else μ.1 k j
  by_cases h1 : k = b ∧ j = n
  · rw [if_pos h1, if_pos ⟨h1.1, by omega⟩, h1.2]
  · rw [if_neg h1]
    by_cases h2 : k = b ∧ j < n
    · rw [if_pos h2, if_pos ⟨h2.1, by omega⟩]
    · rw [if_neg h2, if_neg (fun q => by omega)]
theorem xcp_0 {μ : xM} {a b : Nat} : xcp μ a b 0 = μ := by
  refine Prod.ext (funext fun k => funext fun j => ?_) rfl
  show (if k = b ∧ j < 0 then μ.1 a j else μ.1 k j) = μ.1 k j
  rw [if_neg (fun q => absurd q.2 (Nat.not_lt_zero j))]
/-- the reference's history: G 0 the newest of m -/
def mH (m : Nat) (G : Nat → Nat → Int32) (μ : xM) : Prop := (μ.1 75 10).toInt = (m : Int) ∧ m ≤ 30 ∧ ∀ i, i < m → ∀ k, k < 390 → μ.1 112 (390 * (m - 1 - i) + k) = G i k
def gHi (μ μ' : xM) : Prop := (∀ a j, a ≠ 112 → ¬ (a = 75 ∧ j = 10) → μ'.1 a j = μ.1 a j) ∧ μ'.2 = μ.2
theorem gHi_rf {μ : xM} : gHi μ μ := ⟨fun _ _ _ _ => rfl, rfl⟩
theorem gHi_i {μ ν : xM} {j : Nat} {v : Int32} (h : gHi μ ν) : gHi μ (xpi ν 112 j v) := ⟨fun a i p q => (xpi_ne (fun z => p z.1)).trans (h.1 a i p q), h.2⟩
theorem gHi_u {μ ν : xM} {v : Int32} (h : gHi μ ν) : gHi μ (xpi ν 75 10 v) := ⟨fun a i p q => (xpi_ne (fun z => q z)).trans (h.1 a i p q), h.2⟩
abbrev xq_129 : xP := (⟨"CapitalCaseModel", "copies", "()V"⟩, prog_14_method_48_code, 2, none)
abbrev xq_181 : xP := (⟨"CapitalCaseModel", "records", "()V"⟩, prog_14_method_76_code, 2, none)
abbrev xq_153 : xP := (⟨"CapitalCaseModel", "isOpen", "(I)Z"⟩, prog_14_method_66_code, 2, (some .boolean))
abbrev xq_184 : xP := (⟨"CapitalCaseModel", "set", "(I)Z"⟩, prog_14_method_77_code, 2, (some .boolean))
set_option maxRecDepth 10000 in
set_option maxHeartbeats 4000000 in
theorem ex_keepsRow {μ μ' : xM} {r : Option zV} (h0 : Ex gx xq_157 [.inr (.inl (some 75))] μ r μ') : r = none ∧ μ' = xcp μ 108 107 390 := by
  obtain ⟨n, h⟩ := tx_in (L := [some (.inr (.inl (some 75))), none]) h0 rfl
  have e1i : (1 : Int32).toInt = 1 := by decide
  have loop : ∀ (n k : Nat) (i : Int32) (ω : xM), eT xq_157 n 2 [some (.inr (.inl (some 75))), some (.inl i)] [] ω r μ' → i.toInt = (k : Int) → k ≤ 390 → ω = xcp μ 108 107 k → r = none ∧ μ' = xcp μ 108 107 390 := by
    intro n
    induction n using Nat.strongRecOn with
    | ind n ih =>
    intro k i ω h hi hk hω
    replace h := tx_iload_n (p' := 3) h em157_2 rfl rfl
    replace h := tx_sipush (v := 390) (p' := 6) h em157_3 (by decide +kernel) rfl
    rcases tx_icmp (t := 27) (p' := 9) h em157_6 (by decide) rfl with ⟨c6, h⟩ | ⟨c6, h⟩
    · replace c6 : 390 ≤ i.toInt := c6
      obtain ⟨rfl, hμ⟩ := tx_return h em157_27
      rw [hμ, hω, show k = 390 by omega]
      exact ⟨rfl, rfl⟩
    · replace c6 : ¬ 390 ≤ i.toInt := c6
      replace h := tx_aload_n (p' := 10) h em157_9 rfl rfl
      replace h := tx_getc (c := 12) (j := 1) (p' := 13) h em157_10 ((congrFun xo_12 113).trans rfl) rfl rfl rfl
      replace h := tx_iload_n (p' := 14) h em157_13 rfl rfl
      replace h := tx_aload_n (p' := 15) h em157_14 rfl rfl
      replace h := tx_getc (c := 12) (j := 0) (p' := 18) h em157_15 ((congrFun xo_12 116).trans rfl) rfl rfl rfl
      replace h := tx_iload_n (p' := 19) h em157_18 rfl rfl
      obtain ⟨hb19, h⟩ := tx_iald (len := 390) (p' := 20) h em157_19 rfl rfl
      replace hb19 : (0 : Int) ≤ i.toInt ∧ i.toInt < 390 := hb19
      obtain ⟨hb20, h⟩ := tx_iast (len := 390) (p' := 21) h em157_20 rfl rfl
      replace hb20 : (0 : Int) ≤ i.toInt ∧ i.toInt < 390 := hb20
      replace h := tx_iinc (v := 1) (p' := 24) h em157_21 (by decide +kernel) rfl rfl
      replace h : eT xq_157 _ 24 [some (.inr (.inl (some 75))), some (.inl (i + 1))] [] (xpi ω 107 i.toInt.toNat (ω.1 108 i.toInt.toNat)) r μ' := h
      obtain ⟨n2, hn2, h⟩ := tx_gotoS (t := 2) h em157_24 (by decide)
      have ei : (i + 1).toInt = ((k + 1 : Nat) : Int) := by rw [an_add (by rw [e1i]; omega) (by rw [e1i]; omega), e1i]; omega
      refine ih n2 hn2 (k + 1) _ _ h ei (by omega) ?_
      rw [show i.toInt.toNat = k by omega, hω, xcp_ne (by decide)]
      exact xcp_s
  replace h := tx_iconst (v := 0) (p' := 1) h em157_0 (by decide +kernel) rfl
  replace h := tx_istore_n (p' := 2) h em157_1 rfl
  replace h : eT xq_157 _ 2 [some (.inr (.inl (some 75))), some (.inl (0 : Int32))] [] μ r μ' := h
  exact loop _ 0 _ _ h (by decide) (Nat.zero_le _) xcp_0.symm
set_option maxRecDepth 10000 in
set_option maxHeartbeats 4000000 in
theorem ex_copies {μ μ' : xM} {r : Option zV} (h0 : Ex gx xq_129 [.inr (.inl (some 75))] μ r μ') : r = none ∧ μ' = xpi (xpi (xpi (xcp μ 107 108 390) 75 6 (μ.1 93 (μ.1 75 2).toInt.toNat)) 75 7 (0 : Int32)) 75 8 (-1 : Int32) := by
  obtain ⟨n, h⟩ := tx_in (L := [some (.inr (.inl (some 75))), none]) h0 rfl
  have e1i : (1 : Int32).toInt = 1 := by decide
  have loop : ∀ (n k : Nat) (i : Int32) (ω : xM), eT xq_129 n 2 [some (.inr (.inl (some 75))), some (.inl i)] [] ω r μ' → i.toInt = (k : Int) → k ≤ 390 → ω = xcp μ 107 108 k → r = none ∧ μ' = xpi (xpi (xpi (xcp μ 107 108 390) 75 6 (μ.1 93 (μ.1 75 2).toInt.toNat)) 75 7 (0 : Int32)) 75 8 (-1 : Int32) := by
    intro n
    induction n using Nat.strongRecOn with
    | ind n ih =>
    intro k i ω h hi hk hω
    replace h := tx_iload_n (p' := 3) h em129_2 rfl rfl
    replace h := tx_sipush (v := 390) (p' := 6) h em129_3 (by decide +kernel) rfl
    rcases tx_icmp (t := 27) (p' := 9) h em129_6 (by decide) rfl with ⟨c6, h⟩ | ⟨c6, h⟩
    · replace c6 : 390 ≤ i.toInt := c6
      replace h := tx_aload_n (p' := 28) h em129_27 rfl rfl
      replace h := tx_aload_n (p' := 29) h em129_28 rfl rfl
      replace h := tx_getc (c := 12) (j := 5) (p' := 32) h em129_29 ((congrFun xo_12 70).trans rfl) rfl rfl rfl
      replace h := tx_aload_n (p' := 33) h em129_32 rfl rfl
      replace h := tx_getf (c := 12) (j := 2) (p' := 36) h em129_33 ((congrFun xo_12 230).trans rfl) rfl rfl (by decide) rfl
      obtain ⟨hb36, h⟩ := tx_iald (len := 2) (p' := 37) h em129_36 rfl rfl
      replace hb36 : (0 : Int) ≤ (ω.1 75 2).toInt ∧ (ω.1 75 2).toInt < 2 := hb36
      replace h := tx_putf (a := 75) (c := 12) (j := 6) (p' := 40) h em129_37 ((congrFun xo_12 328).trans rfl) rfl
      replace h := tx_aload_n (p' := 41) h em129_40 rfl rfl
      replace h := tx_iconst (v := 0) (p' := 42) h em129_41 (by decide +kernel) rfl
      replace h := tx_putf (a := 75) (c := 12) (j := 7) (p' := 45) h em129_42 ((congrFun xo_12 331).trans rfl) rfl
      replace h := tx_aload_n (p' := 46) h em129_45 rfl rfl
      replace h := tx_iconst (v := (-1)) (p' := 47) h em129_46 (by decide +kernel) rfl
      replace h := tx_putf (a := 75) (c := 12) (j := 8) (p' := 50) h em129_47 ((congrFun xo_12 334).trans rfl) rfl
      obtain ⟨rfl, hμ⟩ := tx_return h em129_50
      replace hμ : μ' = (xpi (xpi (xpi ω 75 6 (ω.1 93 (ω.1 75 2).toInt.toNat)) 75 7 (0 : Int32)) 75 8 (-1 : Int32)) := hμ
      have ek : k = 390 := by omega
      rw [ek] at hω
      rw [hμ, hω]
      exact ⟨rfl, rfl⟩
    · replace c6 : ¬ 390 ≤ i.toInt := c6
      replace h := tx_aload_n (p' := 10) h em129_9 rfl rfl
      replace h := tx_getc (c := 12) (j := 0) (p' := 13) h em129_10 ((congrFun xo_12 116).trans rfl) rfl rfl rfl
      replace h := tx_iload_n (p' := 14) h em129_13 rfl rfl
      replace h := tx_aload_n (p' := 15) h em129_14 rfl rfl
      replace h := tx_getc (c := 12) (j := 1) (p' := 18) h em129_15 ((congrFun xo_12 113).trans rfl) rfl rfl rfl
      replace h := tx_iload_n (p' := 19) h em129_18 rfl rfl
      obtain ⟨hb19, h⟩ := tx_iald (len := 390) (p' := 20) h em129_19 rfl rfl
      replace hb19 : (0 : Int) ≤ i.toInt ∧ i.toInt < 390 := hb19
      obtain ⟨hb20, h⟩ := tx_iast (len := 390) (p' := 21) h em129_20 rfl rfl
      replace hb20 : (0 : Int) ≤ i.toInt ∧ i.toInt < 390 := hb20
      replace h := tx_iinc (v := 1) (p' := 24) h em129_21 (by decide +kernel) rfl rfl
      replace h : eT xq_129 _ 24 [some (.inr (.inl (some 75))), some (.inl (i + 1))] [] (xpi ω 108 i.toInt.toNat (ω.1 107 i.toInt.toNat)) r μ' := h
      obtain ⟨n2, hn2, h⟩ := tx_gotoS (t := 2) h em129_24 (by decide)
      have ei : (i + 1).toInt = ((k + 1 : Nat) : Int) := by rw [an_add (by rw [e1i]; omega) (by rw [e1i]; omega), e1i]; omega
      refine ih n2 hn2 (k + 1) _ _ h ei (by omega) ?_
      rw [show i.toInt.toNat = k by omega, hω, xcp_ne (by decide)]
      exact xcp_s
  replace h := tx_iconst (v := 0) (p' := 1) h em129_0 (by decide +kernel) rfl
  replace h := tx_istore_n (p' := 2) h em129_1 rfl
  replace h : eT xq_129 _ 2 [some (.inr (.inl (some 75))), some (.inl (0 : Int32))] [] μ r μ' := h
  exact loop _ 0 _ _ h (by decide) (Nat.zero_le _) xcp_0.symm
set_option maxRecDepth 10000 in
set_option maxHeartbeats 4000000 in
theorem ex_records {m : Nat} {G : Nat → Nat → Int32} {μ μ' : xM} {r : Option zV} (h0 : Ex gx xq_181 [.inr (.inl (some 75))] μ r μ') (hH : mH m G μ) : r = none ∧ mH (min 30 (m + 1)) (gcons (fun x => μ.1 107 x) G) μ' ∧ (∀ k, k < 390 → μ'.1 107 k = μ.1 108 k) ∧ (∀ a j, a ≠ 107 → a ≠ 112 → ¬ (a = 75 ∧ j = 10) → μ'.1 a j = μ.1 a j) ∧ μ'.2 = μ.2 := by
  obtain ⟨n, h⟩ := tx_in (L := [some (.inr (.inl (some 75))), none]) h0 rfl
  obtain ⟨hm1, hm2, hm3⟩ := hH
  have e1i : (1 : Int32).toInt = 1 := by decide
  have e390 : (390 : Int32).toInt = 390 := by decide
  have main : ∀ m0 : Nat, m0 ≤ 29 → min 30 (m + 1) = m0 + 1 → ∀ (n k : Nat) (i : Int32) (ω : xM), eT xq_181 n 52 [some (.inr (.inl (some 75))), some (.inl i)] [] ω r μ' → i.toInt = (k : Int) → k ≤ 390 → gHi μ ω → (ω.1 75 10).toInt = (m0 : Int) → (∀ i, i < m0 → ∀ j, j < 390 → ω.1 112 (390 * (m0 - 1 - i) + j) = G i j) → (∀ j, j < k → ω.1 112 (390 * m0 + j) = μ.1 107 j) → r = none ∧ mH (min 30 (m + 1)) (gcons (fun x => μ.1 107 x) G) μ' ∧ (∀ k, k < 390 → μ'.1 107 k = μ.1 108 k) ∧ (∀ a j, a ≠ 107 → a ≠ 112 → ¬ (a = 75 ∧ j = 10) → μ'.1 a j = μ.1 a j) ∧ μ'.2 = μ.2 := by
    intro m0 hm0 hmm n
    induction n using Nat.strongRecOn with
    | ind n ih =>
    intro k i ω h hi hk hG hu hh hn
    have u1 : ((390 : Int32) * (ω.1 75 10)).toInt = 390 * (m0 : Int) := by rw [an_mul (by rw [e390]; omega) (by rw [e390]; omega), e390, hu]
    replace h := tx_iload_n (p' := 53) h em181_52 rfl rfl
    replace h := tx_sipush (v := 390) (p' := 56) h em181_53 (by decide +kernel) rfl
    rcases tx_icmp (t := 86) (p' := 59) h em181_56 (by decide) rfl with ⟨c56, h⟩ | ⟨c56, h⟩
    · replace c56 : 390 ≤ i.toInt := c56
      replace h := tx_aload_n (p' := 87) h em181_86 rfl rfl
      replace h := tx_dup (p' := 88) h em181_87 rfl
      replace h := tx_getf (c := 12) (j := 10) (p' := 91) h em181_88 ((congrFun xo_12 248).trans rfl) rfl rfl (by decide) rfl
      replace h := tx_iconst (v := 1) (p' := 92) h em181_91 (by decide +kernel) rfl
      replace h := tx_iadd (p' := 93) h em181_92 rfl
      replace h := tx_putf (a := 75) (c := 12) (j := 10) (p' := 96) h em181_93 ((congrFun xo_12 248).trans rfl) rfl
      replace h := tx_aload_n (p' := 97) h em181_96 rfl rfl
      obtain ⟨r97, μ97, hE97, h⟩ := tx_invV (na := 1) (mn := 157) (as := [.inr (.inl (some 75))]) (rest := []) (p' := 100) h em181_97 ((congrFun xo_12 160).trans rfl) xm_157 rfl rfl
      obtain ⟨rfl, hmk⟩ := ex_keepsRow hE97
      rw [hmk] at h
      replace h : eT xq_181 _ 100 [some (.inr (.inl (some 75))), some (.inl i)] [] (xcp (xpi ω 75 10 ((ω.1 75 10) + (1 : Int32))) 108 107 390) r μ' := h
      obtain ⟨rfl, hμ⟩ := tx_return h em181_100
      replace hμ : μ' = (xcp (xpi ω 75 10 ((ω.1 75 10) + (1 : Int32))) 108 107 390) := hμ
      have u3 : ((ω.1 75 10) + (1 : Int32)).toInt = (m0 : Int) + 1 := by rw [an_add (by rw [e1i]; omega) (by rw [e1i]; omega), e1i, hu]
      rw [hμ, hmm]
      refine ⟨rfl, ⟨?_, by omega, fun i hi k9 hk9 => ?_⟩, fun k9 hk9 => ?_, fun a j p q w => ?_, hG.2⟩
      · rw [xcp_ne (by decide), xpi_at, u3]; omega
      · rw [xcp_ne (by decide), xpi_ne (fun q => absurd q.1 (by decide))]
        cases i with
        | zero => exact hn k9 (by omega)
        | succ i => rw [show m0 + 1 - 1 - (i + 1) = m0 - 1 - i by omega]; exact hh i (by omega) k9 hk9
      · rw [xcp_at hk9, xpi_ne (fun q => absurd q.1 (by decide))]; exact hG.1 108 k9 (by decide) (fun q => absurd q.1 (by decide))
      · rw [xcp_ne p, xpi_ne w]; exact hG.1 a j q w
    · replace c56 : ¬ 390 ≤ i.toInt := c56
      replace h := tx_aload_n (p' := 60) h em181_59 rfl rfl
      replace h := tx_getc (c := 12) (j := 11) (p' := 63) h em181_60 ((congrFun xo_12 128).trans rfl) rfl rfl rfl
      replace h := tx_sipush (v := 390) (p' := 66) h em181_63 (by decide +kernel) rfl
      replace h := tx_aload_n (p' := 67) h em181_66 rfl rfl
      replace h := tx_getf (c := 12) (j := 10) (p' := 70) h em181_67 ((congrFun xo_12 248).trans rfl) rfl rfl (by decide) rfl
      replace h := tx_imul (p' := 71) h em181_70 rfl
      replace h := tx_iload_n (p' := 72) h em181_71 rfl rfl
      replace h := tx_iadd (p' := 73) h em181_72 rfl
      replace h := tx_aload_n (p' := 74) h em181_73 rfl rfl
      replace h := tx_getc (c := 12) (j := 1) (p' := 77) h em181_74 ((congrFun xo_12 113).trans rfl) rfl rfl rfl
      replace h := tx_iload_n (p' := 78) h em181_77 rfl rfl
      obtain ⟨hb78, h⟩ := tx_iald (len := 390) (p' := 79) h em181_78 rfl rfl
      replace hb78 : (0 : Int) ≤ i.toInt ∧ i.toInt < 390 := hb78
      obtain ⟨hb79, h⟩ := tx_iast (len := 11700) (p' := 80) h em181_79 rfl rfl
      replace hb79 : (0 : Int) ≤ (((390 : Int32) * (ω.1 75 10)) + i).toInt ∧ (((390 : Int32) * (ω.1 75 10)) + i).toInt < 11700 := hb79
      replace h := tx_iinc (v := 1) (p' := 83) h em181_80 (by decide +kernel) rfl rfl
      replace h : eT xq_181 _ 83 [some (.inr (.inl (some 75))), some (.inl (i + 1))] [] (xpi ω 112 (((390 : Int32) * (ω.1 75 10)) + i).toInt.toNat (ω.1 107 i.toInt.toNat)) r μ' := h
      obtain ⟨n2, hn2, h⟩ := tx_gotoS (t := 52) h em181_83 (by decide)
      have ei : (i + 1).toInt = ((k + 1 : Nat) : Int) := by rw [an_add (by rw [e1i]; omega) (by rw [e1i]; omega), e1i]; omega
      have u2 : (((390 : Int32) * (ω.1 75 10)) + i).toInt.toNat = 390 * m0 + k := by
        have : (((390 : Int32) * (ω.1 75 10)) + i).toInt = 390 * (m0 : Int) + k := by rw [an_add (by rw [u1]; omega) (by rw [u1]; omega), u1, hi]
        omega
      rw [u2, show i.toInt.toNat = k by omega] at h
      refine ih n2 hn2 (k + 1) _ _ h ei (by omega) (gHi_i hG) hu (fun i hi j hj => ?_) (fun j hj => ?_)
      · rw [xpi_ne (fun q => by
          have : 390 * (m0 - 1 - i) + 390 ≤ 390 * m0 := by
            have : 390 * (m0 - 1 - i) + 390 = 390 * (m0 - 1 - i + 1) := by omega
            rw [this]
            exact Nat.mul_le_mul_left _ (by omega)
          omega)]
        exact hh i hi j hj
      · by_cases e : j = k
        · rw [e, xpi_at]; exact hG.1 107 k (by decide) (fun q => absurd q.1 (by decide))
        · rw [xpi_ne (fun q => e (by omega))]; exact hn j (by omega)
  have L50 : ∀ (m0 n : Nat) (ω : xM) {o : Option zV}, m0 ≤ 29 → min 30 (m + 1) = m0 + 1 → eT xq_181 n 50 [some (.inr (.inl (some 75))), o] [] ω r μ' → gHi μ ω → (ω.1 75 10).toInt = (m0 : Int) → (∀ i, i < m0 → ∀ j, j < 390 → ω.1 112 (390 * (m0 - 1 - i) + j) = G i j) → r = none ∧ mH (min 30 (m + 1)) (gcons (fun x => μ.1 107 x) G) μ' ∧ (∀ k, k < 390 → μ'.1 107 k = μ.1 108 k) ∧ (∀ a j, a ≠ 107 → a ≠ 112 → ¬ (a = 75 ∧ j = 10) → μ'.1 a j = μ.1 a j) ∧ μ'.2 = μ.2 := by
    intro m0 n ω o hm0 hmm h hG hu hh
    replace h := tx_iconst (v := 0) (p' := 51) h em181_50 (by decide +kernel) rfl
    replace h := tx_istore_n (p' := 52) h em181_51 rfl
    replace h : eT xq_181 _ 52 [some (.inr (.inl (some 75))), some (.inl (0 : Int32))] [] ω r μ' := h
    exact main m0 hm0 hmm _ 0 _ _ h (by decide) (Nat.zero_le _) hG hu hh (fun j hj => absurd hj (Nat.not_lt_zero j))
  have loop1 : m = 30 → ∀ (n k : Nat) (i : Int32) (ω : xM), eT xq_181 n 11 [some (.inr (.inl (some 75))), some (.inl i)] [] ω r μ' → i.toInt = (k : Int) → k ≤ 11310 → gHi μ ω → (ω.1 75 10).toInt = 30 → (∀ j, ω.1 112 j = if j < k then μ.1 112 (j + 390) else μ.1 112 j) → r = none ∧ mH (min 30 (m + 1)) (gcons (fun x => μ.1 107 x) G) μ' ∧ (∀ k, k < 390 → μ'.1 107 k = μ.1 108 k) ∧ (∀ a j, a ≠ 107 → a ≠ 112 → ¬ (a = 75 ∧ j = 10) → μ'.1 a j = μ.1 a j) ∧ μ'.2 = μ.2 := by
    intro hm n
    induction n using Nat.strongRecOn with
    | ind n ih =>
    intro k i ω h hi hk hG hu hF
    replace h := tx_iload_n (p' := 12) h em181_11 rfl rfl
    replace h := tx_sipush (v := 11310) (p' := 15) h em181_12 (by decide +kernel) rfl
    rcases tx_icmp (t := 40) (p' := 18) h em181_15 (by decide) rfl with ⟨c15, h⟩ | ⟨c15, h⟩
    · replace c15 : 11310 ≤ i.toInt := c15
      replace h := tx_aload_n (p' := 41) h em181_40 rfl rfl
      replace h := tx_dup (p' := 42) h em181_41 rfl
      replace h := tx_getf (c := 12) (j := 10) (p' := 45) h em181_42 ((congrFun xo_12 248).trans rfl) rfl rfl (by decide) rfl
      replace h := tx_iconst (v := 1) (p' := 46) h em181_45 (by decide +kernel) rfl
      replace h := tx_isub (p' := 47) h em181_46 rfl
      replace h := tx_putf (a := 75) (c := 12) (j := 10) (p' := 50) h em181_47 ((congrFun xo_12 248).trans rfl) rfl
      have ek : k = 11310 := by omega
      have u3 : ((ω.1 75 10) - (1 : Int32)).toInt = ((29 : Nat) : Int) := by rw [an_sub (by rw [e1i]; omega) (by rw [e1i]; omega), e1i, hu]; rfl
      refine L50 29 _ _ (by decide) (by omega) h (gHi_u hG) (by rw [xpi_at]; exact u3) (fun i hi j hj => ?_)
      rw [xpi_ne (fun q => absurd q.1 (by decide)), hF, if_pos (by omega), show 390 * (29 - 1 - i) + j + 390 = 390 * (m - 1 - i) + j by omega]
      exact hm3 i (by omega) j hj
    · replace c15 : ¬ 11310 ≤ i.toInt := c15
      replace h := tx_aload_n (p' := 19) h em181_18 rfl rfl
      replace h := tx_getc (c := 12) (j := 11) (p' := 22) h em181_19 ((congrFun xo_12 128).trans rfl) rfl rfl rfl
      replace h := tx_iload_n (p' := 23) h em181_22 rfl rfl
      replace h := tx_aload_n (p' := 24) h em181_23 rfl rfl
      replace h := tx_getc (c := 12) (j := 11) (p' := 27) h em181_24 ((congrFun xo_12 128).trans rfl) rfl rfl rfl
      replace h := tx_iload_n (p' := 28) h em181_27 rfl rfl
      replace h := tx_sipush (v := 390) (p' := 31) h em181_28 (by decide +kernel) rfl
      replace h := tx_iadd (p' := 32) h em181_31 rfl
      obtain ⟨hb32, h⟩ := tx_iald (len := 11700) (p' := 33) h em181_32 rfl rfl
      replace hb32 : (0 : Int) ≤ (i + (390 : Int32)).toInt ∧ (i + (390 : Int32)).toInt < 11700 := hb32
      obtain ⟨hb33, h⟩ := tx_iast (len := 11700) (p' := 34) h em181_33 rfl rfl
      replace hb33 : (0 : Int) ≤ i.toInt ∧ i.toInt < 11700 := hb33
      replace h := tx_iinc (v := 1) (p' := 37) h em181_34 (by decide +kernel) rfl rfl
      replace h : eT xq_181 _ 37 [some (.inr (.inl (some 75))), some (.inl (i + 1))] [] (xpi ω 112 i.toInt.toNat (ω.1 112 (i + (390 : Int32)).toInt.toNat)) r μ' := h
      obtain ⟨n2, hn2, h⟩ := tx_gotoS (t := 11) h em181_37 (by decide)
      have ei : (i + 1).toInt = ((k + 1 : Nat) : Int) := by rw [an_add (by rw [e1i]; omega) (by rw [e1i]; omega), e1i]; omega
      have u2 : (i + (390 : Int32)).toInt.toNat = k + 390 := by
        have : (i + (390 : Int32)).toInt = (k : Int) + 390 := by rw [an_add (by rw [e390]; omega) (by rw [e390]; omega), e390, hi]
        omega
      rw [u2, show i.toInt.toNat = k by omega] at h
      refine ih n2 hn2 (k + 1) _ _ h ei (by omega) (gHi_i hG) hu (fun j => ?_)
      by_cases e : j = k
      · rw [e, xpi_at, if_pos (by omega), hF, if_neg (by omega)]
      · rw [xpi_ne (fun q => e q.2), hF]
        by_cases q : j < k
        · rw [if_pos q, if_pos (by omega)]
        · rw [if_neg q, if_neg (by omega)]
  replace h := tx_aload_n (p' := 1) h em181_0 rfl rfl
  replace h := tx_getf (c := 12) (j := 10) (p' := 4) h em181_1 ((congrFun xo_12 248).trans rfl) rfl rfl (by decide) rfl
  replace h := tx_bipush (v := 30) (p' := 6) h em181_4 (by decide +kernel) rfl
  rcases tx_icmp (t := 50) (p' := 9) h em181_6 (by decide) rfl with ⟨c6, h⟩ | ⟨c6, h⟩
  · replace c6 : ¬ (μ.1 75 10).toInt = 30 := c6
    exact L50 m _ _ (by omega) (by omega) h gHi_rf hm1 hm3
  · replace c6 : ¬ ¬ (μ.1 75 10).toInt = 30 := c6
    replace h := tx_iconst (v := 0) (p' := 10) h em181_9 (by decide +kernel) rfl
    replace h := tx_istore_n (p' := 11) h em181_10 rfl
    replace h : eT xq_181 _ 11 [some (.inr (.inl (some 75))), some (.inl (0 : Int32))] [] μ r μ' := h
    have hm : m = 30 := by omega
    exact loop1 hm _ 0 _ _ h (by decide) (Nat.zero_le _) gHi_rf (by omega) (fun j => by rw [if_neg (Nat.not_lt_zero j)])
