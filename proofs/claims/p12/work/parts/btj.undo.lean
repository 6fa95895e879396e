/-! ===== undo ===== -/
theorem tw9_r {S : kSt} {c : Nat} {ρ ρ' : Nat → Int32} {μ : xM} (hW : kWf S) (h : tw9 S c ρ μ) (e : ∀ x, x < 390 → ρ' x = ρ x) : tw9 S c ρ' μ := by
  obtain ⟨⟨a1, a2, a3, a4, a5⟩, b⟩ := h
  have hV7 := hW.2.1
  refine ⟨⟨fun j hj => ?_, fun j hj => ?_, ?_, ?_, ?_⟩, fun v hv => ?_⟩
  · rw [e j (by omega), e (40 + j) (by omega), e (80 + j) (by omega)]; exact a1 j hj
  · rw [e (120 + j) (by omega)]; exact a2 j hj
  · rw [e 386 (by omega)]; exact a3
  · rw [e 387 (by omega)]; exact a4
  · rw [e 388 (by omega)]; exact a5
  · obtain ⟨b1, b2, b3, b4⟩ := b v hv
    have h8 := (kWf_V hW v).1
    unfold stS stD at *
    rw [e (320 + v) (by omega)]
    refine ⟨b1, b2, b3, fun q i hi => ?_⟩
    rw [e (330 + 8 * v + i) (by omega)]
    exact b4 q i hi
theorem hsL_r {S : kSt} {m : Nat} {G G' : Nat → Nat → Int32} {Z : Nat → Option (Nat → Int32)} {μ : xM} (hW : kWf S) (h : hsL S Z m G μ) (e : ∀ i, i < m → ∀ x, x < 390 → G' i x = G i x) : hsL S Z m G' μ := by
  obtain ⟨a, b, c, d, z⟩ := h
  refine ⟨a, b, c, fun i hi => ?_, z⟩
  obtain ⟨k, k1, k2⟩ := d i hi
  exact ⟨k, k1, tw9_r hW k2 (e i hi)⟩
theorem mH_r {m : Nat} {G G' : Nat → Nat → Int32} {μ : xM} (h : mH m G μ) (e : ∀ i, i < m → ∀ x, x < 390 → G' i x = G i x) : mH m G' μ := by
  obtain ⟨a, b, c⟩ := h
  exact ⟨a, b, fun i hi k hk => (c i hi k hk).trans (e i hi k hk).symm⟩
abbrev xq_1 : xP := (⟨"CapitalCase$History", "takeBack", "(LCapitalCase$Town;)Z"⟩, prog_2_method_3_code, 4, (some .boolean))
abbrev xq_109 : xP := (⟨"CapitalCase", "undo", "()Z"⟩, prog_1_method_23_code, 1, (some .boolean))
abbrev xq_194 : xP := (⟨"CapitalCaseModel", "undo", "()Z"⟩, prog_14_method_83_code, 2, (some .boolean))
set_option maxRecDepth 10000 in
set_option maxHeartbeats 4000000 in
theorem ex_takeBack {S : kSt} {m : Nat} {G : Nat → Nat → Int32} {Z : Nat → Option (Nat → Int32)} {μ μ' : xM} {r : Option zV} (h0 : Ex gx xq_1 [.inr (.inl (some 40)), .inr (.inl (some 28))] μ r μ') (hO : hOK μ) (hI : hsI μ) (hW : kWf S) (hL : hsL S Z m G μ) : (r = some (.inl 0) ∧ μ' = μ ∧ m = 0) ∨ (r = some (.inl 1) ∧ 0 < m ∧ tw9 S 28 (G 0) μ' ∧ hsL S Z (m - 1) (fun i => G (i + 1)) μ' ∧ hsI μ' ∧ hOK μ' ∧ (∀ a j, a ≠ 40 → ¬ (28 ≤ a ∧ a < 34) → μ'.1 a j = μ.1 a j) ∧ μ'.2 = μ.2) := by
  obtain ⟨n, h⟩ := tx_in (L := [some (.inr (.inl (some 40))), some (.inr (.inl (some 28))), none, none]) h0 rfl
  have e1i : (1 : Int32).toInt = 1 := by decide
  have e30 : (30 : Int32).toInt = 30 := by decide
  obtain ⟨⟨hn0, hn1⟩, hm, hm30, hd, hz9⟩ := hL
  have n1 : ((μ.1 40 1) + (30 : Int32)).toInt = (μ.1 40 1).toInt + 30 := by rw [an_add (by rw [e30]; omega) (by rw [e30]; omega), e30]
  have n2 : (((μ.1 40 1) + (30 : Int32)) - (1 : Int32)).toInt = (μ.1 40 1).toInt + 29 := by rw [an_sub (by rw [n1, e1i]; omega) (by rw [n1, e1i]; omega), n1, e1i]; omega
  have n3 := an_div (x := ((μ.1 40 1) + (30 : Int32)) - (1 : Int32)) (y := 30) (by omega) (by decide)
  rw [n2, e30] at n3
  have n4 : ((((μ.1 40 1) + (30 : Int32)) - (1 : Int32)) / (30 : Int32) * (30 : Int32)).toInt = ((μ.1 40 1).toInt + 29) / 30 * 30 := by rw [an_mul (by rw [e30, n3]; omega) (by rw [e30, n3]; omega), e30, n3]
  have n5 : ((((μ.1 40 1) + (30 : Int32)) - (1 : Int32)) - (((μ.1 40 1) + (30 : Int32)) - (1 : Int32)) / (30 : Int32) * (30 : Int32)).toInt = ((μ.1 40 1).toInt + 29) % 30 := by
    rw [an_sub (by rw [n2, n4]; omega) (by rw [n2, n4]; omega), n2, n4]; omega
  have n6 : ((((μ.1 40 1) + (30 : Int32)) - (1 : Int32)) - (((μ.1 40 1) + (30 : Int32)) - (1 : Int32)) / (30 : Int32) * (30 : Int32)).toInt.toNat = ((μ.1 40 1).toInt.toNat + 29 - 0) % 30 := by omega
  replace h := tx_aload_n (p' := 1) h em1_0 rfl rfl
  replace h := tx_getf (c := 0) (j := 1) (p' := 4) h em1_1 ((congrFun xo_1 15).trans rfl) rfl rfl (by decide) rfl
  replace h := tx_bipush (v := 30) (p' := 6) h em1_4 (by decide +kernel) rfl
  replace h := tx_iadd (p' := 7) h em1_6 rfl
  replace h := tx_iconst (v := 1) (p' := 8) h em1_7 (by decide +kernel) rfl
  replace h := tx_isub (p' := 9) h em1_8 rfl
  replace h := tx_bipush (v := 30) (p' := 11) h em1_9 (by decide +kernel) rfl
  obtain ⟨hz11, h⟩ := tx_irem (p' := 12) h em1_11 rfl
  replace h := tx_istore_n (p' := 13) h em1_12 rfl
  replace h : eT xq_1 _ 13 [some (.inr (.inl (some 40))), some (.inr (.inl (some 28))), some (.inl ((((μ.1 40 1) + (30 : Int32)) - (1 : Int32)) - (((μ.1 40 1) + (30 : Int32)) - (1 : Int32)) / (30 : Int32) * (30 : Int32))), none] [] μ r μ' := h
  replace h := tx_aload_n (p' := 14) h em1_13 rfl rfl
  replace h := tx_getc (c := 0) (j := 0) (p' := 17) h em1_14 ((congrFun xo_1 11).trans rfl) rfl rfl rfl
  replace h := tx_iload_n (p' := 18) h em1_17 rfl rfl
  obtain ⟨hb18, h⟩ := tx_aald (len := 30) (p' := 19) h em1_18 rfl rfl
  replace hb18 : (0 : Int) ≤ ((((μ.1 40 1) + (30 : Int32)) - (1 : Int32)) - (((μ.1 40 1) + (30 : Int32)) - (1 : Int32)) / (30 : Int32) * (30 : Int32)).toInt ∧ ((((μ.1 40 1) + (30 : Int32)) - (1 : Int32)) - (((μ.1 40 1) + (30 : Int32)) - (1 : Int32)) / (30 : Int32) * (30 : Int32)).toInt < 30 := hb18
  replace h := tx_astore_n (p' := 20) h em1_19 rfl
  replace h : eT xq_1 _ 20 [some (.inr (.inl (some 40))), some (.inr (.inl (some 28))), some (.inl ((((μ.1 40 1) + (30 : Int32)) - (1 : Int32)) - (((μ.1 40 1) + (30 : Int32)) - (1 : Int32)) / (30 : Int32) * (30 : Int32))), some (.inr (.inl (μ.2.2.1 41 ((((μ.1 40 1) + (30 : Int32)) - (1 : Int32)) - (((μ.1 40 1) + (30 : Int32)) - (1 : Int32)) / (30 : Int32) * (30 : Int32)).toInt.toNat)))] [] μ r μ' := h
  replace h := tx_aload_n (p' := 21) h em1_20 rfl rfl
  replace h := tx_getf (c := 0) (j := 2) (p' := 24) h em1_21 ((congrFun xo_1 24).trans rfl) rfl rfl (by decide) rfl
  rcases tx_if (t := 31) (p' := 27) h em1_24 (by decide) rfl with ⟨c24, h⟩ | ⟨c24, h⟩
  · replace c24 : (μ.1 40 2).toInt = 0 := c24
    replace h := tx_iconst (v := 0) (p' := 32) h em1_31 (by decide +kernel) rfl
    obtain ⟨rfl, hμ⟩ := tx_ireturn h em1_32
    exact Or.inl ⟨rfl, hμ, by omega⟩
  · replace c24 : ¬ (μ.1 40 2).toInt = 0 := c24
    replace h := tx_aload_n (p' := 28) h em1_27 rfl rfl
    rcases tx_ifnonnull (t := 33) (p' := 31) h em1_28 (by decide) rfl with ⟨c28, h⟩ | ⟨c28, h⟩
    · replace h := tx_iconst (v := 0) (p' := 32) h em1_31 (by decide +kernel) rfl
      obtain ⟨rfl, hμ⟩ := tx_ireturn h em1_32
      exfalso
      obtain ⟨c, hc, -⟩ := hd 0 (by omega)
      rw [n6, hc] at c28
      cases c28
    · replace h := tx_aload_n (p' := 34) h em1_33 rfl rfl
      replace h := tx_aload_n (p' := 35) h em1_34 rfl rfl
      obtain ⟨r35, μ35, hE35, h⟩ := tx_invV (na := 2) (mn := 49) (as := [.inr (.inl (some 28)), .inr (.inl (μ.2.2.1 41 ((((μ.1 40 1) + (30 : Int32)) - (1 : Int32)) - (((μ.1 40 1) + (30 : Int32)) - (1 : Int32)) / (30 : Int32) * (30 : Int32)).toInt.toNat))]) (rest := []) (p' := 38) h em1_35 ((congrFun xo_1 20).trans rfl) xm_49 rfl rfl
      obtain ⟨c, hc, hcT⟩ := hd 0 (by omega)
      rw [n6, hc] at hE35
      have hs9 := hI.2.1 41 _ c (Or.inl ⟨rfl, Nat.mod_lt _ (by decide)⟩) hc
      obtain ⟨rfl, k1, k2, k3⟩ := ex_become_28d hE35 hO hs9.2.2.1 hs9.2.2.2 hs9.1
      replace h : eT xq_1 _ 38 [some (.inr (.inl (some 40))), some (.inr (.inl (some 28))), some (.inl ((((μ.1 40 1) + (30 : Int32)) - (1 : Int32)) - (((μ.1 40 1) + (30 : Int32)) - (1 : Int32)) / (30 : Int32) * (30 : Int32))), some (.inr (.inl (μ.2.2.1 41 ((((μ.1 40 1) + (30 : Int32)) - (1 : Int32)) - (((μ.1 40 1) + (30 : Int32)) - (1 : Int32)) / (30 : Int32) * (30 : Int32)).toInt.toNat)))] [] μ35 r μ' := h
      replace h := tx_aload_n (p' := 39) h em1_38 rfl rfl
      replace h := tx_iload_n (p' := 40) h em1_39 rfl rfl
      replace h := tx_putf (a := 40) (c := 0) (j := 1) (p' := 43) h em1_40 ((congrFun xo_1 15).trans rfl) rfl
      replace h := tx_aload_n (p' := 44) h em1_43 rfl rfl
      replace h := tx_dup (p' := 45) h em1_44 rfl
      replace h := tx_getf (c := 0) (j := 2) (p' := 48) h em1_45 ((congrFun xo_1 24).trans rfl) rfl rfl (by decide) rfl
      replace h : eT xq_1 _ 48 [some (.inr (.inl (some 40))), some (.inr (.inl (some 28))), some (.inl ((((μ.1 40 1) + (30 : Int32)) - (1 : Int32)) - (((μ.1 40 1) + (30 : Int32)) - (1 : Int32)) / (30 : Int32) * (30 : Int32))), some (.inr (.inl (μ.2.2.1 41 ((((μ.1 40 1) + (30 : Int32)) - (1 : Int32)) - (((μ.1 40 1) + (30 : Int32)) - (1 : Int32)) / (30 : Int32) * (30 : Int32)).toInt.toNat)))] [.inl (μ35.1 40 2), .inr (.inl (some 40))] (xpi μ35 40 1 ((((μ.1 40 1) + (30 : Int32)) - (1 : Int32)) - (((μ.1 40 1) + (30 : Int32)) - (1 : Int32)) / (30 : Int32) * (30 : Int32))) r μ' := h
      replace h := tx_iconst (v := 1) (p' := 49) h em1_48 (by decide +kernel) rfl
      replace h := tx_isub (p' := 50) h em1_49 rfl
      replace h := tx_putf (a := 40) (c := 0) (j := 2) (p' := 53) h em1_50 ((congrFun xo_1 24).trans rfl) rfl
      replace h := tx_iconst (v := 1) (p' := 54) h em1_53 (by decide +kernel) rfl
      obtain ⟨rfl, hμ⟩ := tx_ireturn h em1_54
      replace hμ : μ' = (xpi (xpi μ35 40 1 ((((μ.1 40 1) + (30 : Int32)) - (1 : Int32)) - (((μ.1 40 1) + (30 : Int32)) - (1 : Int32)) / (30 : Int32) * (30 : Int32))) 40 2 ((μ35.1 40 2) - (1 : Int32))) := hμ
      have q2 : μ35.1 40 2 = μ.1 40 2 := k2 40 2 (by omega)
      rw [q2] at hμ
      have u1 : ((μ.1 40 2) - (1 : Int32)).toInt = (m : Int) - 1 := by rw [an_sub (by rw [e1i]; omega) (by rw [e1i]; omega), e1i, hm]
      have e2 : μ'.2 = μ.2 := by rw [hμ]; exact k1
      have eo : ∀ a j, a ≠ 40 → μ'.1 a j = μ35.1 a j := fun a j z => by rw [hμ, xpi_ne (fun y => z y.1), xpi_ne (fun y => z y.1)]
      have f1 : (μ'.1 40 1).toInt = ((μ.1 40 1).toInt + 29) % 30 := by rw [hμ, xpi_ne (fun y => absurd y.2 (by decide)), xpi_at]; exact n5
      have f2 : (μ'.1 40 2).toInt = (m : Int) - 1 := by rw [hμ, xpi_at]; exact u1
      have fr : ∀ a j, a ≠ 40 → ¬ (28 ≤ a ∧ a < 34) → μ'.1 a j = μ.1 a j := fun a j y z => (eo a j y).trans (k2 a j z)
      refine Or.inr ⟨rfl, by omega, ?_, ⟨by omega, by omega, by omega, fun i hi => ?_, fun i ρz hi hz => ?_⟩, hsI_2 e2 hI, hOK_2 e2 hO, fr, e2⟩
      · exact tw9_cp hW hcT (tcp_cg k3 (fun _ _ _ _ => rfl) (fun a j y z => eo a j (by omega)))
      · obtain ⟨d, d1, d2⟩ := hd (i + 1) (by omega)
        have hd9 := (hI.2.1 41 _ d (Or.inl ⟨rfl, Nat.mod_lt _ (by decide)⟩) d1).1
        refine ⟨d, ?_, tw9_cg d2 (fun a j y z => fr a j (by omega) (by omega))⟩
        rw [e2, show ((μ'.1 40 1).toInt.toNat + 29 - i) % 30 = ((μ.1 40 1).toInt.toNat + 29 - (i + 1)) % 30 by omega]
        exact d1
      · obtain ⟨d, d1, d2⟩ := hz9 i ρz hi hz
        have hd9 := (hI.2.1 42 _ d (Or.inr rfl) d1).1
        refine ⟨d, ?_, tw9_cg d2 (fun a j y z => fr a j (by omega) (by omega))⟩
        rw [e2]
        exact d1
set_option maxRecDepth 10000 in
set_option maxHeartbeats 4000000 in
theorem ex_cundo {S : kSt} {m : Nat} {G : Nat → Nat → Int32} {Z : Nat → Option (Nat → Int32)} {μ μ' : xM} {r : Option zV} (h0 : Ex gx xq_109 [.inr (.inl (some 0))] μ r μ') (hO : hOK μ) (hI : hsI μ) (hW : kWf S) (hL : hsL S Z m G μ) : (r = some (.inl 0) ∧ μ' = μ ∧ m = 0) ∨ (r = some (.inl 1) ∧ 0 < m ∧ tw9 S 28 (G 0) μ' ∧ hsL S Z (m - 1) (fun i => G (i + 1)) μ' ∧ hsI μ' ∧ hOK μ' ∧ (∀ a j, a ≠ 40 → ¬ (28 ≤ a ∧ a < 34) → μ'.1 a j = μ.1 a j) ∧ μ'.2 = μ.2) := by
  obtain ⟨n, h⟩ := tx_in (L := [some (.inr (.inl (some 0)))]) h0 rfl
  replace h := tx_aload_n (p' := 1) h em109_0 rfl rfl
  replace h := tx_getc (c := 11) (j := 8) (p' := 4) h em109_1 ((congrFun xo_0 49).trans rfl) rfl rfl rfl
  replace h := tx_aload_n (p' := 5) h em109_4 rfl rfl
  replace h := tx_getc (c := 11) (j := 1) (p' := 8) h em109_5 ((congrFun xo_0 39).trans rfl) rfl rfl rfl
  obtain ⟨r8, μ8, hE8, h⟩ := tx_invV (na := 2) (mn := 1) (as := [.inr (.inl (some 40)), .inr (.inl (some 28))]) (rest := []) (p' := 11) h em109_8 ((congrFun xo_0 256).trans rfl) xm_1 rfl rfl
  have hq := ex_takeBack hE8 hO hI hW hL
  obtain ⟨x9, hx9⟩ : ∃ x9 : Int32, r8 = some (.inl x9) := by
    rcases hq with ⟨e, -⟩ | ⟨e, -⟩
    · exact ⟨_, e⟩
    · exact ⟨_, e⟩
  subst hx9
  replace h : eT xq_109 _ 11 [some (.inr (.inl (some 0)))] [.inl x9] μ8 r μ' := h
  obtain ⟨rfl, hμ⟩ := tx_ireturn h em109_11
  rw [hμ]
  exact hq
set_option maxRecDepth 10000 in
set_option maxHeartbeats 4000000 in
theorem ex_mundo {m : Nat} {G : Nat → Nat → Int32} {μ μ' : xM} {r : Option zV} (h0 : Ex gx xq_194 [.inr (.inl (some 75))] μ r μ') (hH : mH m G μ) : (r = some (.inl 0) ∧ μ' = μ ∧ m = 0) ∨ (r = some (.inl 1) ∧ 0 < m ∧ (∀ x, x < 390 → μ'.1 107 x = G 0 x) ∧ mH (m - 1) (fun i => G (i + 1)) μ' ∧ (∀ a j, a ≠ 107 → ¬ (a = 75 ∧ j = 10) → μ'.1 a j = μ.1 a j) ∧ μ'.2 = μ.2) := by
  obtain ⟨n, h⟩ := tx_in (L := [some (.inr (.inl (some 75))), none]) h0 rfl
  obtain ⟨hm1, hm2, hm3⟩ := hH
  have e1i : (1 : Int32).toInt = 1 := by decide
  have e390 : (390 : Int32).toInt = 390 := by decide
  have loop : 0 < m → ∀ (n k : Nat) (i : Int32) (ω : xM), eT xq_194 n 21 [some (.inr (.inl (some 75))), some (.inl i)] [] ω r μ' → i.toInt = (k : Int) → k ≤ 390 → (∀ a j, a ≠ 107 → ¬ (a = 75 ∧ j = 10) → ω.1 a j = μ.1 a j) ∧ ω.2 = μ.2 → (ω.1 75 10).toInt = (m : Int) - 1 → (∀ j, j < k → ω.1 107 j = G 0 j) → (r = some (.inl 0) ∧ μ' = μ ∧ m = 0) ∨ (r = some (.inl 1) ∧ 0 < m ∧ (∀ x, x < 390 → μ'.1 107 x = G 0 x) ∧ mH (m - 1) (fun i => G (i + 1)) μ' ∧ (∀ a j, a ≠ 107 → ¬ (a = 75 ∧ j = 10) → μ'.1 a j = μ.1 a j) ∧ μ'.2 = μ.2) := by
    intro hm0 n
    induction n using Nat.strongRecOn with
    | ind n ih =>
    intro k i ω h hi hk hG hu hF
    have u1 : ((390 : Int32) * (ω.1 75 10)).toInt = 390 * ((m : Int) - 1) := by rw [an_mul (by rw [e390]; omega) (by rw [e390]; omega), e390, hu]
    replace h := tx_iload_n (p' := 22) h em194_21 rfl rfl
    replace h := tx_sipush (v := 390) (p' := 25) h em194_22 (by decide +kernel) rfl
    rcases tx_icmp (t := 55) (p' := 28) h em194_25 (by decide) rfl with ⟨c25, h⟩ | ⟨c25, h⟩
    · replace c25 : 390 ≤ i.toInt := c25
      replace h := tx_iconst (v := 1) (p' := 56) h em194_55 (by decide +kernel) rfl
      obtain ⟨rfl, hμ⟩ := tx_ireturn h em194_56
      rw [hμ]
      refine Or.inr ⟨rfl, hm0, fun x hx => hF x (by omega), ⟨by omega, by omega, fun i hi k9 hk9 => ?_⟩, hG.1, hG.2⟩
      rw [hG.1 112 _ (by decide) (fun q => absurd q.1 (by decide)), show m - 1 - 1 - i = m - 1 - (i + 1) by omega]
      exact hm3 (i + 1) (by omega) k9 hk9
    · replace c25 : ¬ 390 ≤ i.toInt := c25
      replace h := tx_aload_n (p' := 29) h em194_28 rfl rfl
      replace h := tx_getc (c := 12) (j := 1) (p' := 32) h em194_29 ((congrFun xo_12 113).trans rfl) rfl rfl rfl
      replace h := tx_iload_n (p' := 33) h em194_32 rfl rfl
      replace h := tx_aload_n (p' := 34) h em194_33 rfl rfl
      replace h := tx_getc (c := 12) (j := 11) (p' := 37) h em194_34 ((congrFun xo_12 128).trans rfl) rfl rfl rfl
      replace h := tx_sipush (v := 390) (p' := 40) h em194_37 (by decide +kernel) rfl
      replace h := tx_aload_n (p' := 41) h em194_40 rfl rfl
      replace h := tx_getf (c := 12) (j := 10) (p' := 44) h em194_41 ((congrFun xo_12 248).trans rfl) rfl rfl (by decide) rfl
      replace h := tx_imul (p' := 45) h em194_44 rfl
      replace h := tx_iload_n (p' := 46) h em194_45 rfl rfl
      replace h := tx_iadd (p' := 47) h em194_46 rfl
      obtain ⟨hb47, h⟩ := tx_iald (len := 11700) (p' := 48) h em194_47 rfl rfl
      replace hb47 : (0 : Int) ≤ (((390 : Int32) * (ω.1 75 10)) + i).toInt ∧ (((390 : Int32) * (ω.1 75 10)) + i).toInt < 11700 := hb47
      obtain ⟨hb48, h⟩ := tx_iast (len := 390) (p' := 49) h em194_48 rfl rfl
      replace hb48 : (0 : Int) ≤ i.toInt ∧ i.toInt < 390 := hb48
      replace h := tx_iinc (v := 1) (p' := 52) h em194_49 (by decide +kernel) rfl rfl
      replace h : eT xq_194 _ 52 [some (.inr (.inl (some 75))), some (.inl (i + 1))] [] (xpi ω 107 i.toInt.toNat (ω.1 112 (((390 : Int32) * (ω.1 75 10)) + i).toInt.toNat)) r μ' := h
      obtain ⟨n2, hn2, h⟩ := tx_gotoS (t := 21) h em194_52 (by decide)
      have ei : (i + 1).toInt = ((k + 1 : Nat) : Int) := by rw [an_add (by rw [e1i]; omega) (by rw [e1i]; omega), e1i]; omega
      have u2 : (((390 : Int32) * (ω.1 75 10)) + i).toInt.toNat = 390 * (m - 1 - 0) + k := by
        have : (((390 : Int32) * (ω.1 75 10)) + i).toInt = 390 * ((m : Int) - 1) + k := by rw [an_add (by rw [u1]; omega) (by rw [u1]; omega), u1, hi]
        omega
      have hv9 : ω.1 112 (390 * (m - 1 - 0) + k) = G 0 k := (hG.1 112 _ (by decide) (fun q => absurd q.1 (by decide))).trans (hm3 0 hm0 k (by omega))
      rw [u2, show i.toInt.toNat = k by omega, hv9] at h
      refine ih n2 hn2 (k + 1) _ _ h ei (by omega) ⟨fun a j p q => (xpi_ne (fun z => p z.1)).trans (hG.1 a j p q), hG.2⟩ hu (fun j hj => ?_)
      by_cases e : j = k
      · rw [e, xpi_at]
      · rw [xpi_ne (fun q => e q.2)]; exact hF j (by omega)
  replace h := tx_aload_n (p' := 1) h em194_0 rfl rfl
  replace h := tx_getf (c := 12) (j := 10) (p' := 4) h em194_1 ((congrFun xo_12 248).trans rfl) rfl rfl (by decide) rfl
  rcases tx_if (t := 9) (p' := 7) h em194_4 (by decide) rfl with ⟨c4, h⟩ | ⟨c4, h⟩
  · replace c4 : ¬ (μ.1 75 10).toInt = 0 := c4
    replace h := tx_aload_n (p' := 10) h em194_9 rfl rfl
    replace h := tx_dup (p' := 11) h em194_10 rfl
    replace h := tx_getf (c := 12) (j := 10) (p' := 14) h em194_11 ((congrFun xo_12 248).trans rfl) rfl rfl (by decide) rfl
    replace h := tx_iconst (v := 1) (p' := 15) h em194_14 (by decide +kernel) rfl
    replace h := tx_isub (p' := 16) h em194_15 rfl
    replace h := tx_putf (a := 75) (c := 12) (j := 10) (p' := 19) h em194_16 ((congrFun xo_12 248).trans rfl) rfl
    replace h := tx_iconst (v := 0) (p' := 20) h em194_19 (by decide +kernel) rfl
    replace h := tx_istore_n (p' := 21) h em194_20 rfl
    replace h : eT xq_194 _ 21 [some (.inr (.inl (some 75))), some (.inl (0 : Int32))] [] (xpi μ 75 10 ((μ.1 75 10) - (1 : Int32))) r μ' := h
    have u3 : ((μ.1 75 10) - (1 : Int32)).toInt = (m : Int) - 1 := by rw [an_sub (by rw [e1i]; omega) (by rw [e1i]; omega), e1i, hm1]
    exact loop (by omega) _ 0 _ _ h (by decide) (Nat.zero_le _) ⟨fun a j p q => xpi_ne q, rfl⟩ (by rw [xpi_at]; exact u3) (fun j hj => absurd hj (Nat.not_lt_zero j))
  · replace c4 : ¬ ¬ (μ.1 75 10).toInt = 0 := c4
    replace h := tx_iconst (v := 0) (p' := 8) h em194_7 (by decide +kernel) rfl
    obtain ⟨rfl, hμ⟩ := tx_ireturn h em194_8
    exact Or.inl ⟨rfl, hμ, by omega⟩
