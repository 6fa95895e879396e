/-! ===== hold, restore ===== -/
def zup (Z : Nat → Option (Nat → Int32)) (i : Nat) (ρ : Nat → Int32) : Nat → Option (Nat → Int32) := fun j => if j = i then some ρ else Z j
theorem hsL_hold {S : kSt} {m c i0 : Nat} {G : Nat → Nat → Int32} {Z : Nat → Option (Nat → Int32)} {ρ : Nat → Int32} {μ ν : xM} (hW : kWf S) (hO : hOK μ) (hI : hsI μ) (h : hsL S Z m G μ) (hT : tw9 S 28 ρ μ) (hI' : hsI ν) (f1 : ∀ a j, a < μ.2.2.2 → ¬ (c ≤ a ∧ a < c + 6) → ν.1 a j = μ.1 a j) (f2 : ∀ a j, a < μ.2.2.2 → ¬ (a = 42 ∧ j = i0) → ν.2.2.1 a j = μ.2.2.1 a j) (hc : ν.2.2.1 42 i0 = some c) (ht : tcp c 28 μ ν) : hsL S (zup Z i0 ρ) m G ν := by
  obtain ⟨a, b, c30, d, z9⟩ := h
  have hN := hO.1
  have hc9 := (hI'.2.1 42 _ c (Or.inr rfl) hc).1
  unfold hsL
  rw [f1 40 1 (by omega) (by omega), f1 40 2 (by omega) (by omega)]
  refine ⟨a, b, c30, fun i hi => ?_, fun i ρz hi hz => ?_⟩
  · obtain ⟨k, k1, k2⟩ := d i hi
    have hlt : ((μ.1 40 1).toInt.toNat + 29 - i) % 30 < 30 := Nat.mod_lt _ (by decide)
    have hs := hI.2.1 41 _ k (Or.inl ⟨rfl, hlt⟩) k1
    have k1' : ν.2.2.1 41 (((μ.1 40 1).toInt.toNat + 29 - i) % 30) = some k := by
      rw [f2 41 _ (by omega) (fun q => absurd q.1 (by decide))]; exact k1
    refine ⟨k, k1', tw9_cg k2 (fun x j y z => f1 x j (by have := hs.2.1; omega) (fun q => ?_))⟩
    rcases hI'.2.2 41 _ 42 _ k c (Or.inl ⟨rfl, hlt⟩) (Or.inr rfl) k1' hc with w | w | w
    · exact absurd w.1 (by decide)
    · omega
    · omega
  · unfold zup at hz
    by_cases e : i = i0
    · rw [if_pos e] at hz
      obtain rfl := Option.some.inj hz
      rw [e]
      exact ⟨c, hc, tw9_cp hW hT ht⟩
    · rw [if_neg e] at hz
      obtain ⟨k, k1, k2⟩ := z9 i ρz hi hz
      have hs := hI.2.1 42 _ k (Or.inr rfl) k1
      have k1' : ν.2.2.1 42 i = some k := by
        rw [f2 42 _ (by omega) (fun q => e q.2)]; exact k1
      refine ⟨k, k1', tw9_cg k2 (fun x j y z => f1 x j (by have := hs.2.1; omega) (fun q => ?_))⟩
      rcases hI'.2.2 42 _ 42 _ k c (Or.inr rfl) (Or.inr rfl) k1' hc with w | w | w
      · exact e w.2
      · omega
      · omega
abbrev xq_86 : xP := (⟨"CapitalCase", "hold", "(I)Z"⟩, prog_1_method_42_code, 2, (some .boolean))
abbrev xq_99 : xP := (⟨"CapitalCase", "restore", "(I)Z"⟩, prog_1_method_43_code, 2, (some .boolean))
abbrev xq_146 : xP := (⟨"CapitalCaseModel", "hold", "(I)Z"⟩, prog_14_method_111_code, 3, (some .boolean))
abbrev xq_182 : xP := (⟨"CapitalCaseModel", "restore", "(I)Z"⟩, prog_14_method_112_code, 3, (some .boolean))
set_option maxRecDepth 10000 in
set_option maxHeartbeats 4000000 in
theorem ex_chold {a : Int32} {S : kSt} {ρ : Nat → Int32} {m : Nat} {G : Nat → Nat → Int32} {Z : Nat → Option (Nat → Int32)} {μ μ' : xM} {r : Option zV} (h0 : Ex gx xq_86 [.inr (.inl (some 0)), .inl a] μ r μ') (hO : hOK μ) (hP : pOK9 μ) (hS : cS9 S μ) (hT : tw9 S 28 ρ μ) (hI : hsI μ) (hL : hsL S Z m G μ) : (r = some (.inl 0) ∧ μ' = μ ∧ ¬ (0 ≤ a.toInt ∧ a.toInt < 3)) ∨ (r = some (.inl 1) ∧ (0 ≤ a.toInt ∧ a.toInt < 3) ∧ tw9 S 28 ρ μ' ∧ hsL S (zup Z a.toInt.toNat ρ) m G μ' ∧ hsI μ' ∧ hOK μ' ∧ pOK9 μ' ∧ cS9 S μ' ∧ ∀ j, μ'.1 43 j = if j = a.toInt.toNat then 1 else μ.1 43 j) := by
  obtain ⟨n, h⟩ := tx_in (L := [some (.inr (.inl (some 0))), some (.inl a)]) h0 rfl
  replace h := tx_iload_n (p' := 1) h em86_0 rfl rfl
  rcases tx_if (t := 9) (p' := 4) h em86_1 (by decide) rfl with ⟨c1, h⟩ | ⟨c1, h⟩
  · replace c1 : a.toInt < 0 := c1
    replace h := tx_iconst (v := 0) (p' := 10) h em86_9 (by decide +kernel) rfl
    obtain ⟨rfl, hμ⟩ := tx_ireturn h em86_10
    exact Or.inl ⟨rfl, hμ, by omega⟩
  · replace c1 : ¬ a.toInt < 0 := c1
    replace h := tx_iload_n (p' := 5) h em86_4 rfl rfl
    replace h := tx_iconst (v := 3) (p' := 6) h em86_5 (by decide +kernel) rfl
    rcases tx_icmp (t := 11) (p' := 9) h em86_6 (by decide) rfl with ⟨c6, h⟩ | ⟨c6, h⟩
    · replace c6 : a.toInt < 3 := c6
      replace h := tx_aload_n (p' := 12) h em86_11 rfl rfl
      replace h := tx_getc (c := 11) (j := 11) (p' := 15) h em86_12 ((congrFun xo_0 53).trans rfl) rfl rfl rfl
      replace h := tx_iload_n (p' := 16) h em86_15 rfl rfl
      obtain ⟨hb16, h⟩ := tx_aald (len := 3) (p' := 17) h em86_16 rfl rfl
      replace hb16 : (0 : Int) ≤ a.toInt ∧ a.toInt < 3 := hb16
      rcases tx_ifnonnull (t := 33) (p' := 20) h em86_17 (by decide) rfl with ⟨c17, h⟩ | ⟨c17, h⟩
      · replace h := tx_aload_n (p' := 21) h em86_20 rfl rfl
        replace h := tx_getc (c := 11) (j := 11) (p' := 24) h em86_21 ((congrFun xo_0 53).trans rfl) rfl rfl rfl
        replace h := tx_iload_n (p' := 25) h em86_24 rfl rfl
        replace h := tx_new h em86_25
        replace h : eT xq_86 _ 32 [some (.inr (.inl (some 0))), some (.inl a)] [.inr (.inl (some μ.2.2.2)), .inl a, .inr (.inl (some 42))] (xnew μ) r μ' := h
        obtain ⟨hb32, h⟩ := tx_aast (len := 3) (p' := 33) h em86_32 rfl rfl
        replace hb32 : (0 : Int) ≤ a.toInt ∧ a.toInt < 3 := hb32
        replace h := tx_aload_n (p' := 34) h em86_33 rfl rfl
        replace h := tx_getc (c := 11) (j := 11) (p' := 37) h em86_34 ((congrFun xo_0 53).trans rfl) rfl rfl rfl
        replace h := tx_iload_n (p' := 38) h em86_37 rfl rfl
        obtain ⟨hb38, h⟩ := tx_aald (len := 3) (p' := 39) h em86_38 rfl rfl
        replace hb38 : (0 : Int) ≤ a.toInt ∧ a.toInt < 3 := hb38
        replace h := tx_aload_n (p' := 40) h em86_39 rfl rfl
        replace h := tx_getc (c := 11) (j := 1) (p' := 43) h em86_40 ((congrFun xo_0 39).trans rfl) rfl rfl rfl
        obtain ⟨r43, μ43, hE43, h⟩ := tx_invV (na := 2) (mn := 49) (as := [.inr (.inl ((xpr (xnew μ) 42 a.toInt.toNat (some μ.2.2.2)).2.2.1 42 a.toInt.toNat)), .inr (.inl (some 28))]) (rest := []) (p' := 46) h em86_43 ((congrFun xo_0 275).trans rfl) xm_49 rfl rfl
        have hO2 : hOK (xnk 42 a.toInt.toNat μ) := hOK_k hO (by decide)
        have hk9 : (xnk 42 a.toInt.toNat μ).2.2.1 42 a.toInt.toNat = some μ.2.2.2 := xnk_a
        replace hE43 : Ex gx xq_49 [.inr (.inl ((xnk 42 a.toInt.toNat μ).2.2.1 42 a.toInt.toNat)), .inr (.inl (some 28))] (xnk 42 a.toInt.toNat μ) r43 μ43 := hE43
        rw [hk9] at hE43
        obtain ⟨rfl, k1, k2, k3⟩ := ex_become_c28 hE43 hO2 (zkn_hi (j := 0) hO.1 hI.1 (by decide)) (fun j _ => xnk_n (by have := hO.1; omega)) hO.1
        replace h : eT xq_86 _ 46 [some (.inr (.inl (some 0))), some (.inl a)] [] μ43 r μ' := h
        replace h := tx_aload_n (p' := 47) h em86_46 rfl rfl
        replace h := tx_getc (c := 11) (j := 12) (p' := 50) h em86_47 ((congrFun xo_0 57).trans rfl) rfl rfl rfl
        replace h := tx_iload_n (p' := 51) h em86_50 rfl rfl
        replace h := tx_iconst (v := 1) (p' := 52) h em86_51 (by decide +kernel) rfl
        obtain ⟨hb52, h⟩ := tx_bast (len := 3) (p' := 53) h em86_52 rfl rfl
        replace hb52 : (0 : Int) ≤ a.toInt ∧ a.toInt < 3 := hb52
        replace h := tx_iconst (v := 1) (p' := 54) h em86_53 (by decide +kernel) rfl
        obtain ⟨rfl, hμ⟩ := tx_ireturn h em86_54
        replace hμ : μ' = (xpi μ43 43 a.toInt.toNat ((1 : Int32)).toInt8.toInt32) := hμ
        have hN := hO.1
        have b1 : ((1 : Int32).toInt8.toInt32) = 1 := by decide
        rw [b1] at hμ
        have e2 : μ'.2 = μ43.2 := by rw [hμ]; rfl
        have eo : ∀ x j, x ≠ 43 → μ'.1 x j = μ43.1 x j := fun x j z => by rw [hμ, xpi_ne (fun y => z y.1)]
        have hI3 : hsI μ43 := hsI_2 k1 (hsI_k hN hI (Or.inr rfl))
        have hO3 : hOK μ43 := hOK_2 k1 hO2
        have f1 : ∀ x j, x < μ.2.2.2 → ¬ (μ.2.2.2 ≤ x ∧ x < μ.2.2.2 + 6) → μ43.1 x j = μ.1 x j := fun x j p q => (k2 x j q).trans (xnk_i p)
        have f2 : ∀ x j, x < μ.2.2.2 → ¬ (x = 42 ∧ j = a.toInt.toNat) → μ43.2.2.1 x j = μ.2.2.1 x j := fun x j p q => by rw [k1]; exact xnk_r p q
        have f3 : μ43.2.2.1 42 a.toInt.toNat = some μ.2.2.2 := by rw [k1]; exact xnk_a
        have f4 : tcp μ.2.2.2 28 μ μ43 := tcp_cg k3 (fun x j p q => xnk_i (by omega)) (fun _ _ _ _ => rfl)
        have hc9 : 119 ≤ μ.2.2.2 := hN
        have hL3 := hsL_hold hS.1 hO hI hL hT hI3 f1 f2 f3 f4
        have g1 : ∀ x j, x < 119 → x ≠ 43 → μ'.1 x j = μ.1 x j := fun x j p q => (eo x j q).trans (f1 x j (by omega) (by omega))
        refine Or.inr ⟨rfl, by omega, tw9_cg hT (fun x j p q => g1 x j (by omega) (by omega)), ?_, hsI_2 e2 hI3, hOK_2 e2 hO3, ?_, cS9_cg hS (fun k j p q => g1 k j (by omega) (by omega)), fun j => ?_⟩
        · exact hsL_cg hI3 hL3 e2 ⟨eo 40 1 (by decide), eo 40 2 (by decide)⟩ (fun x j p => eo x j (by omega))
        · exact pOK9_2 e2 (fun p hp j hj => (f2 p j (by omega) (fun q => by omega)).trans (hP p hp j hj))
        · by_cases q : j = a.toInt.toNat
          · rw [hμ, q, xpi_at, if_pos rfl]
          · rw [hμ, xpi_ne (fun z => q z.2), if_neg q]
            exact f1 43 j (by omega) (by omega)
      · replace h := tx_aload_n (p' := 34) h em86_33 rfl rfl
        replace h := tx_getc (c := 11) (j := 11) (p' := 37) h em86_34 ((congrFun xo_0 53).trans rfl) rfl rfl rfl
        replace h := tx_iload_n (p' := 38) h em86_37 rfl rfl
        obtain ⟨hb38_1, h⟩ := tx_aald (len := 3) (p' := 39) h em86_38 rfl rfl
        replace hb38_1 : (0 : Int) ≤ a.toInt ∧ a.toInt < 3 := hb38_1
        replace h := tx_aload_n (p' := 40) h em86_39 rfl rfl
        replace h := tx_getc (c := 11) (j := 1) (p' := 43) h em86_40 ((congrFun xo_0 39).trans rfl) rfl rfl rfl
        obtain ⟨r43_1, μ43_1, hE43_1, h⟩ := tx_invV (na := 2) (mn := 49) (as := [.inr (.inl (μ.2.2.1 42 a.toInt.toNat)), .inr (.inl (some 28))]) (rest := []) (p' := 46) h em86_43 ((congrFun xo_0 275).trans rfl) xm_49 rfl rfl
        obtain ⟨c, hc⟩ := Option.ne_none_iff_exists'.mp c17
        rw [hc] at hE43_1
        have hs9 := hI.2.1 42 _ c (Or.inr rfl) hc
        obtain ⟨rfl, k1, k2, k3⟩ := ex_become_c28 hE43_1 hO hs9.2.2.1 hs9.2.2.2 hs9.1
        replace h : eT xq_86 _ 46 [some (.inr (.inl (some 0))), some (.inl a)] [] μ43_1 r μ' := h
        replace h := tx_aload_n (p' := 47) h em86_46 rfl rfl
        replace h := tx_getc (c := 11) (j := 12) (p' := 50) h em86_47 ((congrFun xo_0 57).trans rfl) rfl rfl rfl
        replace h := tx_iload_n (p' := 51) h em86_50 rfl rfl
        replace h := tx_iconst (v := 1) (p' := 52) h em86_51 (by decide +kernel) rfl
        obtain ⟨hb52_1, h⟩ := tx_bast (len := 3) (p' := 53) h em86_52 rfl rfl
        replace hb52_1 : (0 : Int) ≤ a.toInt ∧ a.toInt < 3 := hb52_1
        replace h := tx_iconst (v := 1) (p' := 54) h em86_53 (by decide +kernel) rfl
        obtain ⟨rfl, hμ⟩ := tx_ireturn h em86_54
        replace hμ : μ' = (xpi μ43_1 43 a.toInt.toNat ((1 : Int32)).toInt8.toInt32) := hμ
        have hN := hO.1
        have b1 : ((1 : Int32).toInt8.toInt32) = 1 := by decide
        rw [b1] at hμ
        have e2 : μ'.2 = μ43_1.2 := by rw [hμ]; rfl
        have eo : ∀ x j, x ≠ 43 → μ'.1 x j = μ43_1.1 x j := fun x j z => by rw [hμ, xpi_ne (fun y => z y.1)]
        have hI3 : hsI μ43_1 := hsI_2 k1 hI
        have hO3 : hOK μ43_1 := hOK_2 k1 hO
        have f1 : ∀ x j, x < μ.2.2.2 → ¬ (c ≤ x ∧ x < c + 6) → μ43_1.1 x j = μ.1 x j := fun x j _ q => k2 x j q
        have f2 : ∀ x j, x < μ.2.2.2 → ¬ (x = 42 ∧ j = a.toInt.toNat) → μ43_1.2.2.1 x j = μ.2.2.1 x j := fun x j _ _ => by rw [k1]
        have f3 : μ43_1.2.2.1 42 a.toInt.toNat = some c := by rw [k1]; exact hc
        have f4 : tcp c 28 μ μ43_1 := k3
        have hc9 : 119 ≤ c := hs9.1
        have hL3 := hsL_hold hS.1 hO hI hL hT hI3 f1 f2 f3 f4
        have g1 : ∀ x j, x < 119 → x ≠ 43 → μ'.1 x j = μ.1 x j := fun x j p q => (eo x j q).trans (f1 x j (by omega) (by omega))
        refine Or.inr ⟨rfl, by omega, tw9_cg hT (fun x j p q => g1 x j (by omega) (by omega)), ?_, hsI_2 e2 hI3, hOK_2 e2 hO3, ?_, cS9_cg hS (fun k j p q => g1 k j (by omega) (by omega)), fun j => ?_⟩
        · exact hsL_cg hI3 hL3 e2 ⟨eo 40 1 (by decide), eo 40 2 (by decide)⟩ (fun x j p => eo x j (by omega))
        · exact pOK9_2 e2 (fun p hp j hj => (f2 p j (by omega) (fun q => by omega)).trans (hP p hp j hj))
        · by_cases q : j = a.toInt.toNat
          · rw [hμ, q, xpi_at, if_pos rfl]
          · rw [hμ, xpi_ne (fun z => q z.2), if_neg q]
            exact f1 43 j (by omega) (by omega)
    · replace c6 : ¬ a.toInt < 3 := c6
      replace h := tx_iconst (v := 0) (p' := 10) h em86_9 (by decide +kernel) rfl
      obtain ⟨rfl, hμ⟩ := tx_ireturn h em86_10
      exact Or.inl ⟨rfl, hμ, by omega⟩
set_option maxRecDepth 10000 in
set_option maxHeartbeats 4000000 in
theorem ex_crestore {a : Int32} {S : kSt} {ρ : Nat → Int32} {m : Nat} {G : Nat → Nat → Int32} {Z : Nat → Option (Nat → Int32)} {μ μ' : xM} {r : Option zV} (h0 : Ex gx xq_99 [.inr (.inl (some 0)), .inl a] μ r μ') (hO : hOK μ) (hP : pOK9 μ) (hS : cS9 S μ) (hT : tw9 S 28 ρ μ) (hI : hsI μ) (hL : hsL S Z m G μ) (hz : zH S Z μ) : (r = some (.inl 0) ∧ μ' = μ ∧ ¬ ((0 ≤ a.toInt ∧ a.toInt < 3) ∧ ¬ μ.1 43 a.toInt.toNat = 0)) ∨ (r = some (.inl 1) ∧ (0 ≤ a.toInt ∧ a.toInt < 3) ∧ ¬ μ.1 43 a.toInt.toNat = 0 ∧ ∃ ρ', Z a.toInt.toNat = some ρ' ∧ tw9 S 28 ρ' μ' ∧ hsL S Z 0 G μ' ∧ hsI μ' ∧ hOK μ' ∧ pOK9 μ' ∧ cS9 S μ') := by
  obtain ⟨n, h⟩ := tx_in (L := [some (.inr (.inl (some 0))), some (.inl a)]) h0 rfl
  replace h := tx_iload_n (p' := 1) h em99_0 rfl rfl
  rcases tx_if (t := 27) (p' := 4) h em99_1 (by decide) rfl with ⟨c1, h⟩ | ⟨c1, h⟩
  · replace c1 : a.toInt < 0 := c1
    replace h := tx_iconst (v := 0) (p' := 28) h em99_27 (by decide +kernel) rfl
    obtain ⟨rfl, hμ⟩ := tx_ireturn h em99_28
    exact Or.inl ⟨rfl, hμ, fun q => by omega⟩
  · replace c1 : ¬ a.toInt < 0 := c1
    replace h := tx_iload_n (p' := 5) h em99_4 rfl rfl
    replace h := tx_iconst (v := 3) (p' := 6) h em99_5 (by decide +kernel) rfl
    rcases tx_icmp (t := 27) (p' := 9) h em99_6 (by decide) rfl with ⟨c6, h⟩ | ⟨c6, h⟩
    · replace c6 : 3 ≤ a.toInt := c6
      replace h := tx_iconst (v := 0) (p' := 28) h em99_27 (by decide +kernel) rfl
      obtain ⟨rfl, hμ⟩ := tx_ireturn h em99_28
      exact Or.inl ⟨rfl, hμ, fun q => by omega⟩
    · replace c6 : ¬ 3 ≤ a.toInt := c6
      replace h := tx_aload_n (p' := 10) h em99_9 rfl rfl
      replace h := tx_getc (c := 11) (j := 12) (p' := 13) h em99_10 ((congrFun xo_0 57).trans rfl) rfl rfl rfl
      replace h := tx_iload_n (p' := 14) h em99_13 rfl rfl
      obtain ⟨hb14, h⟩ := tx_bald (len := 3) (p' := 15) h em99_14 rfl rfl
      replace hb14 : (0 : Int) ≤ a.toInt ∧ a.toInt < 3 := hb14
      rcases tx_if (t := 27) (p' := 18) h em99_15 (by decide) rfl with ⟨c15, h⟩ | ⟨c15, h⟩
      · replace c15 : (μ.1 43 a.toInt.toNat).toInt = 0 := c15
        replace h := tx_iconst (v := 0) (p' := 28) h em99_27 (by decide +kernel) rfl
        obtain ⟨rfl, hμ⟩ := tx_ireturn h em99_28
        exact Or.inl ⟨rfl, hμ, fun q => q.2 (Int32.toInt_inj.mp ((c15).trans (by decide)))⟩
      · replace c15 : ¬ (μ.1 43 a.toInt.toNat).toInt = 0 := c15
        replace h := tx_aload_n (p' := 19) h em99_18 rfl rfl
        replace h := tx_getc (c := 11) (j := 11) (p' := 22) h em99_19 ((congrFun xo_0 53).trans rfl) rfl rfl rfl
        replace h := tx_iload_n (p' := 23) h em99_22 rfl rfl
        obtain ⟨hb23, h⟩ := tx_aald (len := 3) (p' := 24) h em99_23 rfl rfl
        replace hb23 : (0 : Int) ≤ a.toInt ∧ a.toInt < 3 := hb23
        rcases tx_ifnonnull (t := 29) (p' := 27) h em99_24 (by decide) rfl with ⟨c24, h⟩ | ⟨c24, h⟩
        · replace h := tx_iconst (v := 0) (p' := 28) h em99_27 (by decide +kernel) rfl
          obtain ⟨rfl, hμ⟩ := tx_ireturn h em99_28
          exfalso
          obtain ⟨p1, p2 | ⟨ρ', p2, p3, p4, p5⟩⟩ := hz a.toInt.toNat (by omega)
          · rw [p2.2] at c15
            exact c15 (by decide)
          · obtain ⟨c, q1, q2⟩ := hL.2.2.2.2 _ ρ' (by omega) p2
            rw [q1] at c24
            cases c24
        · replace h := tx_aload_n (p' := 30) h em99_29 rfl rfl
          replace h := tx_getc (c := 11) (j := 1) (p' := 33) h em99_30 ((congrFun xo_0 39).trans rfl) rfl rfl rfl
          replace h := tx_aload_n (p' := 34) h em99_33 rfl rfl
          replace h := tx_getc (c := 11) (j := 11) (p' := 37) h em99_34 ((congrFun xo_0 53).trans rfl) rfl rfl rfl
          replace h := tx_iload_n (p' := 38) h em99_37 rfl rfl
          obtain ⟨hb38, h⟩ := tx_aald (len := 3) (p' := 39) h em99_38 rfl rfl
          replace hb38 : (0 : Int) ≤ a.toInt ∧ a.toInt < 3 := hb38
          obtain ⟨r39, μ39, hE39, h⟩ := tx_invV (na := 2) (mn := 49) (as := [.inr (.inl (some 28)), .inr (.inl (μ.2.2.1 42 a.toInt.toNat))]) (rest := []) (p' := 42) h em99_39 ((congrFun xo_0 275).trans rfl) xm_49 rfl rfl
          obtain ⟨c, hc⟩ := Option.ne_none_iff_exists'.mp c24
          rw [hc] at hE39
          have hs9 := hI.2.1 42 _ c (Or.inr rfl) hc
          obtain ⟨rfl, k1, k2, k3⟩ := ex_become_28d hE39 hO hs9.2.2.1 hs9.2.2.2 hs9.1
          replace h : eT xq_99 _ 42 [some (.inr (.inl (some 0))), some (.inl a)] [] μ39 r μ' := h
          replace h := tx_aload_n (p' := 43) h em99_42 rfl rfl
          replace h := tx_getc (c := 11) (j := 8) (p' := 46) h em99_43 ((congrFun xo_0 49).trans rfl) rfl rfl rfl
          replace h := tx_iconst (v := 0) (p' := 47) h em99_46 (by decide +kernel) rfl
          replace h := tx_putf (a := 40) (c := 0) (j := 2) (p' := 50) h em99_47 ((congrFun xo_0 130).trans rfl) rfl
          replace h := tx_iconst (v := 1) (p' := 51) h em99_50 (by decide +kernel) rfl
          obtain ⟨rfl, hμ⟩ := tx_ireturn h em99_51
          replace hμ : μ' = (xpi μ39 40 2 (0 : Int32)) := hμ
          obtain ⟨p1, p2 | ⟨ρ', p2, p3, p4, p5⟩⟩ := hz a.toInt.toNat (by omega)
          · exfalso
            rw [p2.2] at c15
            exact c15 (by decide)
          obtain ⟨c', q1, q2⟩ := hL.2.2.2.2 _ ρ' (by omega) p2
          have ecc : c' = c := Option.some.inj (q1.symm.trans hc)
          rw [ecc] at q2
          have e2 : μ'.2 = μ.2 := by rw [hμ]; exact k1
          have eo : ∀ x j, ¬ (x = 40 ∧ j = 2) → μ'.1 x j = μ39.1 x j := fun x j z => by rw [hμ, xpi_ne z]
          have fr : ∀ x j, ¬ (x = 40 ∧ j = 2) → ¬ (28 ≤ x ∧ x < 34) → μ'.1 x j = μ.1 x j := fun x j y z => (eo x j y).trans (k2 x j z)
          have f2 : μ'.1 40 2 = 0 := by rw [hμ, xpi_at]
          obtain ⟨l1, l2, l3, l4, l5⟩ := hL
          have hnz : ¬ μ.1 43 a.toInt.toNat = 0 := fun z => by rw [z] at p3; exact absurd p3 (by decide)
          refine Or.inr ⟨rfl, by omega, hnz, ρ', p2, tw9_cp hS.1 q2 (tcp_cg k3 (fun _ _ _ _ => rfl) (fun x j y z => eo x j (by omega))), ⟨by rw [fr 40 1 (by decide) (by decide)]; exact l1, by rw [f2]; rfl, by decide, fun i hi => absurd hi (Nat.not_lt_zero i), fun i ρz hi hZ => ?_⟩, hsI_2 e2 hI, hOK_2 e2 hO, pOK9_2 e2 hP, cS9_cg hS (fun k j y z => fr k j (by omega) (by omega))⟩
          obtain ⟨d, d1, d2⟩ := l5 i ρz hi hZ
          have hd9 := (hI.2.1 42 _ d (Or.inr rfl) d1).1
          refine ⟨d, by rw [e2]; exact d1, tw9_cg d2 (fun x j y z => fr x j (by omega) (by omega))⟩
set_option maxRecDepth 10000 in
set_option maxHeartbeats 4000000 in
theorem ex_mhold {a : Int32} {μ μ' : xM} {r : Option zV} (h0 : Ex gx xq_146 [.inr (.inl (some 75)), .inl a] μ r μ') : (r = some (.inl 0) ∧ μ' = μ ∧ ¬ (0 ≤ a.toInt ∧ a.toInt < 3)) ∨ (r = some (.inl 1) ∧ (0 ≤ a.toInt ∧ a.toInt < 3) ∧ (∀ j, μ'.1 117 j = if j = a.toInt.toNat then 1 else μ.1 117 j) ∧ (∀ x, x < 390 → μ'.1 118 (390 * a.toInt.toNat + x) = μ.1 107 x) ∧ (∀ j, ¬ (390 * a.toInt.toNat ≤ j ∧ j < 390 * a.toInt.toNat + 390) → μ'.1 118 j = μ.1 118 j) ∧ (∀ k j, k ≠ 117 → k ≠ 118 → μ'.1 k j = μ.1 k j) ∧ μ'.2 = μ.2) := by
  obtain ⟨n, h⟩ := tx_in (L := [some (.inr (.inl (some 75))), some (.inl a), none]) h0 rfl
  have e1i : (1 : Int32).toInt = 1 := by decide
  have e0i : (0 : Int32).toInt = 0 := by decide
  have e390 : (390 : Int32).toInt = 390 := by decide
  have loop : (0 ≤ a.toInt ∧ a.toInt < 3) → ∀ (n k : Nat) (i : Int32) (ω : xM), eT xq_146 n 20 [some (.inr (.inl (some 75))), some (.inl a), some (.inl i)] [] ω r μ' → i.toInt = (k : Int) → k ≤ 390 → (∀ j, ω.1 117 j = if j = a.toInt.toNat then 1 else μ.1 117 j) → (∀ x, x < k → ω.1 118 (390 * a.toInt.toNat + x) = μ.1 107 x) → (∀ j, ¬ (390 * a.toInt.toNat ≤ j ∧ j < 390 * a.toInt.toNat + 390) → ω.1 118 j = μ.1 118 j) → (∀ k j, k ≠ 117 → k ≠ 118 → ω.1 k j = μ.1 k j) ∧ ω.2 = μ.2 → (r = some (.inl 0) ∧ μ' = μ ∧ ¬ (0 ≤ a.toInt ∧ a.toInt < 3)) ∨ (r = some (.inl 1) ∧ (0 ≤ a.toInt ∧ a.toInt < 3) ∧ (∀ j, μ'.1 117 j = if j = a.toInt.toNat then 1 else μ.1 117 j) ∧ (∀ x, x < 390 → μ'.1 118 (390 * a.toInt.toNat + x) = μ.1 107 x) ∧ (∀ j, ¬ (390 * a.toInt.toNat ≤ j ∧ j < 390 * a.toInt.toNat + 390) → μ'.1 118 j = μ.1 118 j) ∧ (∀ k j, k ≠ 117 → k ≠ 118 → μ'.1 k j = μ.1 k j) ∧ μ'.2 = μ.2) := by
    intro ha n
    induction n using Nat.strongRecOn with
    | ind n ih =>
    intro k i ω h hi hk h1 h2 h3 h4
    have u1 : ((390 : Int32) * a).toInt = 390 * a.toInt := by rw [an_mul (by rw [e390]; omega) (by rw [e390]; omega), e390]
    replace h := tx_iload_n (p' := 21) h em146_20 rfl rfl
    replace h := tx_sipush (v := 390) (p' := 24) h em146_21 (by decide +kernel) rfl
    rcases tx_icmp (t := 51) (p' := 27) h em146_24 (by decide) rfl with ⟨c24, h⟩ | ⟨c24, h⟩
    · replace c24 : 390 ≤ i.toInt := c24
      replace h := tx_iconst (v := 1) (p' := 52) h em146_51 (by decide +kernel) rfl
      obtain ⟨rfl, hμ⟩ := tx_ireturn h em146_52
      rw [hμ]
      exact Or.inr ⟨rfl, ha, h1, fun x hx => h2 x (by omega), h3, h4.1, h4.2⟩
    · replace c24 : ¬ 390 ≤ i.toInt := c24
      replace h := tx_aload_n (p' := 28) h em146_27 rfl rfl
      replace h := tx_getc (c := 12) (j := 69) (p' := 31) h em146_28 ((congrFun xo_12 146).trans rfl) rfl rfl rfl
      replace h := tx_sipush (v := 390) (p' := 34) h em146_31 (by decide +kernel) rfl
      replace h := tx_iload_n (p' := 35) h em146_34 rfl rfl
      replace h := tx_imul (p' := 36) h em146_35 rfl
      replace h := tx_iload_n (p' := 37) h em146_36 rfl rfl
      replace h := tx_iadd (p' := 38) h em146_37 rfl
      replace h := tx_aload_n (p' := 39) h em146_38 rfl rfl
      replace h := tx_getc (c := 12) (j := 1) (p' := 42) h em146_39 ((congrFun xo_12 113).trans rfl) rfl rfl rfl
      replace h := tx_iload_n (p' := 43) h em146_42 rfl rfl
      obtain ⟨hb43, h⟩ := tx_iald (len := 390) (p' := 44) h em146_43 rfl rfl
      replace hb43 : (0 : Int) ≤ i.toInt ∧ i.toInt < 390 := hb43
      obtain ⟨hb44, h⟩ := tx_iast (len := 1170) (p' := 45) h em146_44 rfl rfl
      replace hb44 : (0 : Int) ≤ (((390 : Int32) * a) + i).toInt ∧ (((390 : Int32) * a) + i).toInt < 1170 := hb44
      replace h := tx_iinc (v := 1) (p' := 48) h em146_45 (by decide +kernel) rfl rfl
      replace h : eT xq_146 _ 48 [some (.inr (.inl (some 75))), some (.inl a), some (.inl (i + 1))] [] (xpi ω 118 (((390 : Int32) * a) + i).toInt.toNat (ω.1 107 i.toInt.toNat)) r μ' := h
      obtain ⟨n2, hn2, h⟩ := tx_gotoS (t := 20) h em146_48 (by decide)
      have ei : (i + 1).toInt = ((k + 1 : Nat) : Int) := by rw [an_add (by rw [e1i]; omega) (by rw [e1i]; omega), e1i]; omega
      have u2 : (((390 : Int32) * a) + i).toInt.toNat = 390 * a.toInt.toNat + k := by
        have : (((390 : Int32) * a) + i).toInt = 390 * a.toInt + k := by rw [an_add (by rw [u1]; omega) (by rw [u1]; omega), u1, hi]
        omega
      rw [u2, show i.toInt.toNat = k by omega] at h
      refine ih n2 hn2 (k + 1) _ _ h ei (by omega) (fun j => (xpi_ne (fun q => absurd q.1 (by decide))).trans (h1 j)) (fun x hx => ?_) (fun j hj => (xpi_ne (fun q => hj (by omega))).trans (h3 j hj)) ⟨fun k j p q => (xpi_ne (fun z => q z.1)).trans (h4.1 k j p q), h4.2⟩
      by_cases e : x = k
      · rw [e, xpi_at]; exact h4.1 107 k (by decide) (by decide)
      · rw [xpi_ne (fun q => e (by omega))]; exact h2 x (by omega)
  replace h := tx_iload_n (p' := 1) h em146_0 rfl rfl
  replace h := tx_iconst (v := 0) (p' := 2) h em146_1 (by decide +kernel) rfl
  replace h := tx_iconst (v := 2) (p' := 3) h em146_2 (by decide +kernel) rfl
  obtain ⟨r3, μ3, hE3, h⟩ := tx_invS (na := 3) (mn := 148) (as := [.inl a, .inl (0 : Int32), .inl (2 : Int32)]) (rest := []) (p' := 6) h em146_3 ((congrFun xo_12 324).trans rfl) xm_148 rfl rfl
  have e2i : (2 : Int32).toInt = 2 := by decide
  obtain ⟨hm1, ⟨rfl, v1, v2⟩ | ⟨rfl, v1⟩⟩ := ex_in hE3
  · rw [hm1] at h
    replace h : eT xq_146 _ 6 [some (.inr (.inl (some 75))), some (.inl a), none] [.inl (1 : Int32)] μ r μ' := h
    rcases tx_if (t := 11) (p' := 9) h em146_6 (by decide) rfl with ⟨c6, h⟩ | ⟨c6, h⟩
    · replace c6 : ¬ (1 : Int) = (0 : Int) := c6
      replace h := tx_aload_n (p' := 12) h em146_11 rfl rfl
      replace h := tx_getc (c := 12) (j := 68) (p' := 15) h em146_12 ((congrFun xo_12 143).trans rfl) rfl rfl rfl
      replace h := tx_iload_n (p' := 16) h em146_15 rfl rfl
      replace h := tx_iconst (v := 1) (p' := 17) h em146_16 (by decide +kernel) rfl
      obtain ⟨hb17, h⟩ := tx_bast (len := 3) (p' := 18) h em146_17 rfl rfl
      replace hb17 : (0 : Int) ≤ a.toInt ∧ a.toInt < 3 := hb17
      replace h := tx_iconst (v := 0) (p' := 19) h em146_18 (by decide +kernel) rfl
      replace h := tx_istore_n (p' := 20) h em146_19 rfl
      replace h : eT xq_146 _ 20 [some (.inr (.inl (some 75))), some (.inl a), some (.inl (0 : Int32))] [] (xpi μ 117 a.toInt.toNat ((1 : Int32)).toInt8.toInt32) r μ' := h
      have b1 : ((1 : Int32).toInt8.toInt32) = 1 := by decide
      rw [b1] at h
      refine loop ⟨by omega, by omega⟩ _ 0 _ _ h (by decide) (Nat.zero_le _) (fun j => ?_) (fun x hx => absurd hx (Nat.not_lt_zero x)) (fun j _ => xpi_ne (fun q => absurd q.1 (by decide))) ⟨fun k j p q => xpi_ne (fun z => p z.1), rfl⟩
      by_cases q : j = a.toInt.toNat
      · rw [q, xpi_at, if_pos rfl]
      · rw [xpi_ne (fun z => q z.2), if_neg q]
    · replace c6 : ¬ ¬ (1 : Int) = (0 : Int) := c6
      exfalso
      omega
  · rw [hm1] at h
    replace h : eT xq_146 _ 6 [some (.inr (.inl (some 75))), some (.inl a), none] [.inl (0 : Int32)] μ r μ' := h
    rcases tx_if (t := 11) (p' := 9) h em146_6 (by decide) rfl with ⟨c6_1, h⟩ | ⟨c6_1, h⟩
    · replace c6_1 : ¬ (0 : Int) = (0 : Int) := c6_1
      exfalso
      omega
    · replace c6_1 : ¬ ¬ (0 : Int) = (0 : Int) := c6_1
      replace h := tx_iconst (v := 0) (p' := 10) h em146_9 (by decide +kernel) rfl
      obtain ⟨rfl, hμ⟩ := tx_ireturn h em146_10
      exact Or.inl ⟨rfl, hμ, by omega⟩
set_option maxRecDepth 10000 in
set_option maxHeartbeats 4000000 in
theorem ex_mrestore {a : Int32} {μ μ' : xM} {r : Option zV} (h0 : Ex gx xq_182 [.inr (.inl (some 75)), .inl a] μ r μ') : (r = some (.inl 0) ∧ μ' = μ ∧ ¬ ((0 ≤ a.toInt ∧ a.toInt < 3) ∧ ¬ μ.1 117 a.toInt.toNat = 0)) ∨ (r = some (.inl 1) ∧ (0 ≤ a.toInt ∧ a.toInt < 3) ∧ ¬ μ.1 117 a.toInt.toNat = 0 ∧ (∀ x, x < 390 → μ'.1 107 x = μ.1 118 (390 * a.toInt.toNat + x)) ∧ (μ'.1 75 10).toInt = 0 ∧ (∀ k j, k ≠ 107 → ¬ (k = 75 ∧ j = 10) → μ'.1 k j = μ.1 k j) ∧ μ'.2 = μ.2) := by
  obtain ⟨n, h⟩ := tx_in (L := [some (.inr (.inl (some 75))), some (.inl a), none]) h0 rfl
  have e1i : (1 : Int32).toInt = 1 := by decide
  have e0i : (0 : Int32).toInt = 0 := by decide
  have e390 : (390 : Int32).toInt = 390 := by decide
  have loop : (0 ≤ a.toInt ∧ a.toInt < 3) → ¬ μ.1 117 a.toInt.toNat = 0 → ∀ (n k : Nat) (i : Int32) (ω : xM), eT xq_182 n 22 [some (.inr (.inl (some 75))), some (.inl a), some (.inl i)] [] ω r μ' → i.toInt = (k : Int) → k ≤ 390 → (∀ x, x < k → ω.1 107 x = μ.1 118 (390 * a.toInt.toNat + x)) → (∀ k j, k ≠ 107 → ω.1 k j = μ.1 k j) ∧ ω.2 = μ.2 → (r = some (.inl 0) ∧ μ' = μ ∧ ¬ ((0 ≤ a.toInt ∧ a.toInt < 3) ∧ ¬ μ.1 117 a.toInt.toNat = 0)) ∨ (r = some (.inl 1) ∧ (0 ≤ a.toInt ∧ a.toInt < 3) ∧ ¬ μ.1 117 a.toInt.toNat = 0 ∧ (∀ x, x < 390 → μ'.1 107 x = μ.1 118 (390 * a.toInt.toNat + x)) ∧ (μ'.1 75 10).toInt = 0 ∧ (∀ k j, k ≠ 107 → ¬ (k = 75 ∧ j = 10) → μ'.1 k j = μ.1 k j) ∧ μ'.2 = μ.2) := by
    intro ha hnz n
    induction n using Nat.strongRecOn with
    | ind n ih =>
    intro k i ω h hi hk h2 h4
    have u1 : ((390 : Int32) * a).toInt = 390 * a.toInt := by rw [an_mul (by rw [e390]; omega) (by rw [e390]; omega), e390]
    replace h := tx_iload_n (p' := 23) h em182_22 rfl rfl
    replace h := tx_sipush (v := 390) (p' := 26) h em182_23 (by decide +kernel) rfl
    rcases tx_icmp (t := 53) (p' := 29) h em182_26 (by decide) rfl with ⟨c26, h⟩ | ⟨c26, h⟩
    · replace c26 : 390 ≤ i.toInt := c26
      replace h := tx_aload_n (p' := 54) h em182_53 rfl rfl
      replace h := tx_iconst (v := 0) (p' := 55) h em182_54 (by decide +kernel) rfl
      replace h := tx_putf (a := 75) (c := 12) (j := 10) (p' := 58) h em182_55 ((congrFun xo_12 248).trans rfl) rfl
      replace h := tx_iconst (v := 1) (p' := 59) h em182_58 (by decide +kernel) rfl
      obtain ⟨rfl, hμ⟩ := tx_ireturn h em182_59
      replace hμ : μ' = (xpi ω 75 10 (0 : Int32)) := hμ
      rw [hμ]
      exact Or.inr ⟨rfl, ha, hnz, fun x hx => by rw [xpi_ne (fun q => absurd q.1 (by decide))]; exact h2 x (by omega), by rw [xpi_at]; rfl, fun k j p q => (xpi_ne q).trans (h4.1 k j p), h4.2⟩
    · replace c26 : ¬ 390 ≤ i.toInt := c26
      replace h := tx_aload_n (p' := 30) h em182_29 rfl rfl
      replace h := tx_getc (c := 12) (j := 1) (p' := 33) h em182_30 ((congrFun xo_12 113).trans rfl) rfl rfl rfl
      replace h := tx_iload_n (p' := 34) h em182_33 rfl rfl
      replace h := tx_aload_n (p' := 35) h em182_34 rfl rfl
      replace h := tx_getc (c := 12) (j := 69) (p' := 38) h em182_35 ((congrFun xo_12 146).trans rfl) rfl rfl rfl
      replace h := tx_sipush (v := 390) (p' := 41) h em182_38 (by decide +kernel) rfl
      replace h := tx_iload_n (p' := 42) h em182_41 rfl rfl
      replace h := tx_imul (p' := 43) h em182_42 rfl
      replace h := tx_iload_n (p' := 44) h em182_43 rfl rfl
      replace h := tx_iadd (p' := 45) h em182_44 rfl
      obtain ⟨hb45, h⟩ := tx_iald (len := 1170) (p' := 46) h em182_45 rfl rfl
      replace hb45 : (0 : Int) ≤ (((390 : Int32) * a) + i).toInt ∧ (((390 : Int32) * a) + i).toInt < 1170 := hb45
      obtain ⟨hb46, h⟩ := tx_iast (len := 390) (p' := 47) h em182_46 rfl rfl
      replace hb46 : (0 : Int) ≤ i.toInt ∧ i.toInt < 390 := hb46
      replace h := tx_iinc (v := 1) (p' := 50) h em182_47 (by decide +kernel) rfl rfl
      replace h : eT xq_182 _ 50 [some (.inr (.inl (some 75))), some (.inl a), some (.inl (i + 1))] [] (xpi ω 107 i.toInt.toNat (ω.1 118 (((390 : Int32) * a) + i).toInt.toNat)) r μ' := h
      obtain ⟨n2, hn2, h⟩ := tx_gotoS (t := 22) h em182_50 (by decide)
      have ei : (i + 1).toInt = ((k + 1 : Nat) : Int) := by rw [an_add (by rw [e1i]; omega) (by rw [e1i]; omega), e1i]; omega
      have u2 : (((390 : Int32) * a) + i).toInt.toNat = 390 * a.toInt.toNat + k := by
        have : (((390 : Int32) * a) + i).toInt = 390 * a.toInt + k := by rw [an_add (by rw [u1]; omega) (by rw [u1]; omega), u1, hi]
        omega
      rw [u2, show i.toInt.toNat = k by omega, h4.1 118 _ (by decide)] at h
      refine ih n2 hn2 (k + 1) _ _ h ei (by omega) (fun x hx => ?_) ⟨fun k j p => (xpi_ne (fun z => p z.1)).trans (h4.1 k j p), h4.2⟩
      by_cases e : x = k
      · rw [e, xpi_at]
      · rw [xpi_ne (fun q => e q.2)]; exact h2 x (by omega)
  replace h := tx_iload_n (p' := 1) h em182_0 rfl rfl
  replace h := tx_iconst (v := 0) (p' := 2) h em182_1 (by decide +kernel) rfl
  replace h := tx_iconst (v := 2) (p' := 3) h em182_2 (by decide +kernel) rfl
  obtain ⟨r3, μ3, hE3, h⟩ := tx_invS (na := 3) (mn := 148) (as := [.inl a, .inl (0 : Int32), .inl (2 : Int32)]) (rest := []) (p' := 6) h em182_3 ((congrFun xo_12 324).trans rfl) xm_148 rfl rfl
  have e2i : (2 : Int32).toInt = 2 := by decide
  obtain ⟨hm1, ⟨rfl, v1, v2⟩ | ⟨rfl, v1⟩⟩ := ex_in hE3
  · rw [hm1] at h
    replace h : eT xq_182 _ 6 [some (.inr (.inl (some 75))), some (.inl a), none] [.inl (1 : Int32)] μ r μ' := h
    rcases tx_if (t := 18) (p' := 9) h em182_6 (by decide) rfl with ⟨c6, h⟩ | ⟨c6, h⟩
    · replace c6 : (1 : Int) = (0 : Int) := c6
      exfalso
      omega
    · replace c6 : ¬ (1 : Int) = (0 : Int) := c6
      replace h := tx_aload_n (p' := 10) h em182_9 rfl rfl
      replace h := tx_getc (c := 12) (j := 68) (p' := 13) h em182_10 ((congrFun xo_12 143).trans rfl) rfl rfl rfl
      replace h := tx_iload_n (p' := 14) h em182_13 rfl rfl
      obtain ⟨hb14, h⟩ := tx_bald (len := 3) (p' := 15) h em182_14 rfl rfl
      replace hb14 : (0 : Int) ≤ a.toInt ∧ a.toInt < 3 := hb14
      rcases tx_if (t := 20) (p' := 18) h em182_15 (by decide) rfl with ⟨c15, h⟩ | ⟨c15, h⟩
      · replace c15 : ¬ (μ.1 117 a.toInt.toNat).toInt = 0 := c15
        replace h := tx_iconst (v := 0) (p' := 21) h em182_20 (by decide +kernel) rfl
        replace h := tx_istore_n (p' := 22) h em182_21 rfl
        replace h : eT xq_182 _ 22 [some (.inr (.inl (some 75))), some (.inl a), some (.inl (0 : Int32))] [] μ r μ' := h
        exact loop ⟨by omega, by omega⟩ (fun z => by rw [z] at c15; exact c15 (by decide)) _ 0 _ _ h (by decide) (Nat.zero_le _) (fun x hx => absurd hx (Nat.not_lt_zero x)) ⟨fun _ _ _ => rfl, rfl⟩
      · replace c15 : ¬ ¬ (μ.1 117 a.toInt.toNat).toInt = 0 := c15
        replace h := tx_iconst (v := 0) (p' := 19) h em182_18 (by decide +kernel) rfl
        obtain ⟨rfl, hμ⟩ := tx_ireturn h em182_19
        exact Or.inl ⟨rfl, hμ, fun q => q.2 (Int32.toInt_inj.mp (((Decidable.of_not_not c15)).trans (by decide)))⟩
  · rw [hm1] at h
    replace h : eT xq_182 _ 6 [some (.inr (.inl (some 75))), some (.inl a), none] [.inl (0 : Int32)] μ r μ' := h
    rcases tx_if (t := 18) (p' := 9) h em182_6 (by decide) rfl with ⟨c6_1, h⟩ | ⟨c6_1, h⟩
    · replace c6_1 : (0 : Int) = (0 : Int) := c6_1
      replace h := tx_iconst (v := 0) (p' := 19) h em182_18 (by decide +kernel) rfl
      obtain ⟨rfl, hμ⟩ := tx_ireturn h em182_19
      exact Or.inl ⟨rfl, hμ, fun q => by omega⟩
    · replace c6_1 : ¬ (0 : Int) = (0 : Int) := c6_1
      exfalso
      omega
set_option maxRecDepth 10000 in
set_option maxHeartbeats 4000000 in
theorem zT_hold {a : Int32} {S : kSt} {s m : Nat} {G : Nat → Nat → Int32} {Z : Nat → Option (Nat → Int32)} {μ μ1 μ2 : xM} {r r' : Option zV} (hz : zT9 S s m G Z μ) (h1 : Ex gx xq_86 [.inr (.inl (some 0)), .inl a] μ r μ1) (h2 : Ex gx xq_146 [.inr (.inl (some 75)), .inl a] μ1 r' μ2) : (∃ x : Int32, r = some (.inl x) ∧ r' = some (.inl x)) ∧ ∃ m' G' Z', zT9 S s m' G' Z' μ2 := by
  obtain ⟨hO, hP, hI, hS, hR, hT, hL, hH, ⟨hp, hpG⟩, hz⟩ := hz
  have e := rE_w (by decide +kernel) (hf_86_0 h1 (hEn0 (by decide)) hO).2 hO
  have hR1 : rS9 S s μ1 := rS9_cg hR (fun k j a b => e k j (by omega) (by omega)) (e 75 2 (by decide) (by decide))
  have hH1 : mH m G μ1 := mH_cg hH (e 75 10 (by decide) (by decide)) (fun j => e 112 j (by decide) (by decide))
  have eN := rNow_cg e
  have hn : ∀ x, x < 390 → μ1.1 107 x = rNow μ x := fun x hx => by rw [← eN, rNow_lt hx]
  have hc := ex_chold h1 hO hP hS hT hI hL
  have hm := ex_mhold h2
  rcases hc with ⟨rfl, c1, c2⟩ | ⟨rfl, k1, c6, c7, c8, c9, cb, cc, ch⟩
  · rcases hm with ⟨rfl, m1, m2⟩ | ⟨rfl, m1, -⟩
    · subst c1 m1
      exact ⟨⟨_, rfl, rfl⟩, m, G, Z, hO, hP, hI, hS, hR, hT, hL, hH, ⟨hp, hpG⟩, hz⟩
    · exact absurd m1 c2
  · rcases hm with ⟨rfl, m1, m2⟩ | ⟨rfl, m1, g1, g2, g3, g4, g5⟩
    · exact absurd k1 m2
    · have er : ∀ x, x < 390 → rNow μ2 x = rNow μ x := fun x hx => by
        rw [rNow_lt hx, g4 107 x (by decide) (by decide)]
        exact hn x hx
      refine ⟨⟨_, rfl, rfl⟩, m, G, zup Z a.toInt.toNat (rNow μ), hOK_2 g5 c9, pOK9_2 g5 cb, hsI_2 g5 c8, cS9_cg cc (fun k j p q => g4 k j (by omega) (by omega)), rS9_cg hR1 (fun k j p q => g4 k j (by omega) (by omega)) (g4 75 2 (by decide) (by decide)), tw9_r hS.1 (tw9_cg c6 (fun x j p q => g4 x j (by omega) (by omega))) er, hsL_cg c8 c7 g5 ⟨g4 40 1 (by decide) (by decide), g4 40 2 (by decide) (by decide)⟩ (fun x j q => g4 x j (by omega) (by omega)), mH_cg hH1 (g4 75 10 (by decide) (by decide)) (fun j => g4 112 j (by decide) (by decide)), ⟨pI_r hS.1 hp er, hpG⟩, fun i hi => ?_⟩
      rw [g4 43 i (by decide) (by decide), ch, g1, e 117 i (by decide) (by decide)]
      unfold zup
      by_cases q : i = a.toInt.toNat
      · rw [if_pos q, if_pos q, if_pos q]
        exact ⟨rfl, Or.inr ⟨_, rfl, rfl, hp, fun x hx => by rw [q, g2 x hx]; exact hn x hx⟩⟩
      · rw [if_neg q, if_neg q, if_neg q]
        obtain ⟨p1, p2⟩ := hz i hi
        refine ⟨p1, ?_⟩
        rcases p2 with p2 | ⟨ρ', q1, q2, q3, q4⟩
        · exact Or.inl p2
        · refine Or.inr ⟨ρ', q1, q2, q3, fun x hx => ?_⟩
          rw [g3 _ (by omega), e 118 _ (by decide) (by decide)]
          exact q4 x hx
set_option maxRecDepth 10000 in
set_option maxHeartbeats 4000000 in
theorem zT_restore {a : Int32} {S : kSt} {s m : Nat} {G : Nat → Nat → Int32} {Z : Nat → Option (Nat → Int32)} {μ μ1 μ2 : xM} {r r' : Option zV} (hz : zT9 S s m G Z μ) (h1 : Ex gx xq_99 [.inr (.inl (some 0)), .inl a] μ r μ1) (h2 : Ex gx xq_182 [.inr (.inl (some 75)), .inl a] μ1 r' μ2) : (∃ x : Int32, r = some (.inl x) ∧ r' = some (.inl x)) ∧ ∃ m' G' Z', zT9 S s m' G' Z' μ2 := by
  obtain ⟨hO, hP, hI, hS, hR, hT, hL, hH, ⟨hp, hpG⟩, hz⟩ := hz
  have e := rE_w (by decide +kernel) (hf_99_0 h1 (hEn0 (by decide)) hO).2 hO
  have hR1 : rS9 S s μ1 := rS9_cg hR (fun k j a b => e k j (by omega) (by omega)) (e 75 2 (by decide) (by decide))
  have hH1 : mH m G μ1 := mH_cg hH (e 75 10 (by decide) (by decide)) (fun j => e 112 j (by decide) (by decide))
  have eN := rNow_cg e
  have hn : ∀ x, x < 390 → μ1.1 107 x = rNow μ x := fun x hx => by rw [← eN, rNow_lt hx]
  have hc := ex_crestore h1 hO hP hS hT hI hL hz
  have hm := ex_mrestore h2
  have e43 : ∀ j, μ1.1 43 j = μ.1 43 j := fun j => hSt (hf_99_0 h1 (hEn0 (by decide)) hO).2 hO (by decide) (hpA_ok (by decide +kernel) j)
  have hz1 : zH S Z μ1 := zH_cg hz e43 (fun j => e 117 j (by decide) (by decide)) (fun j => e 118 j (by decide) (by decide))
  have e117 : (0 ≤ a.toInt ∧ a.toInt < 3) → μ1.1 117 a.toInt.toNat = μ.1 43 a.toInt.toNat := fun q => by rw [e 117 _ (by decide) (by decide), (hz a.toInt.toNat (by omega)).1]
  rcases hc with ⟨rfl, c1, c2⟩ | ⟨rfl, k1, k2, ρ', k3, c6, c7, c8, c9, cb, cc⟩
  · rcases hm with ⟨rfl, m1, m2⟩ | ⟨rfl, m1, m2, -⟩
    · subst c1 m1
      exact ⟨⟨_, rfl, rfl⟩, m, G, Z, hO, hP, hI, hS, hR, hT, hL, hH, ⟨hp, hpG⟩, hz⟩
    · rw [e117 m1] at m2
      exact absurd ⟨m1, m2⟩ c2
  · rcases hm with ⟨rfl, m1, m2⟩ | ⟨rfl, m1, m2, g1, g2, g3, g4⟩
    · rw [e117 k1] at m2
      exact absurd ⟨k1, k2⟩ m2
    · obtain ⟨p1, p2 | ⟨ρ2, q1, q2, q3, q4⟩⟩ := hz a.toInt.toNat (by omega)
      · exact absurd p2.2 k2
      · obtain rfl := Option.some.inj (q1.symm.trans k3)
        have g : gT9 μ1 μ2 := ⟨fun x j p q => g3 x j (by omega) (fun z => q ⟨z.1, by omega⟩), g4⟩
        exact ⟨⟨_, rfl, rfl⟩, 0, G, Z, zT_2 c9 cb c8 cc c6 c7 hR1 g ⟨g2, by decide, fun i hi => absurd hi (Nat.not_lt_zero i)⟩ (fun x hx => by rw [g1 x hx, e 118 _ (by decide) (by decide)]; exact q4 x hx) q3 (fun i hi => absurd hi (Nat.not_lt_zero i)) hz1⟩
