/-! ===== THE CLASS'S PARSER, EXACTLY ===== -/
/-- where it stands; a token's kind, place, size -/
def cA (μ : xM) : Int := (μ.1 12 3).toInt
def cK (μ : xM) (a : Int) : Int := (μ.1 24 a.toNat).toInt
def cP (μ : xM) (a : Int) : Int := (μ.1 25 a.toNat).toInt
def cS (μ : xM) (a : Int) : Int := (μ.1 26 a.toNat).toInt
/-- a fault here -/
def cF (μ : xM) (f : Int32) : xM := xpi (xpi μ 12 4 f) 12 5 (μ.1 25 (cA μ).toNat)
abbrev xq_13 : xP := (⟨"CapitalCase$Parser", "next", "()I"⟩, prog_4_method_3_code, 1, (some .int))
abbrev xq_10 : xP := (⟨"CapitalCase$Parser", "fail", "(I)Z"⟩, prog_4_method_4_code, 2, (some .boolean))
abbrev xq_9 : xP := (⟨"CapitalCase$Parser", "accept", "(I)Z"⟩, prog_4_method_5_code, 2, (some .boolean))
abbrev xq_14 : xP := (⟨"CapitalCase$Parser", "noteLater", "(ZII)V"⟩, prog_4_method_6_code, 4, none)
set_option maxRecDepth 10000 in
set_option maxHeartbeats 4000000 in
theorem ex_next {μ μ' : xM} {r : Option zV} (h0 : Ex gx xq_13 [.inr (.inl (some 12))] μ r μ') (h4 : cA μ ≤ 400) : r = some (.inl (μ.1 24 (cA μ).toNat)) ∧ μ' = μ := by
  obtain ⟨n, h⟩ := tx_in (L := [some (.inr (.inl (some 12)))]) h0 rfl
  unfold cA at h4
  replace h := tx_aload_n (p' := 1) h em13_0 rfl rfl
  replace h := tx_getf (c := 2) (j := 3) (p' := 4) h em13_1 ((congrFun xo_3 40).trans rfl) rfl rfl (by decide) rfl
  replace h := tx_sipush (v := 400) (p' := 7) h em13_4 (by decide +kernel) rfl
  rcases tx_icmp (t := 25) (p' := 10) h em13_7 (by decide) rfl with ⟨c7, h⟩ | ⟨c7, h⟩
  · replace c7 : 400 < (μ.1 12 3).toInt := c7
    exfalso
    omega
  · replace c7 : ¬ 400 < (μ.1 12 3).toInt := c7
    replace h := tx_aload_n (p' := 11) h em13_10 rfl rfl
    replace h := tx_getc (c := 2) (j := 1) (p' := 14) h em13_11 ((congrFun xo_3 21).trans rfl) rfl rfl rfl
    replace h := tx_getc (c := 7) (j := 0) (p' := 17) h em13_14 ((congrFun xo_3 80).trans rfl) rfl rfl rfl
    replace h := tx_aload_n (p' := 18) h em13_17 rfl rfl
    replace h := tx_getf (c := 2) (j := 3) (p' := 21) h em13_18 ((congrFun xo_3 40).trans rfl) rfl rfl (by decide) rfl
    obtain ⟨hb21, h⟩ := tx_iald (len := 401) (p' := 22) h em13_21 rfl rfl
    replace hb21 : 0 ≤ (μ.1 12 3).toInt ∧ (μ.1 12 3).toInt < 401 := hb21
    replace h := tx_goto (t := 26) h em13_22 (by decide)
    obtain ⟨rfl, hμ⟩ := tx_ireturn h em13_26
    exact ⟨rfl, hμ⟩
set_option maxRecDepth 10000 in
set_option maxHeartbeats 4000000 in
theorem ex_fail {f : Int32} {μ μ' : xM} {r : Option zV} (h0 : Ex gx xq_10 [.inr (.inl (some 12)), .inl f] μ r μ') (h4 : cA μ ≤ 400) : r = some (.inl 0) ∧ μ' = cF μ f := by
  obtain ⟨n, h⟩ := tx_in (L := [some (.inr (.inl (some 12))), some (.inl f)]) h0 rfl
  unfold cA at h4
  replace h := tx_aload_n (p' := 1) h em10_0 rfl rfl
  replace h := tx_iload_n (p' := 2) h em10_1 rfl rfl
  replace h := tx_putf (a := 12) (c := 2) (j := 4) (p' := 5) h em10_2 ((congrFun xo_3 44).trans rfl) rfl
  replace h := tx_aload_n (p' := 6) h em10_5 rfl rfl
  replace h := tx_aload_n (p' := 7) h em10_6 rfl rfl
  replace h := tx_getf (c := 2) (j := 3) (p' := 10) h em10_7 ((congrFun xo_3 40).trans rfl) rfl rfl (by decide) rfl
  replace h : eT xq_10 _ 10 [some (.inr (.inl (some 12))), some (.inl f)] [.inl (μ.1 12 3), .inr (.inl (some 12))] (xpi μ 12 4 f) r μ' := h
  replace h := tx_sipush (v := 400) (p' := 13) h em10_10 (by decide +kernel) rfl
  rcases tx_icmp (t := 31) (p' := 16) h em10_13 (by decide) rfl with ⟨c13, h⟩ | ⟨c13, h⟩
  · replace c13 : 400 < (μ.1 12 3).toInt := c13
    exfalso
    omega
  · replace c13 : ¬ 400 < (μ.1 12 3).toInt := c13
    replace h := tx_aload_n (p' := 17) h em10_16 rfl rfl
    replace h := tx_getc (c := 2) (j := 1) (p' := 20) h em10_17 ((congrFun xo_3 21).trans rfl) rfl rfl rfl
    replace h := tx_getc (c := 7) (j := 1) (p' := 23) h em10_20 ((congrFun xo_3 83).trans rfl) rfl rfl rfl
    replace h := tx_aload_n (p' := 24) h em10_23 rfl rfl
    replace h := tx_getf (c := 2) (j := 3) (p' := 27) h em10_24 ((congrFun xo_3 40).trans rfl) rfl rfl (by decide) rfl
    replace h : eT xq_10 _ 27 [some (.inr (.inl (some 12))), some (.inl f)] [.inl (μ.1 12 3), .inr (.inl (some 25)), .inr (.inl (some 12))] (xpi μ 12 4 f) r μ' := h
    obtain ⟨hb27, h⟩ := tx_iald (len := 401) (p' := 28) h em10_27 rfl rfl
    replace hb27 : 0 ≤ (μ.1 12 3).toInt ∧ (μ.1 12 3).toInt < 401 := hb27
    replace h : eT xq_10 _ 28 [some (.inr (.inl (some 12))), some (.inl f)] [.inl (μ.1 25 (μ.1 12 3).toInt.toNat), .inr (.inl (some 12))] (xpi μ 12 4 f) r μ' := h
    replace h := tx_goto (t := 32) h em10_28 (by decide)
    replace h := tx_putf (a := 12) (c := 2) (j := 5) (p' := 35) h em10_32 ((congrFun xo_3 77).trans rfl) rfl
    replace h := tx_iconst (v := 0) (p' := 36) h em10_35 (by decide +kernel) rfl
    obtain ⟨rfl, hμ⟩ := tx_ireturn h em10_36
    exact ⟨rfl, hμ⟩
set_option maxRecDepth 10000 in
set_option maxHeartbeats 4000000 in
theorem ex_accept {k : Int32} {μ μ' : xM} {r : Option zV} (h0 : Ex gx xq_9 [.inr (.inl (some 12)), .inl k] μ r μ') (h4 : cA μ ≤ 400) : (r = some (.inl 1) ∧ cK μ (cA μ) = k.toInt ∧ cA μ < 400 ∧ μ' = xpi μ 12 3 (μ.1 12 3 + 1)) ∨ (r = some (.inl 0) ∧ ¬ cK μ (cA μ) = k.toInt ∧ μ' = cF μ 1) ∨ (r = some (.inl 0) ∧ cK μ (cA μ) = k.toInt ∧ cA μ = 400 ∧ μ' = cF μ 2) := by
  obtain ⟨n, h⟩ := tx_in (L := [some (.inr (.inl (some 12))), some (.inl k)]) h0 rfl
  unfold cA at h4
  replace h := tx_aload_n (p' := 1) h em9_0 rfl rfl
  obtain ⟨r1, μ1, hE1, h⟩ := tx_invV (na := 1) (mn := 13) (as := [.inr (.inl (some 12))]) (rest := []) (p' := 4) h em9_1 ((congrFun xo_3 53).trans rfl) xm_13 rfl rfl
  obtain ⟨rfl, hm⟩ := ex_next hE1 (by unfold cA; omega)
  rw [hm] at h
  replace h : eT xq_9 _ 4 [some (.inr (.inl (some 12))), some (.inl k)] [.inl (μ.1 24 (cA μ).toNat)] μ r μ' := h
  replace h := tx_iload_n (p' := 5) h em9_4 rfl rfl
  rcases tx_icmp (t := 14) (p' := 8) h em9_5 (by decide) rfl with ⟨c5, h⟩ | ⟨c5, h⟩
  · replace c5 : (μ.1 24 (cA μ).toNat).toInt = k.toInt := c5
    replace h := tx_aload_n (p' := 15) h em9_14 rfl rfl
    replace h := tx_getf (c := 2) (j := 3) (p' := 18) h em9_15 ((congrFun xo_3 40).trans rfl) rfl rfl (by decide) rfl
    replace h := tx_sipush (v := 400) (p' := 21) h em9_18 (by decide +kernel) rfl
    rcases tx_icmp (t := 30) (p' := 24) h em9_21 (by decide) rfl with ⟨c21, h⟩ | ⟨c21, h⟩
    · replace c21 : (μ.1 12 3).toInt < 400 := c21
      replace h := tx_aload_n (p' := 31) h em9_30 rfl rfl
      replace h := tx_dup (p' := 32) h em9_31 rfl
      replace h := tx_getf (c := 2) (j := 3) (p' := 35) h em9_32 ((congrFun xo_3 40).trans rfl) rfl rfl (by decide) rfl
      replace h := tx_iconst (v := 1) (p' := 36) h em9_35 (by decide +kernel) rfl
      replace h := tx_iadd (p' := 37) h em9_36 rfl
      replace h := tx_putf (a := 12) (c := 2) (j := 3) (p' := 40) h em9_37 ((congrFun xo_3 40).trans rfl) rfl
      replace h := tx_iconst (v := 1) (p' := 41) h em9_40 (by decide +kernel) rfl
      obtain ⟨rfl, hμ⟩ := tx_ireturn h em9_41
      exact Or.inl ⟨rfl, by unfold cK; omega, by unfold cA; omega, hμ⟩
    · replace c21 : ¬ (μ.1 12 3).toInt < 400 := c21
      replace h := tx_aload_n (p' := 25) h em9_24 rfl rfl
      replace h := tx_iconst (v := 2) (p' := 26) h em9_25 (by decide +kernel) rfl
      obtain ⟨r26, μ26, hE26, h⟩ := tx_invV (na := 2) (mn := 10) (as := [.inr (.inl (some 12)), .inl (2 : Int32)]) (rest := []) (p' := 29) h em9_26 ((congrFun xo_3 70).trans rfl) xm_10 rfl rfl
      obtain ⟨rfl, hm⟩ := ex_fail hE26 (by unfold cA; omega)
      rw [hm] at h
      replace h : eT xq_9 _ 29 [some (.inr (.inl (some 12))), some (.inl k)] [.inl (0 : Int32)] (cF μ (2 : Int32)) r μ' := h
      obtain ⟨rfl, hμ⟩ := tx_ireturn h em9_29
      exact Or.inr (Or.inr ⟨rfl, by unfold cK; omega, by unfold cA; omega, hμ⟩)
  · replace c5 : ¬ (μ.1 24 (cA μ).toNat).toInt = k.toInt := c5
    replace h := tx_aload_n (p' := 9) h em9_8 rfl rfl
    replace h := tx_iconst (v := 1) (p' := 10) h em9_9 (by decide +kernel) rfl
    obtain ⟨r10, μ10, hE10, h⟩ := tx_invV (na := 2) (mn := 10) (as := [.inr (.inl (some 12)), .inl (1 : Int32)]) (rest := []) (p' := 13) h em9_10 ((congrFun xo_3 70).trans rfl) xm_10 rfl rfl
    obtain ⟨rfl, hm⟩ := ex_fail hE10 (by unfold cA; omega)
    rw [hm] at h
    replace h : eT xq_9 _ 13 [some (.inr (.inl (some 12))), some (.inl k)] [.inl (0 : Int32)] (cF μ (1 : Int32)) r μ' := h
    obtain ⟨rfl, hμ⟩ := tx_ireturn h em9_13
    exact Or.inr (Or.inl ⟨rfl, by unfold cK; omega, hμ⟩)
set_option maxRecDepth 10000 in
set_option maxHeartbeats 4000000 in
theorem ex_noteLater {w f t : Int32} {μ μ' : xM} {r : Option zV} (h0 : Ex gx xq_14 [.inr (.inl (some 12)), .inl w, .inl f, .inl t] μ r μ') : r = none ∧ ((¬ w.toInt = 0 ∧ (μ.1 12 6).toInt = 0 ∧ μ' = xpi (xpi μ 12 6 f) 12 7 (μ.1 25 t.toInt.toNat)) ∨ ((w.toInt = 0 ∨ ¬ (μ.1 12 6).toInt = 0) ∧ μ' = μ)) := by
  obtain ⟨n, h⟩ := tx_in (L := [some (.inr (.inl (some 12))), some (.inl w), some (.inl f), some (.inl t)]) h0 rfl
  replace h := tx_iload_n (p' := 1) h em14_0 rfl rfl
  rcases tx_if (t := 29) (p' := 4) h em14_1 (by decide) rfl with ⟨c1, h⟩ | ⟨c1, h⟩
  · replace c1 : w.toInt = 0 := c1
    obtain ⟨rfl, hμ⟩ := tx_return h em14_29
    exact ⟨rfl, Or.inr ⟨by omega, hμ⟩⟩
  · replace c1 : ¬ w.toInt = 0 := c1
    replace h := tx_aload_n (p' := 5) h em14_4 rfl rfl
    replace h := tx_getf (c := 2) (j := 6) (p' := 8) h em14_5 ((congrFun xo_3 47).trans rfl) rfl rfl (by decide) rfl
    rcases tx_if (t := 29) (p' := 11) h em14_8 (by decide) rfl with ⟨c8, h⟩ | ⟨c8, h⟩
    · replace c8 : ¬ (μ.1 12 6).toInt = 0 := c8
      obtain ⟨rfl, hμ⟩ := tx_return h em14_29
      exact ⟨rfl, Or.inr ⟨by omega, hμ⟩⟩
    · replace c8 : ¬ ¬ (μ.1 12 6).toInt = 0 := c8
      replace h := tx_aload_n (p' := 12) h em14_11 rfl rfl
      replace h := tx_iload_n (p' := 13) h em14_12 rfl rfl
      replace h := tx_putf (a := 12) (c := 2) (j := 6) (p' := 16) h em14_13 ((congrFun xo_3 47).trans rfl) rfl
      replace h := tx_aload_n (p' := 17) h em14_16 rfl rfl
      replace h := tx_aload_n (p' := 18) h em14_17 rfl rfl
      replace h := tx_getc (c := 2) (j := 1) (p' := 21) h em14_18 ((congrFun xo_3 21).trans rfl) rfl rfl rfl
      replace h := tx_getc (c := 7) (j := 1) (p' := 24) h em14_21 ((congrFun xo_3 83).trans rfl) rfl rfl rfl
      replace h := tx_iload_n (p' := 25) h em14_24 rfl rfl
      obtain ⟨hb25, h⟩ := tx_iald (len := 401) (p' := 26) h em14_25 rfl rfl
      replace hb25 : 0 ≤ t.toInt ∧ t.toInt < 401 := hb25
      replace h : eT xq_14 _ 26 [some (.inr (.inl (some 12))), some (.inl w), some (.inl f), some (.inl t)] [.inl (μ.1 25 t.toInt.toNat), .inr (.inl (some 12))] (xpi μ 12 6 f) r μ' := h
      replace h := tx_putf (a := 12) (c := 2) (j := 7) (p' := 29) h em14_26 ((congrFun xo_3 74).trans rfl) rfl
      obtain ⟨rfl, hμ⟩ := tx_return h em14_29
      exact ⟨rfl, Or.inl ⟨by omega, by omega, hμ⟩⟩
