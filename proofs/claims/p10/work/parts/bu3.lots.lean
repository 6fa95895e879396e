/-! ===== lots ===== -/
def pM0 (x w : Int32) : Int32 := (((x ^^^ w) * (1103515245 : Int32)) + (12345 : Int32))
def pMx (x w : Int32) : Int32 := pM0 x w ^^^ ((pM0 x w).toUInt32 >>> ((15 : Int32).toUInt32 &&& Int32.toUInt32 31)).toInt32
def pLh (s w : Int32) : Int32 := ((pMx (pMx s (121 : Int32)) w).toUInt32 >>> ((1 : Int32).toUInt32 &&& Int32.toUInt32 31)).toInt32
def pLt (k s w : Int32) : Int32 := pLh s w - pLh s w / k * k
abbrev xq_33 : xP := (⟨"CapitalCase$Press", "mix", "(II)I"⟩, prog_6_method_9_code, 3, (some .int))
abbrev xq_32 : xP := (⟨"CapitalCase$Press", "lot", "(III)I"⟩, prog_6_method_8_code, 4, (some .int))
set_option maxRecDepth 10000 in
set_option maxHeartbeats 4000000 in
theorem ex_cmix {x w : Int32} {μ μ' : xM} {r : Option zV} (h0 : Ex gx xq_33 [.inl x, .inl w] μ r μ') : μ' = μ ∧ r = some (.inl (pMx x w)) := by
  obtain ⟨n, h⟩ := tx_in (L := [some (.inl x), some (.inl w), none]) h0 rfl
  replace h := tx_iload_n (p' := 1) h em33_0 rfl rfl
  replace h := tx_iload_n (p' := 2) h em33_1 rfl rfl
  replace h := tx_ixor (p' := 3) h em33_2 rfl
  replace h := tx_ldc (v := 1103515245) (p' := 5) h em33_3 ((congrFun xo_5 104).trans (by decide +kernel)) ⟨by decide, by decide⟩ rfl
  replace h := tx_imul (p' := 6) h em33_5 rfl
  replace h := tx_sipush (v := 12345) (p' := 9) h em33_6 (by decide +kernel) rfl
  replace h := tx_iadd (p' := 10) h em33_9 rfl
  replace h := tx_istore_n (p' := 11) h em33_10 rfl
  replace h : eT xq_33 _ 11 [some (.inl x), some (.inl w), some (.inl (((x ^^^ w) * (1103515245 : Int32)) + (12345 : Int32)))] [] μ r μ' := h
  replace h := tx_iload_n (p' := 12) h em33_11 rfl rfl
  replace h := tx_iload_n (p' := 13) h em33_12 rfl rfl
  replace h := tx_bipush (v := 15) (p' := 15) h em33_13 (by decide +kernel) rfl
  replace h := tx_iushr (p' := 16) h em33_15 rfl
  replace h := tx_ixor (p' := 17) h em33_16 rfl
  obtain ⟨rfl, hμ⟩ := tx_ireturn h em33_17
  exact ⟨hμ, rfl⟩
set_option maxRecDepth 10000 in
set_option maxHeartbeats 4000000 in
theorem ex_clot {k s w : Int32} {μ μ' : xM} {r : Option zV} (h0 : Ex gx xq_32 [.inl k, .inl s, .inl w] μ r μ') (hk : 0 < k.toInt) : μ' = μ ∧ r = some (.inl (pLt k s w)) := by
  obtain ⟨n, h⟩ := tx_in (L := [some (.inl k), some (.inl s), some (.inl w), none]) h0 rfl
  replace h := tx_iload_n (p' := 1) h em32_0 rfl rfl
  replace h := tx_bipush (v := 121) (p' := 3) h em32_1 (by decide +kernel) rfl
  obtain ⟨r3, μ3, hE3, h⟩ := tx_invS (na := 2) (mn := 33) (as := [.inl s, .inl (121 : Int32)]) (rest := []) (p' := 6) h em32_3 ((congrFun xo_5 101).trans rfl) xm_33 rfl rfl
  obtain ⟨hm3, rfl⟩ := ex_cmix hE3
  rw [hm3] at h
  replace h : eT xq_32 _ 6 [some (.inl k), some (.inl s), some (.inl w), none] [.inl (pMx s (121 : Int32))] μ r μ' := h
  replace h := tx_iload_n (p' := 7) h em32_6 rfl rfl
  obtain ⟨r7, μ7, hE7, h⟩ := tx_invS (na := 2) (mn := 33) (as := [.inl (pMx s (121 : Int32)), .inl w]) (rest := []) (p' := 10) h em32_7 ((congrFun xo_5 101).trans rfl) xm_33 rfl rfl
  obtain ⟨hm7, rfl⟩ := ex_cmix hE7
  rw [hm7] at h
  replace h : eT xq_32 _ 10 [some (.inl k), some (.inl s), some (.inl w), none] [.inl (pMx (pMx s (121 : Int32)) w)] μ r μ' := h
  replace h := tx_iconst (v := 1) (p' := 11) h em32_10 (by decide +kernel) rfl
  replace h := tx_iushr (p' := 12) h em32_11 rfl
  replace h := tx_istore_n (p' := 13) h em32_12 rfl
  replace h : eT xq_32 _ 13 [some (.inl k), some (.inl s), some (.inl w), some (.inl (((pMx (pMx s (121 : Int32)) w)).toUInt32 >>> (((1 : Int32)).toUInt32 &&& Int32.toUInt32 31)).toInt32)] [] μ r μ' := h
  replace h := tx_iload_n (p' := 14) h em32_13 rfl rfl
  rcases tx_if (t := 23) (p' := 17) h em32_14 (by decide) rfl with ⟨c14, h⟩ | ⟨c14, h⟩
  · replace c14 : k.toInt ≤ 0 := c14
    replace h := tx_iconst (v := 0) (p' := 24) h em32_23 (by decide +kernel) rfl
    obtain ⟨rfl, hμ⟩ := tx_ireturn h em32_24
    first
      | exact ⟨hμ, rfl⟩
      | (exfalso; omega)
  · replace c14 : ¬ k.toInt ≤ 0 := c14
    replace h := tx_iload_n (p' := 18) h em32_17 rfl rfl
    replace h := tx_iload_n (p' := 19) h em32_18 rfl rfl
    obtain ⟨hz19, h⟩ := tx_irem (p' := 20) h em32_19 rfl
    replace h := tx_goto (t := 24) h em32_20 (by decide)
    obtain ⟨rfl, hμ⟩ := tx_ireturn h em32_24
    first
      | exact ⟨hμ, rfl⟩
      | (exfalso; omega)
