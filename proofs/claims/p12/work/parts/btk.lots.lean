/-! ===== lots ===== -/
theorem tx_ldcw {q : xP} {n pc : Nat} {L : zL} {S : List zV} {μ μ' : xM} {r : Option zV} {x : Nat} {v : Int32} (h : eT q n pc L S μ r μ') (hd : decode q.2.1 pc = .ok (.ldc_w x, 3)) (hv : xTb q.1.cls x = (2, 0, v.toInt)) {p' : Nat} (hp : pc + 3 = p') : eT q n p' L (.inl v :: S) μ r μ' := by
  subst hp
  obtain ⟨L0, b, hf, hi, h⟩ := tx h hd rfl
  obtain ⟨w, e1, rfl⟩ := hi
  have e2 : w.toInt = v.toInt := congrArg (fun t => t.2.2) (e1.symm.trans hv)
  cases Int32.toInt_inj.mp e2
  exact eT_fg hf h
def pM0 (x w : Int32) : Int32 := (((x ^^^ w) * (1103515245 : Int32)) + (12345 : Int32))
def pMx (x w : Int32) : Int32 := pM0 x w ^^^ ((pM0 x w).toUInt32 >>> ((15 : Int32).toUInt32 &&& Int32.toUInt32 31)).toInt32
def pLh (s w : Int32) : Int32 := ((pMx (pMx s (121 : Int32)) w).toUInt32 >>> ((1 : Int32).toUInt32 &&& Int32.toUInt32 31)).toInt32
def pLt (k s w : Int32) : Int32 := pLh s w - pLh s w / k * k
theorem pLh_nn {s w : Int32} : 0 ≤ (pLh s w).toInt := an_ushr 1 (by decide) (by decide) (pMx (pMx s (121 : Int32)) w)
theorem pLt_b {k s w : Int32} (hk : 0 < k.toInt) : 0 ≤ (pLt k s w).toInt ∧ (pLt k s w).toInt < k.toInt := by
  obtain ⟨h1, h2, -⟩ := an_rem (x := pLh s w) pLh_nn hk
  exact ⟨h1, h2⟩
/-- thieves come that day -/
def pTh (S : kSt) (sd : Int32) (ρ : Nat → Int32) : Prop := (pLt 100 sd ((4 : Int32) * ρ 386)).toInt < S.2.2.1.2.1
abbrev xq_33 : xP := (⟨"CapitalCase$Press", "mix", "(II)I"⟩, prog_6_method_9_code, 3, (some .int))
abbrev xq_32 : xP := (⟨"CapitalCase$Press", "lot", "(III)I"⟩, prog_6_method_8_code, 4, (some .int))
abbrev xq_37 : xP := (⟨"CapitalCase$Press", "thievesCome", "(II)Z"⟩, prog_6_method_6_code, 3, (some .boolean))
abbrev xq_168 : xP := (⟨"CapitalCaseModel", "mixed", "(II)I"⟩, prog_14_method_49_code, 3, (some .int))
abbrev xq_167 : xP := (⟨"CapitalCaseModel", "lotOf", "(II)I"⟩, prog_14_method_50_code, 3, (some .int))
abbrev xq_116 : xP := (⟨"CapitalCaseModel", "areThieves", "()Z"⟩, prog_14_method_51_code, 1, (some .boolean))
set_option maxRecDepth 10000 in
set_option maxHeartbeats 4000000 in
theorem ex_cmix {x w : Int32} {μ μ' : xM} {r : Option zV} (h0 : Ex gx xq_33 [.inl x, .inl w] μ r μ') : μ' = μ ∧ r = some (.inl (pMx x w)) := by
  obtain ⟨n, h⟩ := tx_in (L := [some (.inl x), some (.inl w), none]) h0 rfl
  replace h := tx_iload_n (p' := 1) h em33_0 rfl rfl
  replace h := tx_iload_n (p' := 2) h em33_1 rfl rfl
  replace h := tx_ixor (p' := 3) h em33_2 rfl
  replace h := tx_ldc (v := 1103515245) (p' := 5) h em33_3 ((congrFun xo_5 104).trans (by decide +kernel)) ⟨by decide, by decide⟩ rfl
  replace h := tx_imul (p' := 6) h em33_5 rfl
  replace h := tx_sipush (v := 12345) (p' := 9) h em33_6 (by decide +kernel) rfl
  replace h := tx_iadd (p' := 10) h em33_9 rfl
  replace h := tx_istore_n (p' := 11) h em33_10 rfl
  replace h : eT xq_33 _ 11 [some (.inl x), some (.inl w), some (.inl (((x ^^^ w) * (1103515245 : Int32)) + (12345 : Int32)))] [] μ r μ' := h
  replace h := tx_iload_n (p' := 12) h em33_11 rfl rfl
  replace h := tx_iload_n (p' := 13) h em33_12 rfl rfl
  replace h := tx_bipush (v := 15) (p' := 15) h em33_13 (by decide +kernel) rfl
  replace h := tx_iushr (p' := 16) h em33_15 rfl
  replace h := tx_ixor (p' := 17) h em33_16 rfl
  obtain ⟨rfl, hμ⟩ := tx_ireturn h em33_17
  exact ⟨hμ, rfl⟩
set_option maxRecDepth 10000 in
set_option maxHeartbeats 4000000 in
theorem ex_clot {k s w : Int32} {μ μ' : xM} {r : Option zV} (h0 : Ex gx xq_32 [.inl k, .inl s, .inl w] μ r μ') (hk : 0 < k.toInt) : μ' = μ ∧ r = some (.inl (pLt k s w)) := by
  obtain ⟨n, h⟩ := tx_in (L := [some (.inl k), some (.inl s), some (.inl w), none]) h0 rfl
  replace h := tx_iload_n (p' := 1) h em32_0 rfl rfl
  replace h := tx_bipush (v := 121) (p' := 3) h em32_1 (by decide +kernel) rfl
  obtain ⟨r3, μ3, hE3, h⟩ := tx_invS (na := 2) (mn := 33) (as := [.inl s, .inl (121 : Int32)]) (rest := []) (p' := 6) h em32_3 ((congrFun xo_5 101).trans rfl) xm_33 rfl rfl
  obtain ⟨hm3, rfl⟩ := ex_cmix hE3
  rw [hm3] at h
  replace h : eT xq_32 _ 6 [some (.inl k), some (.inl s), some (.inl w), none] [.inl (pMx s (121 : Int32))] μ r μ' := h
  replace h := tx_iload_n (p' := 7) h em32_6 rfl rfl
  obtain ⟨r7, μ7, hE7, h⟩ := tx_invS (na := 2) (mn := 33) (as := [.inl (pMx s (121 : Int32)), .inl w]) (rest := []) (p' := 10) h em32_7 ((congrFun xo_5 101).trans rfl) xm_33 rfl rfl
  obtain ⟨hm7, rfl⟩ := ex_cmix hE7
  rw [hm7] at h
  replace h : eT xq_32 _ 10 [some (.inl k), some (.inl s), some (.inl w), none] [.inl (pMx (pMx s (121 : Int32)) w)] μ r μ' := h
  replace h := tx_iconst (v := 1) (p' := 11) h em32_10 (by decide +kernel) rfl
  replace h := tx_iushr (p' := 12) h em32_11 rfl
  replace h := tx_istore_n (p' := 13) h em32_12 rfl
  replace h : eT xq_32 _ 13 [some (.inl k), some (.inl s), some (.inl w), some (.inl (((pMx (pMx s (121 : Int32)) w)).toUInt32 >>> (((1 : Int32)).toUInt32 &&& Int32.toUInt32 31)).toInt32)] [] μ r μ' := h
  replace h := tx_iload_n (p' := 14) h em32_13 rfl rfl
  rcases tx_if (t := 23) (p' := 17) h em32_14 (by decide) rfl with ⟨c14, h⟩ | ⟨c14, h⟩
  · replace c14 : k.toInt ≤ 0 := c14
    replace h := tx_iconst (v := 0) (p' := 24) h em32_23 (by decide +kernel) rfl
    obtain ⟨rfl, hμ⟩ := tx_ireturn h em32_24
    first
      | exact ⟨hμ, rfl⟩
      | (exfalso; omega)
  · replace c14 : ¬ k.toInt ≤ 0 := c14
    replace h := tx_iload_n (p' := 18) h em32_17 rfl rfl
    replace h := tx_iload_n (p' := 19) h em32_18 rfl rfl
    obtain ⟨hz19, h⟩ := tx_irem (p' := 20) h em32_19 rfl
    replace h := tx_goto (t := 24) h em32_20 (by decide)
    obtain ⟨rfl, hμ⟩ := tx_ireturn h em32_24
    first
      | exact ⟨hμ, rfl⟩
      | (exfalso; omega)
set_option maxRecDepth 10000 in
set_option maxHeartbeats 4000000 in
theorem ex_mmixed {x w : Int32} {μ μ' : xM} {r : Option zV} (h0 : Ex gx xq_168 [.inl x, .inl w] μ r μ') : μ' = μ ∧ r = some (.inl (pMx x w)) := by
  obtain ⟨n, h⟩ := tx_in (L := [some (.inl x), some (.inl w), none]) h0 rfl
  replace h := tx_iload_n (p' := 1) h em168_0 rfl rfl
  replace h := tx_iload_n (p' := 2) h em168_1 rfl rfl
  replace h := tx_ixor (p' := 3) h em168_2 rfl
  replace h := tx_ldcw (v := 1103515245) (p' := 6) h em168_3 ((congrFun xo_12 337).trans (by decide +kernel)) rfl
  replace h := tx_imul (p' := 7) h em168_6 rfl
  replace h := tx_sipush (v := 12345) (p' := 10) h em168_7 (by decide +kernel) rfl
  replace h := tx_iadd (p' := 11) h em168_10 rfl
  replace h := tx_istore_n (p' := 12) h em168_11 rfl
  replace h : eT xq_168 _ 12 [some (.inl x), some (.inl w), some (.inl (((x ^^^ w) * (1103515245 : Int32)) + (12345 : Int32)))] [] μ r μ' := h
  replace h := tx_iload_n (p' := 13) h em168_12 rfl rfl
  replace h := tx_iload_n (p' := 14) h em168_13 rfl rfl
  replace h := tx_bipush (v := 15) (p' := 16) h em168_14 (by decide +kernel) rfl
  replace h := tx_iushr (p' := 17) h em168_16 rfl
  replace h := tx_ixor (p' := 18) h em168_17 rfl
  obtain ⟨rfl, hμ⟩ := tx_ireturn h em168_18
  exact ⟨hμ, rfl⟩
set_option maxRecDepth 10000 in
set_option maxHeartbeats 4000000 in
theorem ex_mlotOf {k w : Int32} {μ μ' : xM} {r : Option zV} (h0 : Ex gx xq_167 [.inr (.inl (some 75)), .inl w, .inl k] μ r μ') : μ' = μ ∧ r = some (.inl (pLt k (μ.1 75 6) w)) := by
  obtain ⟨n, h⟩ := tx_in (L := [some (.inr (.inl (some 75))), some (.inl w), some (.inl k)]) h0 rfl
  replace h := tx_aload_n (p' := 1) h em167_0 rfl rfl
  replace h := tx_getf (c := 12) (j := 6) (p' := 4) h em167_1 ((congrFun xo_12 328).trans rfl) rfl rfl (by decide) rfl
  replace h := tx_bipush (v := 121) (p' := 6) h em167_4 (by decide +kernel) rfl
  obtain ⟨r6, μ6, hE6, h⟩ := tx_invS (na := 2) (mn := 168) (as := [.inl (μ.1 75 6), .inl (121 : Int32)]) (rest := []) (p' := 9) h em167_6 ((congrFun xo_12 338).trans rfl) xm_168 rfl rfl
  obtain ⟨hm6, rfl⟩ := ex_mmixed hE6
  rw [hm6] at h
  replace h : eT xq_167 _ 9 [some (.inr (.inl (some 75))), some (.inl w), some (.inl k)] [.inl (pMx (μ.1 75 6) (121 : Int32))] μ r μ' := h
  replace h := tx_iload_n (p' := 10) h em167_9 rfl rfl
  obtain ⟨r10, μ10, hE10, h⟩ := tx_invS (na := 2) (mn := 168) (as := [.inl (pMx (μ.1 75 6) (121 : Int32)), .inl w]) (rest := []) (p' := 13) h em167_10 ((congrFun xo_12 338).trans rfl) xm_168 rfl rfl
  obtain ⟨hm10, rfl⟩ := ex_mmixed hE10
  rw [hm10] at h
  replace h : eT xq_167 _ 13 [some (.inr (.inl (some 75))), some (.inl w), some (.inl k)] [.inl (pMx (pMx (μ.1 75 6) (121 : Int32)) w)] μ r μ' := h
  replace h := tx_iconst (v := 1) (p' := 14) h em167_13 (by decide +kernel) rfl
  replace h := tx_iushr (p' := 15) h em167_14 rfl
  replace h := tx_iload_n (p' := 16) h em167_15 rfl rfl
  obtain ⟨hz16, h⟩ := tx_irem (p' := 17) h em167_16 rfl
  obtain ⟨rfl, hμ⟩ := tx_ireturn h em167_17
  exact ⟨hμ, rfl⟩
set_option maxRecDepth 10000 in
set_option maxHeartbeats 4000000 in
theorem ex_cthieves {sd d : Int32} {S : kSt} {μ μ' : xM} {r : Option zV} (h0 : Ex gx xq_37 [.inr (.inl (some 51)), .inl sd, .inl d] μ r μ') (hS : cS9 S μ) : μ' = μ ∧ ((r = some (.inl 1) ∧ (pLt 100 sd ((4 : Int32) * d)).toInt < S.2.2.1.2.1) ∨ (r = some (.inl 0) ∧ ¬ (pLt 100 sd ((4 : Int32) * d)).toInt < S.2.2.1.2.1)) := by
  obtain ⟨n, h⟩ := tx_in (L := [some (.inr (.inl (some 51))), some (.inl sd), some (.inl d)]) h0 rfl
  have ht : (μ.1 2 2).toInt = S.2.2.1.2.1 := hS.2.2.1.1.2.2.2.1
  replace h := tx_bipush (v := 100) (p' := 2) h em37_0 (by decide +kernel) rfl
  replace h := tx_iload_n (p' := 3) h em37_2 rfl rfl
  replace h := tx_iconst (v := 4) (p' := 4) h em37_3 (by decide +kernel) rfl
  replace h := tx_iload_n (p' := 5) h em37_4 rfl rfl
  replace h := tx_imul (p' := 6) h em37_5 rfl
  obtain ⟨r6, μ6, hE6, h⟩ := tx_invS (na := 3) (mn := 32) (as := [.inl (100 : Int32), .inl sd, .inl ((4 : Int32) * d)]) (rest := []) (p' := 9) h em37_6 ((congrFun xo_5 87).trans rfl) xm_32 rfl rfl
  obtain ⟨hm6, rfl⟩ := ex_clot hE6 (by decide)
  rw [hm6] at h
  replace h : eT xq_37 _ 9 [some (.inr (.inl (some 51))), some (.inl sd), some (.inl d)] [.inl (pLt (100 : Int32) sd ((4 : Int32) * d))] μ r μ' := h
  replace h := tx_aload_n (p' := 10) h em37_9 rfl rfl
  replace h := tx_getc (c := 4) (j := 0) (p' := 13) h em37_10 ((congrFun xo_5 9).trans rfl) rfl rfl rfl
  replace h := tx_getf (c := 6) (j := 2) (p' := 16) h em37_13 ((congrFun xo_5 91).trans rfl) rfl rfl (by decide) rfl
  rcases tx_icmp (t := 23) (p' := 19) h em37_16 (by decide) rfl with ⟨c16, h⟩ | ⟨c16, h⟩
  · replace c16 : (μ.1 2 2).toInt ≤ (pLt (100 : Int32) sd ((4 : Int32) * d)).toInt := c16
    replace h := tx_iconst (v := 0) (p' := 24) h em37_23 (by decide +kernel) rfl
    obtain ⟨rfl, hμ⟩ := tx_ireturn h em37_24
    rw [ht] at c16
    exact ⟨hμ, Or.inr ⟨rfl, by omega⟩⟩
  · replace c16 : ¬ (μ.1 2 2).toInt ≤ (pLt (100 : Int32) sd ((4 : Int32) * d)).toInt := c16
    replace h := tx_iconst (v := 1) (p' := 20) h em37_19 (by decide +kernel) rfl
    replace h := tx_goto (t := 24) h em37_20 (by decide)
    obtain ⟨rfl, hμ⟩ := tx_ireturn h em37_24
    rw [ht] at c16
    exact ⟨hμ, Or.inl ⟨rfl, by omega⟩⟩
set_option maxRecDepth 10000 in
set_option maxHeartbeats 4000000 in
theorem ex_mareThieves {S : kSt} {s : Nat} {μ μ' : xM} {r : Option zV} (h0 : Ex gx xq_116 [.inr (.inl (some 75))] μ r μ') (hS : rS9 S s μ) : μ' = μ ∧ ((r = some (.inl 1) ∧ pTh S (μ.1 75 6) (fun x => μ.1 108 x)) ∨ (r = some (.inl 0) ∧ ¬ pTh S (μ.1 75 6) (fun x => μ.1 108 x))) := by
  obtain ⟨n, h⟩ := tx_in (L := [some (.inr (.inl (some 75)))]) h0 rfl
  have ht : (μ.1 92 (μ.1 75 2).toInt.toNat).toInt = S.2.2.1.2.1 := by
    rw [show (μ.1 75 2).toInt.toNat = s by have := hS.2.1.2; omega]
    exact hS.2.2.1.1.2.2.2.1
  show μ' = μ ∧ ((r = some (.inl 1) ∧ (pLt 100 (μ.1 75 6) ((4 : Int32) * μ.1 108 386)).toInt < S.2.2.1.2.1) ∨ (r = some (.inl 0) ∧ ¬ (pLt 100 (μ.1 75 6) ((4 : Int32) * μ.1 108 386)).toInt < S.2.2.1.2.1))
  replace h := tx_aload_n (p' := 1) h em116_0 rfl rfl
  replace h := tx_iconst (v := 4) (p' := 2) h em116_1 (by decide +kernel) rfl
  replace h := tx_aload_n (p' := 3) h em116_2 rfl rfl
  replace h := tx_getc (c := 12) (j := 0) (p' := 6) h em116_3 ((congrFun xo_12 116).trans rfl) rfl rfl rfl
  replace h := tx_sipush (v := 386) (p' := 9) h em116_6 (by decide +kernel) rfl
  obtain ⟨hb9, h⟩ := tx_iald (len := 390) (p' := 10) h em116_9 rfl rfl
  replace hb9 : (0 : Int) ≤ 386 ∧ (386 : Int) < 390 := hb9
  replace h : eT xq_116 _ 10 [some (.inr (.inl (some 75)))] [.inl (μ.1 108 386), .inl (4 : Int32), .inr (.inl (some 75))] μ r μ' := h
  replace h := tx_imul (p' := 11) h em116_10 rfl
  replace h := tx_bipush (v := 100) (p' := 13) h em116_11 (by decide +kernel) rfl
  obtain ⟨r13, μ13, hE13, h⟩ := tx_invV (na := 3) (mn := 167) (as := [.inr (.inl (some 75)), .inl ((4 : Int32) * (μ.1 108 386)), .inl (100 : Int32)]) (rest := []) (p' := 16) h em116_13 ((congrFun xo_12 341).trans rfl) xm_167 rfl rfl
  obtain ⟨hm13, rfl⟩ := ex_mlotOf hE13
  rw [hm13] at h
  replace h : eT xq_116 _ 16 [some (.inr (.inl (some 75)))] [.inl (pLt (100 : Int32) (μ.1 75 6) ((4 : Int32) * (μ.1 108 386)))] μ r μ' := h
  replace h := tx_aload_n (p' := 17) h em116_16 rfl rfl
  replace h := tx_getc (c := 12) (j := 9) (p' := 20) h em116_17 ((congrFun xo_12 67).trans rfl) rfl rfl rfl
  replace h := tx_aload_n (p' := 21) h em116_20 rfl rfl
  replace h := tx_getf (c := 12) (j := 2) (p' := 24) h em116_21 ((congrFun xo_12 230).trans rfl) rfl rfl (by decide) rfl
  obtain ⟨hb24, h⟩ := tx_iald (len := 2) (p' := 25) h em116_24 rfl rfl
  replace hb24 : (0 : Int) ≤ (μ.1 75 2).toInt ∧ (μ.1 75 2).toInt < 2 := hb24
  rcases tx_icmp (t := 32) (p' := 28) h em116_25 (by decide) rfl with ⟨c25, h⟩ | ⟨c25, h⟩
  · replace c25 : (μ.1 92 (μ.1 75 2).toInt.toNat).toInt ≤ (pLt (100 : Int32) (μ.1 75 6) ((4 : Int32) * (μ.1 108 386))).toInt := c25
    replace h := tx_iconst (v := 0) (p' := 33) h em116_32 (by decide +kernel) rfl
    obtain ⟨rfl, hμ⟩ := tx_ireturn h em116_33
    rw [ht] at c25
    exact ⟨hμ, Or.inr ⟨rfl, by omega⟩⟩
  · replace c25 : ¬ (μ.1 92 (μ.1 75 2).toInt.toNat).toInt ≤ (pLt (100 : Int32) (μ.1 75 6) ((4 : Int32) * (μ.1 108 386))).toInt := c25
    replace h := tx_iconst (v := 1) (p' := 29) h em116_28 (by decide +kernel) rfl
    replace h := tx_goto (t := 33) h em116_29 (by decide)
    obtain ⟨rfl, hμ⟩ := tx_ireturn h em116_33
    rw [ht] at c25
    exact ⟨hμ, Or.inl ⟨rfl, by omega⟩⟩
