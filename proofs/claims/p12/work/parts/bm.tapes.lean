/-! ===== THE TAPES ===== -/
theorem i_256 (y : Int32) : y.toInt % 256 = (y.toBitVec.toNat : Int) % 256 := by
  have h3 : y.toInt = if 2 * y.toBitVec.toNat < 2 ^ 32 then (y.toBitVec.toNat : Int) else (y.toBitVec.toNat : Int) - ((2 ^ 32 : Nat) : Int) := BitVec.toInt_eq_toNat_cond y.toBitVec
  have h4 : ((2 ^ 32 : Nat) : Int) = 4294967296 := by decide
  rw [h3, h4]
  split <;> omega
theorem i8_eq {x y : Int32} (h : x.toInt % 256 = y.toInt % 256) : x.toInt8 = y.toInt8 := by
  refine Int8.toInt_inj.mp ?_
  rw [Int32.toInt_toInt8, Int32.toInt_toInt8, Int.bmod_def, Int.bmod_def]
  have e : ((2 ^ 8 : Nat) : Int) = 256 := by decide
  rw [e, h]
theorem bt_u {l : Nat} (hl : l < 32) (x : Int32) : ((x.toUInt32 >>> ((Int32.ofNat l).toUInt32 &&& Int32.toUInt32 31)).toInt32).toBitVec.toNat = x.toBitVec.toNat >>> l := by
  show (x.toUInt32 >>> ((Int32.ofNat l).toUInt32 &&& Int32.toUInt32 31)).toBitVec.toNat = _
  rw [UInt32.toBitVec_shiftRight, BitVec.ushiftRight_eq', BitVec.toNat_ushiftRight, s_u_an l hl]
  rfl
theorem bt_s {l : Nat} (hl : ((Int32.ofNat l &&& 31).toBitVec.smod 32).toNat = l) (x : Int32) : (x >>> (Int32.ofNat l &&& 31)).toInt = x.toInt >>> l := by
  show (x.toBitVec.sshiftRight' ((Int32.ofNat l &&& 31).toBitVec.smod 32)).toInt = _
  rw [BitVec.sshiftRight_eq', BitVec.toInt_sshiftRight, hl]
  rfl
theorem bt_eq {l : Nat} (h : l = 0 ∨ l = 8 ∨ l = 16 ∨ l = 24) (x : Int32) : ((x.toUInt32 >>> ((Int32.ofNat l).toUInt32 &&& Int32.toUInt32 31)).toInt32).toInt8 = (x >>> (Int32.ofNat l &&& 31)).toInt8 := by
  refine i8_eq ?_
  rw [i_256, bt_u (by omega), bt_s (by rcases h with rfl | rfl | rfl | rfl <;> decide), Nat.shiftRight_eq_div_pow, Int.shiftRight_eq_div_pow]
  have h3 : x.toInt = if 2 * x.toBitVec.toNat < 2 ^ 32 then (x.toBitVec.toNat : Int) else (x.toBitVec.toNat : Int) - ((2 ^ 32 : Nat) : Int) := BitVec.toInt_eq_toNat_cond x.toBitVec
  have h4 : ((2 ^ 32 : Nat) : Int) = 4294967296 := by decide
  rw [h4] at h3
  have e8 : (2 ^ 8 : Nat) = 256 := by decide
  have e16 : (2 ^ 16 : Nat) = 65536 := by decide
  have e24 : (2 ^ 24 : Nat) = 16777216 := by decide
  have e0 : (2 ^ 0 : Nat) = 1 := by decide
  rw [h3]
  rcases h with rfl | rfl | rfl | rfl
  · rw [e0]; split <;> omega
  · rw [e8]; split <;> omega
  · rw [e16]; split <;> omega
  · rw [e24]; split <;> omega
/-- the i-th byte of a word -/
def btw (x : Int32) (i : Nat) : Int32 := (((x.toUInt32 >>> ((Int32.ofNat (24 - 8 * i)).toUInt32 &&& Int32.toUInt32 31)).toInt32).toInt8.toInt32).toInt8.toInt32
theorem btw_r (x : Int32) (i : Nat) : -128 ≤ (btw x i).toInt ∧ (btw x i).toInt ≤ 127 := an_i2b _
theorem btw_s {x : Int32} {i : Nat} (h : i < 4) : ((x >>> (Int32.ofNat (24 - 8 * i) &&& 31)).toInt8.toInt32).toInt8.toInt32 = btw x i := by
  unfold btw
  rw [bt_eq (by omega)]
/-- four bytes more on a tape -/
def tpA (T : Nat → Int32) (t : Int) (x : Int32) : Nat → Int32 := fun j => if t ≤ (j : Int) ∧ (j : Int) < t + 4 then btw x (j - t.toNat) else T j
/-- cell c is a tape, field fi of cell fc its size; four bytes of x are put on it -/
def apQ (c fc fi : Nat) (x : Int32) (μ μ' : xM) : Prop := (∀ k j, k ≠ c → ¬ (k = fc ∧ j = fi) → μ'.1 k j = μ.1 k j) ∧ μ'.2 = μ.2 ∧ (μ'.1 fc fi).toInt = (μ.1 fc fi).toInt + 4 ∧ ∀ j, μ'.1 c j = tpA (μ.1 c) (μ.1 fc fi).toInt x j
def apI (c fc fi : Nat) (x : Int32) (i : Nat) (μ ω : xM) : Prop := (∀ k j, k ≠ c → ¬ (k = fc ∧ j = fi) → ω.1 k j = μ.1 k j) ∧ ω.2 = μ.2 ∧ (ω.1 fc fi).toInt = (μ.1 fc fi).toInt + i ∧ ∀ j, ω.1 c j = if (μ.1 fc fi).toInt ≤ (j : Int) ∧ (j : Int) < (μ.1 fc fi).toInt + i then btw x (j - (μ.1 fc fi).toInt.toNat) else μ.1 c j
theorem apI_s {c fc fi : Nat} {x v w : Int32} {i : Nat} {μ ω : xM} (h : apI c fc fi x i μ ω) (hc : c ≠ fc) (h0 : 0 ≤ (μ.1 fc fi).toInt) (hv : v = btw x i) (hw : w.toInt = (ω.1 fc fi).toInt + 1) : apI c fc fi x (i + 1) μ (xpi (xpi ω c (ω.1 fc fi).toInt.toNat v) fc fi w) := by
  obtain ⟨h1, h2, h3, h4⟩ := h
  refine ⟨fun k j a b => ?_, h2, ?_, fun j => ?_⟩
  · rw [xpi_ne b, xpi_ne (fun q => a q.1)]; exact h1 k j a b
  · rw [xpi_at]; omega
  · rw [xpi_ne (fun q => hc q.1)]
    by_cases q : j = (ω.1 fc fi).toInt.toNat
    · rw [q, xpi_at, if_pos (by omega), hv]
      congr 1
      omega
    · rw [xpi_ne (fun y => q y.2), h4 j]
      by_cases q2 : (μ.1 fc fi).toInt ≤ (j : Int) ∧ (j : Int) < (μ.1 fc fi).toInt + (i : Int)
      · rw [if_pos q2, if_pos (by omega)]
      · rw [if_neg q2, if_neg (by omega)]
theorem apI_e {c fc fi : Nat} {x : Int32} {μ ω : xM} (h : apI c fc fi x 4 μ ω) : apQ c fc fi x μ ω := ⟨h.1, h.2.1, h.2.2.1, h.2.2.2⟩
theorem apI_0 {c fc fi : Nat} {x : Int32} {μ : xM} : apI c fc fi x 0 μ μ := ⟨fun _ _ _ _ => rfl, rfl, by omega, fun j => by rw [if_neg (by omega)]⟩
theorem ka8 {k : Int32} (h : -100 ≤ k.toInt) : (k + -8).toInt = k.toInt - 8 := by
  have hm1 : (-8 : Int32).toInt = -8 := by decide
  have h2 := an_hi k
  rw [an_add (by rw [hm1]; omega) (by rw [hm1]; omega), hm1]
  rfl
abbrev xq_70 : xP := (⟨"CapitalCase", "append", "(I)V"⟩, prog_1_method_3_code, 3, none)
abbrev xq_178 : xP := (⟨"CapitalCaseModel", "put", "(I)V"⟩, prog_14_method_4_code, 3, none)
abbrev xq_81 : xP := (⟨"CapitalCase", "feed", "(IIIII)I"⟩, prog_1_method_2_code, 6, (some .int))
abbrev xq_134 : xP := (⟨"CapitalCaseModel", "feed", "(IIIII)I"⟩, prog_14_method_3_code, 6, (some .int))
abbrev xq_72 : xP := (⟨"CapitalCase", "back", "(I)I"⟩, prog_1_method_4_code, 2, (some .int))
abbrev xq_119 : xP := (⟨"CapitalCaseModel", "back", "(I)I"⟩, prog_14_method_5_code, 2, (some .int))
abbrev xq_98 : xP := (⟨"CapitalCase", "read", "()I"⟩, prog_1_method_5_code, 2, (some .int))
set_option maxRecDepth 10000 in
set_option maxHeartbeats 4000000 in
theorem ex_append {x : Int32} {μ μ' : xM} {r : Option zV} (g0 : Ex gx xq_70 [.inr (.inl (some 0)), .inl x] μ r μ') (h0 : 0 ≤ (μ.1 0 6).toInt) (h4 : (μ.1 0 6).toInt + 4 ≤ 2000) : r = none ∧ apQ 1 0 6 x μ μ' := by
  have e1i : (1 : Int32).toInt = 1 := by decide
  obtain ⟨n9, h⟩ := tx_in (L := [some (.inr (.inl (some 0))), some (.inl x), none]) g0 rfl
  have loop : ∀ (n : Nat) (k : Int32) (i : Nat) (ω : xM), eT xq_70 n 3 [some (.inr (.inl (some 0))), some (.inl x), some (.inl k)] [] ω r μ' → i ≤ 4 → k.toInt = 24 - 8 * (i : Int) → apI 1 0 6 x i μ ω → r = none ∧ apQ 1 0 6 x μ μ' := by
    intro n
    induction n using Nat.strongRecOn with
    | ind n ih =>
    intro k i ω h hi4 hk hI
    replace h := tx_iload_n (p' := 4) h em70_3 rfl rfl
    rcases tx_if (t := 46) (p' := 7) h em70_4 (by decide) rfl with ⟨c4, h⟩ | ⟨c4, h⟩
    · replace c4 : k.toInt < 0 := c4
      obtain ⟨rfl, hμ⟩ := tx_return h em70_46
      have ei : i = 4 := by omega
      subst ei
      rw [hμ]
      exact ⟨rfl, apI_e hI⟩
    · replace c4 : ¬ k.toInt < 0 := c4
      replace h := tx_aload_n (p' := 8) h em70_7 rfl rfl
      replace h := tx_getf (c := 11) (j := 6) (p' := 11) h em70_8 ((congrFun xo_0 13).trans rfl) rfl rfl (by decide) rfl
      replace h := tx_sipush (v := 2000) (p' := 14) h em70_11 (by decide +kernel) rfl
      rcases tx_icmp (t := 46) (p' := 17) h em70_14 (by decide) rfl with ⟨c14, h⟩ | ⟨c14, h⟩
      · replace c14 : 2000 ≤ (ω.1 0 6).toInt := c14
        obtain ⟨rfl, hμ⟩ := tx_return h em70_46
        exfalso
        have := hI.2.2.1
        omega
      · replace c14 : ¬ 2000 ≤ (ω.1 0 6).toInt := c14
        replace h := tx_aload_n (p' := 18) h em70_17 rfl rfl
        replace h := tx_getc (c := 11) (j := 7) (p' := 21) h em70_18 ((congrFun xo_0 9).trans rfl) rfl rfl rfl
        replace h := tx_aload_n (p' := 22) h em70_21 rfl rfl
        replace h := tx_getf (c := 11) (j := 6) (p' := 25) h em70_22 ((congrFun xo_0 13).trans rfl) rfl rfl (by decide) rfl
        replace h := tx_iload_n (p' := 26) h em70_25 rfl rfl
        replace h := tx_iload_n (p' := 27) h em70_26 rfl rfl
        replace h := tx_iushr (p' := 28) h em70_27 rfl
        replace h := tx_i2b (p' := 29) h em70_28 rfl
        obtain ⟨hb29, h⟩ := tx_bast (len := 2000) (p' := 30) h em70_29 rfl rfl
        replace hb29 : (0 : Int) ≤ (ω.1 0 6).toInt ∧ (ω.1 0 6).toInt < 2000 := hb29
        replace h := tx_aload_n (p' := 31) h em70_30 rfl rfl
        replace h := tx_dup (p' := 32) h em70_31 rfl
        replace h := tx_getf (c := 11) (j := 6) (p' := 35) h em70_32 ((congrFun xo_0 13).trans rfl) rfl rfl (by decide) rfl
        replace h : eT xq_70 _ 35 [some (.inr (.inl (some 0))), some (.inl x), some (.inl k)] [.inl (ω.1 0 6), .inr (.inl (some 0))] (xpi ω 1 (ω.1 0 6).toInt.toNat ((((x).toUInt32 >>> ((k).toUInt32 &&& Int32.toUInt32 31)).toInt32).toInt8.toInt32).toInt8.toInt32) r μ' := h
        replace h := tx_iconst (v := 1) (p' := 36) h em70_35 (by decide +kernel) rfl
        replace h := tx_iadd (p' := 37) h em70_36 rfl
        replace h := tx_putf (a := 0) (c := 11) (j := 6) (p' := 40) h em70_37 ((congrFun xo_0 13).trans rfl) rfl
        replace h := tx_iinc (v := (-8)) (p' := 43) h em70_40 (by decide +kernel) rfl rfl
        replace h : eT xq_70 _ 43 [some (.inr (.inl (some 0))), some (.inl x), some (.inl (k + (-8)))] [] (xpi (xpi ω 1 (ω.1 0 6).toInt.toNat ((((x).toUInt32 >>> ((k).toUInt32 &&& Int32.toUInt32 31)).toInt32).toInt8.toInt32).toInt8.toInt32) 0 6 ((ω.1 0 6) + (1 : Int32))) r μ' := h
        obtain ⟨n2, hn2, h⟩ := tx_gotoS (t := 3) h em70_43 (by decide)
        have hk1 := ka8 (k := k) (by omega)
        obtain ⟨k2, hk2⟩ : ∃ k2, k2 = k + -8 := ⟨_, rfl⟩
        rw [← hk2] at h hk1
        clear hk2
        have hkn : k = Int32.ofNat (24 - 8 * i) := an_of (by omega)
        have hw : ((ω.1 0 6) + 1).toInt = (ω.1 0 6).toInt + 1 := by rw [an_add (by rw [e1i]; omega) (by rw [e1i]; have := hI.2.2.1; omega), e1i]
        exact ih n2 hn2 _ (i + 1) _ h (by omega) (by omega) (apI_s hI (by decide) h0 (by rw [hkn]; exact rfl) hw)
  replace h := tx_bipush (v := 24) (p' := 2) h em70_0 (by decide +kernel) rfl
  replace h := tx_istore_n (p' := 3) h em70_2 rfl
  replace h : eT xq_70 _ 3 [some (.inr (.inl (some 0))), some (.inl x), some (.inl (24 : Int32))] [] μ r μ' := h
  exact loop _ _ 0 _ h (by decide) (by decide) apI_0
set_option maxRecDepth 10000 in
set_option maxHeartbeats 4000000 in
theorem ex_put {x : Int32} {μ μ' : xM} {r : Option zV} (g0 : Ex gx xq_178 [.inr (.inl (some 75)), .inl x] μ r μ') (h0 : 0 ≤ (μ.1 75 12).toInt) (h4 : (μ.1 75 12).toInt + 4 ≤ 2000) : r = none ∧ apQ 76 75 12 x μ μ' := by
  have e1i : (1 : Int32).toInt = 1 := by decide
  obtain ⟨n9, h⟩ := tx_in (L := [some (.inr (.inl (some 75))), some (.inl x), none]) g0 rfl
  have loop : ∀ (n : Nat) (k : Int32) (i : Nat) (ω : xM), eT xq_178 n 3 [some (.inr (.inl (some 75))), some (.inl x), some (.inl k)] [] ω r μ' → i ≤ 4 → k.toInt = 24 - 8 * (i : Int) → apI 76 75 12 x i μ ω → r = none ∧ apQ 76 75 12 x μ μ' := by
    intro n
    induction n using Nat.strongRecOn with
    | ind n ih =>
    intro k i ω h hi4 hk hI
    replace h := tx_iload_n (p' := 4) h em178_3 rfl rfl
    rcases tx_if (t := 36) (p' := 7) h em178_4 (by decide) rfl with ⟨c4, h⟩ | ⟨c4, h⟩
    · replace c4 : k.toInt < 0 := c4
      obtain ⟨rfl, hμ⟩ := tx_return h em178_36
      have ei : i = 4 := by omega
      subst ei
      rw [hμ]
      exact ⟨rfl, apI_e hI⟩
    · replace c4 : ¬ k.toInt < 0 := c4
      replace h := tx_aload_n (p' := 8) h em178_7 rfl rfl
      replace h := tx_getc (c := 12) (j := 13) (p' := 11) h em178_8 ((congrFun xo_12 13).trans rfl) rfl rfl rfl
      replace h := tx_aload_n (p' := 12) h em178_11 rfl rfl
      replace h := tx_getf (c := 12) (j := 12) (p' := 15) h em178_12 ((congrFun xo_12 163).trans rfl) rfl rfl (by decide) rfl
      replace h := tx_iload_n (p' := 16) h em178_15 rfl rfl
      replace h := tx_iload_n (p' := 17) h em178_16 rfl rfl
      replace h := tx_ishr (p' := 18) h em178_17 rfl
      replace h := tx_i2b (p' := 19) h em178_18 rfl
      obtain ⟨hb19, h⟩ := tx_bast (len := 2000) (p' := 20) h em178_19 rfl rfl
      replace hb19 : (0 : Int) ≤ (ω.1 75 12).toInt ∧ (ω.1 75 12).toInt < 2000 := hb19
      replace h := tx_aload_n (p' := 21) h em178_20 rfl rfl
      replace h := tx_dup (p' := 22) h em178_21 rfl
      replace h := tx_getf (c := 12) (j := 12) (p' := 25) h em178_22 ((congrFun xo_12 163).trans rfl) rfl rfl (by decide) rfl
      replace h : eT xq_178 _ 25 [some (.inr (.inl (some 75))), some (.inl x), some (.inl k)] [.inl (ω.1 75 12), .inr (.inl (some 75))] (xpi ω 76 (ω.1 75 12).toInt.toNat (((x >>> (k &&& 31))).toInt8.toInt32).toInt8.toInt32) r μ' := h
      replace h := tx_iconst (v := 1) (p' := 26) h em178_25 (by decide +kernel) rfl
      replace h := tx_iadd (p' := 27) h em178_26 rfl
      replace h := tx_putf (a := 75) (c := 12) (j := 12) (p' := 30) h em178_27 ((congrFun xo_12 163).trans rfl) rfl
      replace h := tx_iinc (v := (-8)) (p' := 33) h em178_30 (by decide +kernel) rfl rfl
      replace h : eT xq_178 _ 33 [some (.inr (.inl (some 75))), some (.inl x), some (.inl (k + (-8)))] [] (xpi (xpi ω 76 (ω.1 75 12).toInt.toNat (((x >>> (k &&& 31))).toInt8.toInt32).toInt8.toInt32) 75 12 ((ω.1 75 12) + (1 : Int32))) r μ' := h
      obtain ⟨n2, hn2, h⟩ := tx_gotoS (t := 3) h em178_33 (by decide)
      have hk1 := ka8 (k := k) (by omega)
      obtain ⟨k2, hk2⟩ : ∃ k2, k2 = k + -8 := ⟨_, rfl⟩
      rw [← hk2] at h hk1
      clear hk2
      have hkn : k = Int32.ofNat (24 - 8 * i) := an_of (by omega)
      have hw : ((ω.1 75 12) + 1).toInt = (ω.1 75 12).toInt + 1 := by rw [an_add (by rw [e1i]; omega) (by rw [e1i]; have := hI.2.2.1; omega), e1i]
      exact ih n2 hn2 _ (i + 1) _ h (by omega) (by omega) (apI_s hI (by decide) h0 (by rw [hkn]; exact btw_s (by omega)) hw)
  replace h := tx_bipush (v := 24) (p' := 2) h em178_0 (by decide +kernel) rfl
  replace h := tx_istore_n (p' := 3) h em178_2 rfl
  replace h : eT xq_178 _ 3 [some (.inr (.inl (some 75))), some (.inl x), some (.inl (24 : Int32))] [] μ r μ' := h
  exact loop _ _ 0 _ h (by decide) (by decide) apI_0
/-- five words more on a tape -/
def tpF (T : Nat → Int32) (t : Int) (a b c d e : Int32) : Nat → Int32 := tpA (tpA (tpA (tpA (tpA T t a) (t + 4) b) (t + 8) c) (t + 12) d) (t + 16) e
theorem tpA_cg {T S : Nat → Int32} {t : Int} {x : Int32} (h : ∀ j, T j = S j) : ∀ j, tpA T t x j = tpA S t x j := fun j => by unfold tpA; rw [h j]
theorem tpA_r {T : Nat → Int32} {t : Int} {x : Int32} (h : ∀ j, -128 ≤ (T j).toInt ∧ (T j).toInt ≤ 127) : ∀ j, -128 ≤ (tpA T t x j).toInt ∧ (tpA T t x j).toInt ≤ 127 := fun j => by
  unfold tpA
  split
  · exact btw_r _ _
  · exact h j
theorem tpF_cg {T S : Nat → Int32} {t : Int} {a b c d e : Int32} (h : ∀ j, T j = S j) : ∀ j, tpF T t a b c d e j = tpF S t a b c d e j := tpA_cg (tpA_cg (tpA_cg (tpA_cg (tpA_cg h))))
theorem tpF_r {T : Nat → Int32} {t : Int} {a b c d e : Int32} (h : ∀ j, -128 ≤ (T j).toInt ∧ (T j).toInt ≤ 127) : ∀ j, -128 ≤ (tpF T t a b c d e j).toInt ∧ (tpF T t a b c d e j).toInt ≤ 127 := tpA_r (tpA_r (tpA_r (tpA_r (tpA_r h))))
/-- what feed does to a tape -/
def feQ (c fc fi : Nat) (a b d e f : Int32) (μ μ' : xM) : Prop := (∀ k j, k ≠ c → ¬ (k = fc ∧ j = fi) → μ'.1 k j = μ.1 k j) ∧ μ'.2 = μ.2 ∧ ((2000 < (μ.1 fc fi).toInt + 20 ∧ μ' = μ) ∨ ((μ.1 fc fi).toInt + 20 ≤ 2000 ∧ (μ'.1 fc fi).toInt = (μ.1 fc fi).toInt + 20 ∧ ∀ j, μ'.1 c j = tpF (μ.1 c) (μ.1 fc fi).toInt a b d e f j))
theorem apQ_5 {c fc fi : Nat} {a b d e f : Int32} {μ μ1 μ2 μ3 μ4 μ5 : xM} (h1 : apQ c fc fi a μ μ1) (h2 : apQ c fc fi b μ1 μ2) (h3 : apQ c fc fi d μ2 μ3) (h4 : apQ c fc fi e μ3 μ4) (h5 : apQ c fc fi f μ4 μ5) (hr : (μ.1 fc fi).toInt + 20 ≤ 2000) : feQ c fc fi a b d e f μ μ5 := by
  obtain ⟨a1, a2, a3, a4⟩ := h1
  obtain ⟨b1, b2, b3, b4⟩ := h2
  obtain ⟨c1, c2, c3, c4⟩ := h3
  obtain ⟨d1, d2, d3, d4⟩ := h4
  obtain ⟨e1, e2, e3, e4⟩ := h5
  refine ⟨fun k j x y => by rw [e1 k j x y, d1 k j x y, c1 k j x y, b1 k j x y, a1 k j x y], by rw [e2, d2, c2, b2, a2], Or.inr ⟨hr, by omega, fun j => ?_⟩⟩
  have q1 : (μ1.1 fc fi).toInt = (μ.1 fc fi).toInt + 4 := a3
  have q2 : (μ2.1 fc fi).toInt = (μ.1 fc fi).toInt + 8 := by omega
  have q3 : (μ3.1 fc fi).toInt = (μ.1 fc fi).toInt + 12 := by omega
  have q4 : (μ4.1 fc fi).toInt = (μ.1 fc fi).toInt + 16 := by omega
  rw [q1] at b4
  rw [q2] at c4
  rw [q3] at d4
  rw [q4] at e4
  rw [e4 j]
  exact tpA_cg (fun j => (d4 j).trans (tpA_cg (fun j => (c4 j).trans (tpA_cg (fun j => (b4 j).trans (tpA_cg a4 j)) j)) j)) j
set_option maxRecDepth 10000 in
set_option maxHeartbeats 4000000 in
theorem ex_cfeed {a b d e f : Int32} {μ μ' : xM} {r : Option zV} (h0 : Ex gx xq_81 [.inr (.inl (some 0)), .inl a, .inl b, .inl d, .inl e, .inl f] μ r μ') (hz : 0 ≤ (μ.1 0 6).toInt) (hz2 : (μ.1 0 6).toInt ≤ 2000) : ∃ x : Int32, r = some (.inl x) ∧ feQ 1 0 6 a b d e f μ μ' := by
  obtain ⟨n, h⟩ := tx_in (L := [some (.inr (.inl (some 0))), some (.inl a), some (.inl b), some (.inl d), some (.inl e), some (.inl f)]) h0 rfl
  have e20 : (20 : Int32).toInt = 20 := by decide
  have e2k : ((μ.1 0 6) + (20 : Int32)).toInt = (μ.1 0 6).toInt + 20 := by rw [an_add (by rw [e20]; omega) (by rw [e20]; omega), e20]
  replace h := tx_aload_n (p' := 1) h em81_0 rfl rfl
  replace h := tx_getf (c := 11) (j := 6) (p' := 4) h em81_1 ((congrFun xo_0 13).trans rfl) rfl rfl (by decide) rfl
  replace h := tx_bipush (v := 20) (p' := 6) h em81_4 (by decide +kernel) rfl
  replace h := tx_iadd (p' := 7) h em81_6 rfl
  replace h := tx_sipush (v := 2000) (p' := 10) h em81_7 (by decide +kernel) rfl
  rcases tx_icmp (t := 15) (p' := 13) h em81_10 (by decide) rfl with ⟨c10, h⟩ | ⟨c10, h⟩
  · replace c10 : ((μ.1 0 6) + (20 : Int32)).toInt ≤ 2000 := c10
    replace h := tx_aload_n (p' := 16) h em81_15 rfl rfl
    replace h := tx_iload_n (p' := 17) h em81_16 rfl rfl
    obtain ⟨r17, μ17, hE17, h⟩ := tx_invV (na := 2) (mn := 70) (as := [.inr (.inl (some 0)), .inl a]) (rest := []) (p' := 20) h em81_17 ((congrFun xo_0 109).trans rfl) xm_70 rfl rfl
    obtain ⟨rfl, ha17⟩ := ex_append hE17 (by omega) (by omega)
    have hs17 := ha17.2.2.1
    replace h : eT xq_81 _ 20 [some (.inr (.inl (some 0))), some (.inl a), some (.inl b), some (.inl d), some (.inl e), some (.inl f)] [] μ17 r μ' := h
    replace h := tx_aload_n (p' := 21) h em81_20 rfl rfl
    replace h := tx_iload_n (p' := 22) h em81_21 rfl rfl
    obtain ⟨r22, μ22, hE22, h⟩ := tx_invV (na := 2) (mn := 70) (as := [.inr (.inl (some 0)), .inl b]) (rest := []) (p' := 25) h em81_22 ((congrFun xo_0 109).trans rfl) xm_70 rfl rfl
    obtain ⟨rfl, ha22⟩ := ex_append hE22 (by omega) (by omega)
    have hs22 := ha22.2.2.1
    replace h : eT xq_81 _ 25 [some (.inr (.inl (some 0))), some (.inl a), some (.inl b), some (.inl d), some (.inl e), some (.inl f)] [] μ22 r μ' := h
    replace h := tx_aload_n (p' := 26) h em81_25 rfl rfl
    replace h := tx_iload_n (p' := 27) h em81_26 rfl rfl
    obtain ⟨r27, μ27, hE27, h⟩ := tx_invV (na := 2) (mn := 70) (as := [.inr (.inl (some 0)), .inl d]) (rest := []) (p' := 30) h em81_27 ((congrFun xo_0 109).trans rfl) xm_70 rfl rfl
    obtain ⟨rfl, ha27⟩ := ex_append hE27 (by omega) (by omega)
    have hs27 := ha27.2.2.1
    replace h : eT xq_81 _ 30 [some (.inr (.inl (some 0))), some (.inl a), some (.inl b), some (.inl d), some (.inl e), some (.inl f)] [] μ27 r μ' := h
    replace h := tx_aload_n (p' := 31) h em81_30 rfl rfl
    replace h := tx_iload (p' := 33) h em81_31 rfl rfl
    obtain ⟨r33, μ33, hE33, h⟩ := tx_invV (na := 2) (mn := 70) (as := [.inr (.inl (some 0)), .inl e]) (rest := []) (p' := 36) h em81_33 ((congrFun xo_0 109).trans rfl) xm_70 rfl rfl
    obtain ⟨rfl, ha33⟩ := ex_append hE33 (by omega) (by omega)
    have hs33 := ha33.2.2.1
    replace h : eT xq_81 _ 36 [some (.inr (.inl (some 0))), some (.inl a), some (.inl b), some (.inl d), some (.inl e), some (.inl f)] [] μ33 r μ' := h
    replace h := tx_aload_n (p' := 37) h em81_36 rfl rfl
    replace h := tx_iload (p' := 39) h em81_37 rfl rfl
    obtain ⟨r39, μ39, hE39, h⟩ := tx_invV (na := 2) (mn := 70) (as := [.inr (.inl (some 0)), .inl f]) (rest := []) (p' := 42) h em81_39 ((congrFun xo_0 109).trans rfl) xm_70 rfl rfl
    obtain ⟨rfl, ha39⟩ := ex_append hE39 (by omega) (by omega)
    have hs39 := ha39.2.2.1
    replace h : eT xq_81 _ 42 [some (.inr (.inl (some 0))), some (.inl a), some (.inl b), some (.inl d), some (.inl e), some (.inl f)] [] μ39 r μ' := h
    replace h := tx_aload_n (p' := 43) h em81_42 rfl rfl
    replace h := tx_getf (c := 11) (j := 6) (p' := 46) h em81_43 ((congrFun xo_0 13).trans rfl) rfl rfl (by decide) rfl
    obtain ⟨rfl, hμ⟩ := tx_ireturn h em81_46
    rw [hμ]
    exact ⟨_, rfl, apQ_5 ha17 ha22 ha27 ha33 ha39 (by omega)⟩
  · replace c10 : ¬ ((μ.1 0 6) + (20 : Int32)).toInt ≤ 2000 := c10
    replace h := tx_iconst (v := (-1)) (p' := 14) h em81_13 (by decide +kernel) rfl
    obtain ⟨rfl, hμ⟩ := tx_ireturn h em81_14
    rw [hμ]
    exact ⟨_, rfl, fun _ _ _ _ => rfl, rfl, Or.inl ⟨by omega, rfl⟩⟩
set_option maxRecDepth 10000 in
set_option maxHeartbeats 4000000 in
theorem ex_mfeed {a b d e f : Int32} {μ μ' : xM} {r : Option zV} (h0 : Ex gx xq_134 [.inr (.inl (some 75)), .inl a, .inl b, .inl d, .inl e, .inl f] μ r μ') (hz : 0 ≤ (μ.1 75 12).toInt) (hz2 : (μ.1 75 12).toInt ≤ 2000) : ∃ x : Int32, r = some (.inl x) ∧ feQ 76 75 12 a b d e f μ μ' := by
  obtain ⟨n, h⟩ := tx_in (L := [some (.inr (.inl (some 75))), some (.inl a), some (.inl b), some (.inl d), some (.inl e), some (.inl f)]) h0 rfl
  have e20 : (20 : Int32).toInt = 20 := by decide
  have e2k : ((μ.1 75 12) + (20 : Int32)).toInt = (μ.1 75 12).toInt + 20 := by rw [an_add (by rw [e20]; omega) (by rw [e20]; omega), e20]
  replace h := tx_aload_n (p' := 1) h em134_0 rfl rfl
  replace h := tx_getf (c := 12) (j := 12) (p' := 4) h em134_1 ((congrFun xo_12 163).trans rfl) rfl rfl (by decide) rfl
  replace h := tx_bipush (v := 20) (p' := 6) h em134_4 (by decide +kernel) rfl
  replace h := tx_iadd (p' := 7) h em134_6 rfl
  replace h := tx_sipush (v := 2000) (p' := 10) h em134_7 (by decide +kernel) rfl
  rcases tx_icmp (t := 15) (p' := 13) h em134_10 (by decide) rfl with ⟨c10, h⟩ | ⟨c10, h⟩
  · replace c10 : ((μ.1 75 12) + (20 : Int32)).toInt ≤ 2000 := c10
    replace h := tx_aload_n (p' := 16) h em134_15 rfl rfl
    replace h := tx_iload_n (p' := 17) h em134_16 rfl rfl
    obtain ⟨r17, μ17, hE17, h⟩ := tx_invV (na := 2) (mn := 178) (as := [.inr (.inl (some 75)), .inl a]) (rest := []) (p' := 20) h em134_17 ((congrFun xo_12 166).trans rfl) xm_178 rfl rfl
    obtain ⟨rfl, ha17⟩ := ex_put hE17 (by omega) (by omega)
    have hs17 := ha17.2.2.1
    replace h : eT xq_134 _ 20 [some (.inr (.inl (some 75))), some (.inl a), some (.inl b), some (.inl d), some (.inl e), some (.inl f)] [] μ17 r μ' := h
    replace h := tx_aload_n (p' := 21) h em134_20 rfl rfl
    replace h := tx_iload_n (p' := 22) h em134_21 rfl rfl
    obtain ⟨r22, μ22, hE22, h⟩ := tx_invV (na := 2) (mn := 178) (as := [.inr (.inl (some 75)), .inl b]) (rest := []) (p' := 25) h em134_22 ((congrFun xo_12 166).trans rfl) xm_178 rfl rfl
    obtain ⟨rfl, ha22⟩ := ex_put hE22 (by omega) (by omega)
    have hs22 := ha22.2.2.1
    replace h : eT xq_134 _ 25 [some (.inr (.inl (some 75))), some (.inl a), some (.inl b), some (.inl d), some (.inl e), some (.inl f)] [] μ22 r μ' := h
    replace h := tx_aload_n (p' := 26) h em134_25 rfl rfl
    replace h := tx_iload_n (p' := 27) h em134_26 rfl rfl
    obtain ⟨r27, μ27, hE27, h⟩ := tx_invV (na := 2) (mn := 178) (as := [.inr (.inl (some 75)), .inl d]) (rest := []) (p' := 30) h em134_27 ((congrFun xo_12 166).trans rfl) xm_178 rfl rfl
    obtain ⟨rfl, ha27⟩ := ex_put hE27 (by omega) (by omega)
    have hs27 := ha27.2.2.1
    replace h : eT xq_134 _ 30 [some (.inr (.inl (some 75))), some (.inl a), some (.inl b), some (.inl d), some (.inl e), some (.inl f)] [] μ27 r μ' := h
    replace h := tx_aload_n (p' := 31) h em134_30 rfl rfl
    replace h := tx_iload (p' := 33) h em134_31 rfl rfl
    obtain ⟨r33, μ33, hE33, h⟩ := tx_invV (na := 2) (mn := 178) (as := [.inr (.inl (some 75)), .inl e]) (rest := []) (p' := 36) h em134_33 ((congrFun xo_12 166).trans rfl) xm_178 rfl rfl
    obtain ⟨rfl, ha33⟩ := ex_put hE33 (by omega) (by omega)
    have hs33 := ha33.2.2.1
    replace h : eT xq_134 _ 36 [some (.inr (.inl (some 75))), some (.inl a), some (.inl b), some (.inl d), some (.inl e), some (.inl f)] [] μ33 r μ' := h
    replace h := tx_aload_n (p' := 37) h em134_36 rfl rfl
    replace h := tx_iload (p' := 39) h em134_37 rfl rfl
    obtain ⟨r39, μ39, hE39, h⟩ := tx_invV (na := 2) (mn := 178) (as := [.inr (.inl (some 75)), .inl f]) (rest := []) (p' := 42) h em134_39 ((congrFun xo_12 166).trans rfl) xm_178 rfl rfl
    obtain ⟨rfl, ha39⟩ := ex_put hE39 (by omega) (by omega)
    have hs39 := ha39.2.2.1
    replace h : eT xq_134 _ 42 [some (.inr (.inl (some 75))), some (.inl a), some (.inl b), some (.inl d), some (.inl e), some (.inl f)] [] μ39 r μ' := h
    replace h := tx_aload_n (p' := 43) h em134_42 rfl rfl
    replace h := tx_getf (c := 12) (j := 12) (p' := 46) h em134_43 ((congrFun xo_12 163).trans rfl) rfl rfl (by decide) rfl
    obtain ⟨rfl, hμ⟩ := tx_ireturn h em134_46
    rw [hμ]
    exact ⟨_, rfl, apQ_5 ha17 ha22 ha27 ha33 ha39 (by omega)⟩
  · replace c10 : ¬ ((μ.1 75 12) + (20 : Int32)).toInt ≤ 2000 := c10
    replace h := tx_iconst (v := (-1)) (p' := 14) h em134_13 (by decide +kernel) rfl
    obtain ⟨rfl, hμ⟩ := tx_ireturn h em134_14
    rw [hμ]
    exact ⟨_, rfl, fun _ _ _ _ => rfl, rfl, Or.inl ⟨by omega, rfl⟩⟩
def bkQ (fc fi : Nat) (a : Int32) (μ μ' : xM) : Prop := (μ' = μ ∧ (a.toInt < 0 ∨ (μ.1 fc fi).toInt < a.toInt)) ∨ (0 ≤ a.toInt ∧ a.toInt ≤ (μ.1 fc fi).toInt ∧ μ' = xpi μ fc fi (μ.1 fc fi - a))
set_option maxRecDepth 10000 in
set_option maxHeartbeats 4000000 in
theorem ex_cback {a : Int32} {μ μ' : xM} {r : Option zV} (h0 : Ex gx xq_72 [.inr (.inl (some 0)), .inl a] μ r μ') : ∃ x : Int32, r = some (.inl x) ∧ bkQ 0 6 a μ μ' := by
  obtain ⟨n, h⟩ := tx_in (L := [some (.inr (.inl (some 0))), some (.inl a)]) h0 rfl
  replace h := tx_iload_n (p' := 1) h em72_0 rfl rfl
  rcases tx_if (t := 12) (p' := 4) h em72_1 (by decide) rfl with ⟨c1, h⟩ | ⟨c1, h⟩
  · replace c1 : a.toInt < 0 := c1
    replace h := tx_iconst (v := (-1)) (p' := 13) h em72_12 (by decide +kernel) rfl
    obtain ⟨rfl, hμ⟩ := tx_ireturn h em72_13
    exact ⟨_, rfl, Or.inl ⟨hμ, by omega⟩⟩
  · replace c1 : ¬ a.toInt < 0 := c1
    replace h := tx_iload_n (p' := 5) h em72_4 rfl rfl
    replace h := tx_aload_n (p' := 6) h em72_5 rfl rfl
    replace h := tx_getf (c := 11) (j := 6) (p' := 9) h em72_6 ((congrFun xo_0 13).trans rfl) rfl rfl (by decide) rfl
    rcases tx_icmp (t := 14) (p' := 12) h em72_9 (by decide) rfl with ⟨c9, h⟩ | ⟨c9, h⟩
    · replace c9 : a.toInt ≤ (μ.1 0 6).toInt := c9
      replace h := tx_aload_n (p' := 15) h em72_14 rfl rfl
      replace h := tx_dup (p' := 16) h em72_15 rfl
      replace h := tx_getf (c := 11) (j := 6) (p' := 19) h em72_16 ((congrFun xo_0 13).trans rfl) rfl rfl (by decide) rfl
      replace h := tx_iload_n (p' := 20) h em72_19 rfl rfl
      replace h := tx_isub (p' := 21) h em72_20 rfl
      replace h := tx_putf (a := 0) (c := 11) (j := 6) (p' := 24) h em72_21 ((congrFun xo_0 13).trans rfl) rfl
      replace h := tx_aload_n (p' := 25) h em72_24 rfl rfl
      replace h := tx_getf (c := 11) (j := 6) (p' := 28) h em72_25 ((congrFun xo_0 13).trans rfl) rfl rfl (by decide) rfl
      replace h : eT xq_72 _ 28 [some (.inr (.inl (some 0))), some (.inl a)] [.inl ((μ.1 0 6) - a)] (xpi μ 0 6 ((μ.1 0 6) - a)) r μ' := h
      obtain ⟨rfl, hμ⟩ := tx_ireturn h em72_28
      exact ⟨_, rfl, Or.inr ⟨by omega, by omega, hμ⟩⟩
    · replace c9 : ¬ a.toInt ≤ (μ.1 0 6).toInt := c9
      replace h := tx_iconst (v := (-1)) (p' := 13) h em72_12 (by decide +kernel) rfl
      obtain ⟨rfl, hμ⟩ := tx_ireturn h em72_13
      exact ⟨_, rfl, Or.inl ⟨hμ, by omega⟩⟩
set_option maxRecDepth 10000 in
set_option maxHeartbeats 4000000 in
theorem ex_mback {a : Int32} {μ μ' : xM} {r : Option zV} (h0 : Ex gx xq_119 [.inr (.inl (some 75)), .inl a] μ r μ') : ∃ x : Int32, r = some (.inl x) ∧ bkQ 75 12 a μ μ' := by
  obtain ⟨n, h⟩ := tx_in (L := [some (.inr (.inl (some 75))), some (.inl a)]) h0 rfl
  replace h := tx_iload_n (p' := 1) h em119_0 rfl rfl
  rcases tx_if (t := 12) (p' := 4) h em119_1 (by decide) rfl with ⟨c1, h⟩ | ⟨c1, h⟩
  · replace c1 : a.toInt < 0 := c1
    replace h := tx_iconst (v := (-1)) (p' := 13) h em119_12 (by decide +kernel) rfl
    obtain ⟨rfl, hμ⟩ := tx_ireturn h em119_13
    exact ⟨_, rfl, Or.inl ⟨hμ, by omega⟩⟩
  · replace c1 : ¬ a.toInt < 0 := c1
    replace h := tx_iload_n (p' := 5) h em119_4 rfl rfl
    replace h := tx_aload_n (p' := 6) h em119_5 rfl rfl
    replace h := tx_getf (c := 12) (j := 12) (p' := 9) h em119_6 ((congrFun xo_12 163).trans rfl) rfl rfl (by decide) rfl
    rcases tx_icmp (t := 14) (p' := 12) h em119_9 (by decide) rfl with ⟨c9, h⟩ | ⟨c9, h⟩
    · replace c9 : a.toInt ≤ (μ.1 75 12).toInt := c9
      replace h := tx_aload_n (p' := 15) h em119_14 rfl rfl
      replace h := tx_dup (p' := 16) h em119_15 rfl
      replace h := tx_getf (c := 12) (j := 12) (p' := 19) h em119_16 ((congrFun xo_12 163).trans rfl) rfl rfl (by decide) rfl
      replace h := tx_iload_n (p' := 20) h em119_19 rfl rfl
      replace h := tx_isub (p' := 21) h em119_20 rfl
      replace h := tx_putf (a := 75) (c := 12) (j := 12) (p' := 24) h em119_21 ((congrFun xo_12 163).trans rfl) rfl
      replace h := tx_aload_n (p' := 25) h em119_24 rfl rfl
      replace h := tx_getf (c := 12) (j := 12) (p' := 28) h em119_25 ((congrFun xo_12 163).trans rfl) rfl rfl (by decide) rfl
      replace h : eT xq_119 _ 28 [some (.inr (.inl (some 75))), some (.inl a)] [.inl ((μ.1 75 12) - a)] (xpi μ 75 12 ((μ.1 75 12) - a)) r μ' := h
      obtain ⟨rfl, hμ⟩ := tx_ireturn h em119_28
      exact ⟨_, rfl, Or.inr ⟨by omega, by omega, hμ⟩⟩
    · replace c9 : ¬ a.toInt ≤ (μ.1 75 12).toInt := c9
      replace h := tx_iconst (v := (-1)) (p' := 13) h em119_12 (by decide +kernel) rfl
      obtain ⟨rfl, hμ⟩ := tx_ireturn h em119_13
      exact ⟨_, rfl, Or.inl ⟨hμ, by omega⟩⟩
/-- what the class's read leaves -/
def rcF (μ μ' : xM) : Prop := 119 ≤ μ.2.2.2 → 119 ≤ μ'.2.2.2 ∧ (∀ j, μ'.1 1 j = μ.1 1 j) ∧ (∀ j, μ'.1 76 j = μ.1 76 j) ∧ (∀ j, μ'.2.1 82 j = μ.2.1 82 j) ∧ μ'.1 0 6 = 0 ∧ μ'.1 75 12 = μ.1 75 12
theorem rcF_0 {μ ν : xM} {v : Int32} (h : pqE μ ν) : rcF μ (xpi (xpi ν 0 6 0) 0 9 v) := fun h0 => by
  refine ⟨by show 119 ≤ ν.2.2.2; rw [h.2]; exact h0, fun j => ?_, fun j => ?_, fun j => by show ν.2.1 82 j = _; rw [h.2], ?_, ?_⟩
  · rw [xpi_ne (fun q => absurd q.1 (by decide)), xpi_ne (fun q => absurd q.1 (by decide))]; exact h.1 1 j (by decide)
  · rw [xpi_ne (fun q => absurd q.1 (by decide)), xpi_ne (fun q => absurd q.1 (by decide))]; exact h.1 76 j (by decide)
  · rw [xpi_ne (fun q => absurd q.2 (by decide))]; exact xpi_at
  · rw [xpi_ne (fun q => absurd q.1 (by decide)), xpi_ne (fun q => absurd q.1 (by decide))]; exact h.1 75 12 (by decide)
theorem rcF_f {μ ν ω : xM} (h : rcF μ ν) (hf : fRm fA0 fF0 ν ω) : rcF μ ω := fun h0 => by
  obtain ⟨h1, h2, h3, h4, h5, h6⟩ := h h0
  obtain ⟨g1, g2, g3, g4⟩ := hf h1
  refine ⟨g1, fun j => (g2 1 (by decide) (by decide) j).trans (h2 j), fun j => (g2 76 (by decide) (by decide) j).trans (h3 j), fun j => (g3 j).trans (h4 j), ?_, ?_⟩
  · have q := g4 (0, 11, 6) (by decide)
    have q : ω.1 0 6 = ν.1 0 6 := q
    rw [q]; exact h5
  · have q := g4 (75, 12, 12) (by decide)
    have q : ω.1 75 12 = ν.1 75 12 := q
    rw [q]; exact h6
set_option maxRecDepth 10000 in
set_option maxHeartbeats 4000000 in
theorem ex_cread {μ μ' : xM} {r : Option zV} (h0 : Ex gx xq_98 [.inr (.inl (some 0))] μ r μ') (hn : 0 ≤ (μ.1 0 6).toInt ∧ (μ.1 0 6).toInt ≤ 2000) : ∃ (x : Int32) (ν : xM) (E : Int) (w : Int × Int), r = some (.inl x) ∧ cTV ν E ∧ tkC (kB μ 1) (μ.1 0 6).toInt (cP ν) (cS ν) (cK ν) E ∧ (∀ a, 0 ≤ a → a < E → 2 ≤ cK ν a) ∧ (E < 400 → cK ν E ≤ 1) ∧ w.1 = 0 ∧ x.toInt = (cTx ν 401 0 0 0 [] w).1 ∧ (∀ j, ν.1 1 j = μ.1 1 j) ∧ rcF μ μ' := by
  obtain ⟨n, h⟩ := tx_in (L := [some (.inr (.inl (some 0))), none]) h0 rfl
  replace h := tx_aload_n (p' := 1) h em98_0 rfl rfl
  replace h := tx_getc (c := 11) (j := 10) (p' := 4) h em98_1 ((congrFun xo_0 32).trans rfl) rfl rfl rfl
  replace h := tx_aload_n (p' := 5) h em98_4 rfl rfl
  replace h := tx_getf (c := 11) (j := 6) (p' := 8) h em98_5 ((congrFun xo_0 13).trans rfl) rfl rfl (by decide) rfl
  obtain ⟨r8, μ8, hE8, h⟩ := tx_invV (na := 2) (mn := 16) (as := [.inr (.inl (some 12)), .inl (μ.1 0 6)]) (rest := []) (p' := 11) h em98_8 ((congrFun xo_0 113).trans rfl) xm_16 rfl rfl
  obtain ⟨x, E, w, rfl, hpq, htv, htC, htK, htE, hw0, hx1, hx2⟩ := ex_parse hE8 hn.1 hn.2
  replace h : eT xq_98 _ 11 [some (.inr (.inl (some 0))), none] [.inl x] μ8 r μ' := h
  replace h := tx_istore_n (p' := 12) h em98_11 rfl
  replace h : eT xq_98 _ 12 [some (.inr (.inl (some 0))), some (.inl x)] [] μ8 r μ' := h
  replace h := tx_aload_n (p' := 13) h em98_12 rfl rfl
  replace h := tx_iconst (v := 0) (p' := 14) h em98_13 (by decide +kernel) rfl
  replace h := tx_putf (a := 0) (c := 11) (j := 6) (p' := 17) h em98_14 ((congrFun xo_0 13).trans rfl) rfl
  replace h := tx_aload_n (p' := 18) h em98_17 rfl rfl
  replace h := tx_iload_n (p' := 19) h em98_18 rfl rfl
  rcases tx_if (t := 26) (p' := 22) h em98_19 (by decide) rfl with ⟨c19, h⟩ | ⟨c19, h⟩
  · replace c19 : ¬ x.toInt = 0 := c19
    replace h := tx_aload_n (p' := 27) h em98_26 rfl rfl
    replace h := tx_getc (c := 11) (j := 10) (p' := 30) h em98_27 ((congrFun xo_0 32).trans rfl) rfl rfl rfl
    replace h := tx_getf (c := 2) (j := 5) (p' := 33) h em98_30 ((congrFun xo_0 117).trans rfl) rfl rfl (by decide) rfl
    replace h : eT xq_98 _ 33 [some (.inr (.inl (some 0))), some (.inl x)] [.inl (μ8.1 12 5), .inr (.inl (some 0))] (xpi μ8 0 6 (0 : Int32)) r μ' := h
    replace h := tx_putf (a := 0) (c := 11) (j := 9) (p' := 36) h em98_33 ((congrFun xo_0 17).trans rfl) rfl
    replace h := tx_iload_n (p' := 37) h em98_36 rfl rfl
    rcases tx_if (t := 58) (p' := 40) h em98_37 (by decide) rfl with ⟨c37, h⟩ | ⟨c37, h⟩
    · replace c37 : ¬ x.toInt = 0 := c37
      replace h := tx_iload_n (p' := 59) h em98_58 rfl rfl
      obtain ⟨rfl, hμ⟩ := tx_ireturn h em98_59
      rw [hμ]
      exact ⟨x, μ8, E, w, rfl, htv, htC, htK, htE, hw0, hx1, fun j => hpq.1 1 j (by decide), rcF_0 hpq⟩
    · replace c37 : ¬ ¬ x.toInt = 0 := c37
      replace h := tx_aload_n (p' := 41) h em98_40 rfl rfl
      replace h := tx_getc (c := 11) (j := 0) (p' := 44) h em98_41 ((congrFun xo_0 23).trans rfl) rfl rfl rfl
      replace h := tx_aload_n (p' := 45) h em98_44 rfl rfl
      replace h := tx_getc (c := 11) (j := 10) (p' := 48) h em98_45 ((congrFun xo_0 32).trans rfl) rfl rfl rfl
      replace h := tx_getc (c := 2) (j := 0) (p' := 51) h em98_48 ((congrFun xo_0 120).trans rfl) rfl rfl rfl
      obtain ⟨r51, μ51, hE51, h⟩ := tx_invV (na := 2) (mn := 44) (as := [.inr (.inl (some 2)), .inr (.inl (some 13))]) (rest := []) (p' := 54) h em98_51 ((congrFun xo_0 121).trans rfl) xm_44 rfl rfl
      have hF51 := fR2 xm_44 (by decide +kernel) hE51
      have er51 := ex_void [0, 1, 2, 5, 8, 9, 10, 13, 16, 17, 18, 21, 24, 25, 26, 29, 32, 33, 34, 37, 40, 41, 42, 45, 48, 49, 52, 53, 54, 57, 58, 60, 63, 64, 67, 68, 69, 72, 73, 75, 78, 79, 82, 83, 84, 87, 88, 90, 93, 94, 97, 98, 99, 102, 103, 105, 108, 109, 112, 113, 114, 117, 118, 120, 123, 124, 127, 128, 129, 132, 133, 135, 138, 139, 142, 143, 144, 147, 148, 149, 152, 153, 156, 157, 158, 161, 162, 165, 168, 169, 172, 173, 174, 177, 178, 181, 184, 185] (by decide +kernel) hE51
      subst er51
      replace h : eT xq_98 _ 54 [some (.inr (.inl (some 0))), some (.inl x)] [] μ51 r μ' := h
      replace h := tx_aload_n (p' := 55) h em98_54 rfl rfl
      obtain ⟨r55, μ55, hE55, h⟩ := tx_invV (na := 1) (mn := 74) (as := [.inr (.inl (some 0))]) (rest := []) (p' := 58) h em98_55 ((congrFun xo_0 124).trans rfl) xm_74 rfl rfl
      have hF55 := fB_74 hE55
      have er55 := ex_void [0, 1, 4, 5, 8, 11, 12, 15, 16, 19, 20, 23, 24, 27, 28, 29, 30, 31, 34, 35, 38, 39, 40, 41, 44, 47, 48] (by decide +kernel) hE55
      subst er55
      replace h : eT xq_98 _ 58 [some (.inr (.inl (some 0))), some (.inl x)] [] μ55 r μ' := h
      replace h := tx_iload_n (p' := 59) h em98_58 rfl rfl
      obtain ⟨rfl, hμ⟩ := tx_ireturn h em98_59
      rw [hμ]
      exact ⟨x, μ8, E, w, rfl, htv, htC, htK, htE, hw0, hx1, fun j => hpq.1 1 j (by decide), rcF_f (rcF_f (rcF_0 hpq) hF51) hF55⟩
  · replace c19 : ¬ ¬ x.toInt = 0 := c19
    replace h := tx_iconst (v := (-1)) (p' := 23) h em98_22 (by decide +kernel) rfl
    replace h := tx_goto (t := 33) h em98_23 (by decide)
    replace h := tx_putf (a := 0) (c := 11) (j := 9) (p' := 36) h em98_33 ((congrFun xo_0 17).trans rfl) rfl
    replace h := tx_iload_n (p' := 37) h em98_36 rfl rfl
    rcases tx_if (t := 58) (p' := 40) h em98_37 (by decide) rfl with ⟨c37_1, h⟩ | ⟨c37_1, h⟩
    · replace c37_1 : ¬ x.toInt = 0 := c37_1
      replace h := tx_iload_n (p' := 59) h em98_58 rfl rfl
      obtain ⟨rfl, hμ⟩ := tx_ireturn h em98_59
      rw [hμ]
      exact ⟨x, μ8, E, w, rfl, htv, htC, htK, htE, hw0, hx1, fun j => hpq.1 1 j (by decide), rcF_0 hpq⟩
    · replace c37_1 : ¬ ¬ x.toInt = 0 := c37_1
      replace h := tx_aload_n (p' := 41) h em98_40 rfl rfl
      replace h := tx_getc (c := 11) (j := 0) (p' := 44) h em98_41 ((congrFun xo_0 23).trans rfl) rfl rfl rfl
      replace h := tx_aload_n (p' := 45) h em98_44 rfl rfl
      replace h := tx_getc (c := 11) (j := 10) (p' := 48) h em98_45 ((congrFun xo_0 32).trans rfl) rfl rfl rfl
      replace h := tx_getc (c := 2) (j := 0) (p' := 51) h em98_48 ((congrFun xo_0 120).trans rfl) rfl rfl rfl
      obtain ⟨r51_1, μ51_1, hE51_1, h⟩ := tx_invV (na := 2) (mn := 44) (as := [.inr (.inl (some 2)), .inr (.inl (some 13))]) (rest := []) (p' := 54) h em98_51 ((congrFun xo_0 121).trans rfl) xm_44 rfl rfl
      have hF51_1 := fR2 xm_44 (by decide +kernel) hE51_1
      have er51_1 := ex_void [0, 1, 2, 5, 8, 9, 10, 13, 16, 17, 18, 21, 24, 25, 26, 29, 32, 33, 34, 37, 40, 41, 42, 45, 48, 49, 52, 53, 54, 57, 58, 60, 63, 64, 67, 68, 69, 72, 73, 75, 78, 79, 82, 83, 84, 87, 88, 90, 93, 94, 97, 98, 99, 102, 103, 105, 108, 109, 112, 113, 114, 117, 118, 120, 123, 124, 127, 128, 129, 132, 133, 135, 138, 139, 142, 143, 144, 147, 148, 149, 152, 153, 156, 157, 158, 161, 162, 165, 168, 169, 172, 173, 174, 177, 178, 181, 184, 185] (by decide +kernel) hE51_1
      subst er51_1
      replace h : eT xq_98 _ 54 [some (.inr (.inl (some 0))), some (.inl x)] [] μ51_1 r μ' := h
      replace h := tx_aload_n (p' := 55) h em98_54 rfl rfl
      obtain ⟨r55_1, μ55_1, hE55_1, h⟩ := tx_invV (na := 1) (mn := 74) (as := [.inr (.inl (some 0))]) (rest := []) (p' := 58) h em98_55 ((congrFun xo_0 124).trans rfl) xm_74 rfl rfl
      have hF55_1 := fB_74 hE55_1
      have er55_1 := ex_void [0, 1, 4, 5, 8, 11, 12, 15, 16, 19, 20, 23, 24, 27, 28, 29, 30, 31, 34, 35, 38, 39, 40, 41, 44, 47, 48] (by decide +kernel) hE55_1
      subst er55_1
      replace h : eT xq_98 _ 58 [some (.inr (.inl (some 0))), some (.inl x)] [] μ55_1 r μ' := h
      replace h := tx_iload_n (p' := 59) h em98_58 rfl rfl
      obtain ⟨rfl, hμ⟩ := tx_ireturn h em98_59
      rw [hμ]
      exact ⟨x, μ8, E, w, rfl, htv, htC, htK, htE, hw0, hx1, fun j => hpq.1 1 j (by decide), rcF_f (rcF_f (rcF_0 hpq) hF51_1) hF55_1⟩
theorem dgv_cg {B D : Int → Int} {i : Int} : ∀ {k : Nat}, (∀ j : Nat, j < k → D (i + j) = B (i + j)) → dgv D i k = dgv B i k
  | 0, _ => rfl
  | k + 1, h => by
    show dgv D i k * 10 + (D (i + k) - 48) = dgv B i k * 10 + (B (i + k) - 48)
    rw [h k (by omega), dgv_cg (fun j hj => h j (by omega))]
theorem cDg_d {ν : xM} {p : Int} (hp : 0 ≤ p) : ∀ k : Nat, cDg ν p.toNat k = dgv (kB ν 1) p k
  | 0 => rfl
  | k + 1 => by
    show cDg ν p.toNat k * 10 + ((ν.1 1 (p.toNat + k)).toInt - 48) = dgv (kB ν 1) p k * 10 + ((ν.1 1 (p + k).toNat).toInt - 48)
    rw [cDg_d hp k, show (p + (k : Int)).toNat = p.toNat + k by omega]
theorem same_text {μ ν ν' : xM} {B S' : Int → Int} {n E m : Int} {w w' : Int × Int} (hB : ∀ i, 0 ≤ i → i < n → B i = kB μ 1 i) (hν : ∀ j, ν.1 1 j = μ.1 1 j) (h : tkC (kB μ 1) n (cP ν) (cS ν) (cK ν) E) (h2 : ∀ a, 0 ≤ a → a < E → 2 ≤ cK ν a) (h1 : E < 400 → cK ν E ≤ 1) (g : tkC B n (rP ν') S' (rK ν') m) (g0 : m < 400 → rK ν' m = 0) (gv : rkV B S' ν' (m + 1)) (hw : w.1 = 0) (hw' : w'.1 = 0) : wEq (rTx ν' 401 0 0 0 [] w') (cTx ν 401 0 0 0 [] w) := by
  have hC := tkC_cg hB h
  have hs := tk_same hC h2 g g0
  have eB : kB ν 1 = kB μ 1 := by funext i; unfold kB; rw [hν]
  have at_ : ∀ a : Int, 0 ≤ a → a ≤ E → a ≤ m ∧ rP ν' a = cP ν a ∧ rK ν' a = cK ν a ∧ (¬ cK ν a = 0 → S' a = cS ν a) := fun a a0 a1 => by
    have := hs a.toNat (by omega)
    rw [show ((a.toNat : Nat) : Int) = a by omega] at this
    exact this
  -- a name
  have nm : ∀ a : Int, 0 ≤ a → a ≤ E → cK ν a = 2 → (0 ≤ cP ν a ∧ 1 ≤ cS ν a ∧ cS ν a ≤ 8 ∧ cP ν a + cS ν a ≤ n) ∧ (∀ k : Nat, k < (cS ν a).toNat → tkLo (kB μ 1 (cP ν a + k))) ∧ rNm ν' a = qzR (tkEs (kB μ 1) (cP ν a) (cS ν a).toNat) := fun a a0 a1 hk => by
    obtain ⟨q1, q2, q3, q4⟩ := at_ a a0 a1
    have q4 := q4 (by omega)
    rcases tkC_at h a0 a1 with ⟨-, -, z⟩ | ⟨z1, z2, z3, z4, z5⟩
    · omega
    · rw [hk] at z4
      obtain ⟨d1, d2⟩ := tkKd_2 z4
      have hz := z3.1
      refine ⟨⟨z1, hz.1, d2, hz.2⟩, fun k hk2 => tkSz_l z3 d1 _ (by omega) (by omega), ?_⟩
      have hv := (gv a a0 (by omega)).2 (by rw [q3, hk]; decide)
      rw [q2, q4] at hv
      rw [hv (by rw [hB _ z1 z2]; exact d1) d2]
      congr 1
      exact tkEs_cg (fun k hk2 => hB _ (by omega) (by omega))
  refine text_cg (E := E) (fun a a0 a1 => (at_ a a0 a1).2.2.1) (fun a a0 a1 => (at_ a a0 a1).2.1) h1 h.1.2 (fun a b a0 a1 b0 b1 ka kb => ?_) (fun a a0 a1 ka => ?_) (fun a a0 a1 ka => ?_) 401 0 0 0 [] w w' (Int.le_refl 0) h.1.1 (fun i hi => by cases hi) ⟨by rw [hw, hw'], fun q => absurd hw q⟩
  · obtain ⟨⟨p1, p2, p3, p4⟩, p5, p6⟩ := nm a a0 a1 ka
    obtain ⟨⟨r1, r2, r3, r4⟩, r5, r6⟩ := nm b b0 b1 kb
    unfold rm cm
    refine (bl2_e ?_).symm
    rw [decide_eq_true_iff, p6, r6]
    have cb : ∀ (a : Int) (i : Nat), 0 ≤ cP ν a → cB ν a i = kB μ 1 (cP ν a + i) := fun a i q => by unfold cB; rw [← eB]; unfold kB; rw [show (cP ν a + (i : Int)).toNat = (cP ν a).toNat + i by omega]
    unfold cM
    constructor
    · intro ⟨e1, e2⟩
      rw [e1]
      congr 1
      refine tkEs_cg (fun k hk => ?_)
      have := e2 k (by omega)
      rw [cb a k p1, cb b k r1] at this
      exact this
    · intro e
      have e := qzR_inj (tkEs_d p5) (tkEs_d r5) e
      obtain ⟨e1, e2⟩ := tkEs_eq e
      refine ⟨by omega, fun k hk => ?_⟩
      rw [cb a k p1, cb b k r1]
      exact e2 k (by omega)
  · obtain ⟨⟨p1, p2, p3, p4⟩, p5, p6⟩ := nm a a0 a1 ka
    have cb : ∀ (i : Nat), cB ν a i = kB μ 1 (cP ν a + i) := fun i => by unfold cB; rw [← eB]; unfold kB; rw [show (cP ν a + (i : Int)).toNat = (cP ν a).toNat + i by omega]
    unfold rl cl
    have key : qzL (rNm ν' a) ↔ cL ν a := by
      rw [p6]
      unfold qzL cL
      have hd := tkEs_d p5
      have mem : ∀ {s : Nat} {d : Int}, d ∈ tkEs (kB μ 1) (cP ν a) s ↔ ∃ k : Nat, k < s ∧ d = kB μ 1 (cP ν a + k) - 96 := by
        intro s
        induction s with
        | zero => intro d; exact ⟨fun q => (by cases q), fun ⟨k, hk, _⟩ => absurd hk (Nat.not_lt_zero k)⟩
        | succ s ih =>
          intro d
          constructor
          · intro q
            rcases List.mem_cons.mp q with q | q
            · exact ⟨s, by omega, q⟩
            · obtain ⟨k, k1, k2⟩ := ih.mp q
              exact ⟨k, by omega, k2⟩
          · intro ⟨k, k1, k2⟩
            by_cases q : k = s
            · subst q; exact List.mem_cons.mpr (Or.inl k2)
            · exact List.mem_cons.mpr (Or.inr (ih.mpr ⟨k, by omega, k2⟩))
      constructor
      · intro ⟨es, e1, e2⟩ i hi
        have e := qzR_inj hd (fun d hd2 => ⟨(e1 d hd2).1, by have := (e1 d hd2).2; omega⟩) e2
        have := (e1 (kB μ 1 (cP ν a + i) - 96) (by rw [← e]; exact mem.mpr ⟨i, by omega, rfl⟩)).2
        rw [cb]
        omega
      · intro e1
        refine ⟨_, fun d hd2 => ⟨(hd d hd2).1, ?_⟩, rfl⟩
        obtain ⟨k, k1, k2⟩ := mem.mp hd2
        have := e1 k (by omega)
        rw [cb] at this
        omega
    rw [propext key]
  · obtain ⟨q1, q2, q3, q4⟩ := at_ a a0 a1
    have q4 := q4 (by omega)
    rcases tkC_at h a0 a1 with ⟨-, -, z⟩ | ⟨z1, z2, z3, z4, z5⟩
    · omega
    · have hz := z3.1
      rw [(gv a a0 (by omega)).1 (by rw [q3, ka]), q2, q4]
      unfold cV
      rw [cDg_d z1, eB]
      exact dgv_cg (fun j hj => hB _ (by omega) (by omega))
