/-! ===== BOXES: numbers ===== -/
theorem an_lo (x : Int32) : -2147483648 ≤ x.toInt := Int32.le_toInt x
theorem an_hi (x : Int32) : x.toInt ≤ 2147483647 := Int32.toInt_le x
theorem an_bm {x : Int} (h1 : -2147483648 ≤ x) (h2 : x ≤ 2147483647) : x.bmod 4294967296 = x := by
  rw [Int.bmod_def]
  split <;> omega
theorem an_add {x y : Int32} (h1 : -2147483648 ≤ x.toInt + y.toInt) (h2 : x.toInt + y.toInt ≤ 2147483647) : (x + y).toInt = x.toInt + y.toInt := by
  rw [Int32.toInt_add]
  exact an_bm h1 h2
theorem an_sub {x y : Int32} (h1 : -2147483648 ≤ x.toInt - y.toInt) (h2 : x.toInt - y.toInt ≤ 2147483647) : (x - y).toInt = x.toInt - y.toInt := by
  rw [Int32.toInt_sub]
  exact an_bm h1 h2
theorem an_mul {x y : Int32} (h1 : -2147483648 ≤ x.toInt * y.toInt) (h2 : x.toInt * y.toInt ≤ 2147483647) : (x * y).toInt = x.toInt * y.toInt := by
  rw [Int32.toInt_mul]
  exact an_bm h1 h2
theorem an_nonneg {x : Int32} (h : 0 ≤ x.toInt) : x.toInt = (x.toBitVec.toNat : Int) ∧ x.toBitVec.toNat < 2147483648 := by
  have e : x.toInt = x.toBitVec.toInt := rfl
  have h2 := x.toBitVec.isLt
  rw [e, BitVec.toInt_eq_toNat_cond] at h ⊢
  split at h
  · rename_i h3
    rw [if_pos h3]
    exact ⟨rfl, by omega⟩
  · omega
theorem an_ofnat {x : Int32} (h : x.toBitVec.toNat < 2147483648) : x.toInt = (x.toBitVec.toNat : Int) := by
  have e : x.toInt = x.toBitVec.toInt := rfl
  rw [e, BitVec.toInt_eq_toNat_cond, if_pos (by omega)]
theorem an_and {x y : Int32} (h : 0 ≤ y.toInt) : 0 ≤ (x &&& y).toInt ∧ (x &&& y).toInt ≤ y.toInt := by
  obtain ⟨h1, h2⟩ := an_nonneg h
  have e : (x &&& y).toBitVec.toNat = x.toBitVec.toNat &&& y.toBitVec.toNat := by rw [Int32.toBitVec_and, BitVec.toNat_and]
  have h3 : (x &&& y).toBitVec.toNat ≤ y.toBitVec.toNat := by rw [e]; exact Nat.and_le_right
  rw [an_ofnat (x := x &&& y) (by omega)]
  omega
theorem an_and' {x y : Int32} (h : 0 ≤ x.toInt) : 0 ≤ (x &&& y).toInt ∧ (x &&& y).toInt ≤ x.toInt := by
  obtain ⟨h1, h2⟩ := an_nonneg h
  have e : (x &&& y).toBitVec.toNat = x.toBitVec.toNat &&& y.toBitVec.toNat := by rw [Int32.toBitVec_and, BitVec.toNat_and]
  have h3 : (x &&& y).toBitVec.toNat ≤ x.toBitVec.toNat := by rw [e]; exact Nat.and_le_left
  rw [an_ofnat (x := x &&& y) (by omega)]
  omega
theorem an_div {x y : Int32} (hx : 0 ≤ x.toInt) (hy : 0 < y.toInt) : (x / y).toInt = x.toInt / y.toInt := by
  rw [Int32.toInt_div]
  have h1 : x.toInt.tdiv y.toInt = x.toInt / y.toInt := Int.tdiv_eq_ediv_of_nonneg hx
  rw [h1]
  have h2 : 0 ≤ x.toInt / y.toInt := Int.ediv_nonneg hx (Int.le_of_lt hy)
  have h3 : x.toInt / y.toInt ≤ x.toInt := Int.ediv_le_self _ hx
  have := an_hi x
  exact an_bm (by omega) (by omega)
theorem an_rem {x y : Int32} (hx : 0 ≤ x.toInt) (hy : 0 < y.toInt) : 0 ≤ (x - x / y * y).toInt ∧ (x - x / y * y).toInt < y.toInt ∧ (x - x / y * y).toInt ≤ x.toInt := by
  have e1 := an_div hx hy
  have h2 : 0 ≤ x.toInt / y.toInt := Int.ediv_nonneg hx (Int.le_of_lt hy)
  have h3 : x.toInt % y.toInt + y.toInt * (x.toInt / y.toInt) = x.toInt := Int.emod_add_mul_ediv _ _
  have h4 := Int.emod_nonneg x.toInt (show y.toInt ≠ 0 by omega)
  have h5 := Int.emod_lt_of_pos x.toInt hy
  have h6 : y.toInt * (x.toInt / y.toInt) = x.toInt / y.toInt * y.toInt := Int.mul_comm _ _
  have h7 : 0 ≤ x.toInt / y.toInt * y.toInt := Int.mul_nonneg h2 (Int.le_of_lt hy)
  have := an_hi x
  have e2 : (x / y * y).toInt = x.toInt / y.toInt * y.toInt := by
    rw [← e1]
    exact an_mul (by rw [e1]; omega) (by rw [e1]; omega)
  have e3 : (x - x / y * y).toInt = x.toInt - x.toInt / y.toInt * y.toInt := by
    rw [← e2]
    exact an_sub (by rw [e2]; omega) (by rw [e2]; omega)
  omega
theorem an_shl : ∀ l : Nat, l < 31 → ((1 : Int32) <<< (Int32.ofNat l &&& 31)).toInt = ((2 ^ l : Nat) : Int) := by decide +kernel
theorem s_u_an : ∀ n, n < 32 → (((Int32.ofNat n).toUInt32 &&& Int32.toUInt32 31).toBitVec % 32).toNat = n := by decide +kernel
theorem an_ushr : ∀ l : Nat, l < 32 → 0 < l → ∀ x : Int32, 0 ≤ ((x.toUInt32 >>> ((Int32.ofNat l).toUInt32 &&& Int32.toUInt32 31)).toInt32).toInt := by
  intro l hl h0 x
  have e : (((Int32.ofNat l).toUInt32 &&& Int32.toUInt32 31).toBitVec % 32).toNat = l := by
    have := s_u_an l hl
    exact this
  have e2 : ((x.toUInt32 >>> ((Int32.ofNat l).toUInt32 &&& Int32.toUInt32 31)).toInt32).toBitVec.toNat = x.toBitVec.toNat >>> l := by
    show (x.toUInt32 >>> ((Int32.ofNat l).toUInt32 &&& Int32.toUInt32 31)).toBitVec.toNat = _
    rw [UInt32.toBitVec_shiftRight, BitVec.ushiftRight_eq', BitVec.toNat_ushiftRight, e]
    rfl
  have h3 := x.toBitVec.isLt
  have h4 : x.toBitVec.toNat >>> l < 2147483648 := by
    rw [Nat.shiftRight_eq_div_pow]
    have : 2 ≤ 2 ^ l := by
      calc 2 = 2 ^ 1 := rfl
        _ ≤ 2 ^ l := Nat.pow_le_pow_right (by omega) h0
    have h5 : x.toBitVec.toNat / 2 ^ l ≤ x.toBitVec.toNat / 2 := Nat.div_le_div_left this (by omega)
    omega
  rw [an_ofnat (by rw [e2]; exact h4)]
  omega
theorem an_i2b (x : Int32) : -128 ≤ x.toInt8.toInt32.toInt ∧ x.toInt8.toInt32.toInt ≤ 127 := by
  have h1 := Int8.le_toInt x.toInt8
  have h2 := Int8.toInt_le x.toInt8
  rw [Int8.toInt_toInt32]
  exact ⟨h1, h2⟩
theorem an_i2c (x : Int32) : 0 ≤ ((x.toUInt32 % 65536).toInt32).toInt ∧ ((x.toUInt32 % 65536).toInt32).toInt ≤ 65535 := by
  have e : ((x.toUInt32 % 65536).toInt32).toBitVec.toNat = x.toUInt32.toNat % 65536 := by
    show (x.toUInt32 % 65536).toNat = _
    rw [UInt32.toNat_mod]
    rfl
  have h : x.toUInt32.toNat % 65536 < 65536 := Nat.mod_lt _ (by omega)
  rw [an_ofnat (by rw [e]; omega), e]
  omega
theorem an_ofNat {n : Nat} (h : n < 2147483648) : (Int32.ofNat n).toInt = (n : Int) := Int32.toInt_ofNat_of_lt h
theorem an_of {x : Int32} {n : Nat} (h : x.toInt = (n : Int)) : x = Int32.ofNat n := by
  have hx := an_hi x
  apply Int32.toInt_inj.mp
  rw [an_ofNat (by omega)]
  exact h
theorem an_ix {x : Int32} {n : Nat} (h0 : 0 ≤ x.toInt) (h1 : x.toInt < (n : Int)) : vp_in x n ∧ x.toNatClampNeg < n ∧ (x.toNatClampNeg : Int) = x.toInt := by
  have e : x.toNatClampNeg = x.toInt.toNat := rfl
  have e2 : ((x.toInt.toNat : Nat) : Int) = x.toInt := Int.toNat_of_nonneg h0
  refine ⟨fun h => ?_, by rw [e]; omega, by rw [e]; exact e2⟩
  rcases h with h | h
  · rw [Int32.lt_iff_toInt_lt] at h
    have : (0 : Int32).toInt = 0 := by decide
    omega
  · rw [e] at h
    omega
