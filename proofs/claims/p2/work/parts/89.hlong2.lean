/-! longs at whole numbers -/
theorem al_bm {x : Int} (h1 : -9223372036854775808 ≤ x) (h2 : x ≤ 9223372036854775807) : x.bmod 18446744073709551616 = x := by
  rw [Int.bmod_def]
  split <;> omega
theorem al_27 : (27 : Int64).toInt = 27 := by decide +kernel
theorem al_div {x : Int64} (h0 : 0 ≤ x.toInt) : (x / 27).toInt = x.toInt / 27 := by
  rw [Int64.toInt_div, al_27, Int.tdiv_eq_ediv_of_nonneg h0]
  have h1 := Int64.toInt_lt x
  exact al_bm (by omega) (by omega)
theorem al_mul {x : Int64} (h0 : 0 ≤ x.toInt) (h1 : x.toInt ≤ 282429536480) : (27 * x).toInt = 27 * x.toInt := by
  rw [Int64.toInt_mul, al_27]
  exact al_bm (by omega) (by omega)
theorem al_add {x y : Int64} (h0 : 0 ≤ x.toInt + y.toInt) (h1 : x.toInt + y.toInt ≤ 9223372036854775807) : (x + y).toInt = x.toInt + y.toInt := by
  rw [Int64.toInt_add]
  exact al_bm (by omega) (by omega)
theorem al_rem {x : Int64} (h0 : 0 ≤ x.toInt) : (x - x / 27 * 27).toInt = x.toInt % 27 := by
  have h1 := Int64.toInt_lt x
  have e1 := al_div h0
  have e2 : (x / 27 * 27).toInt = x.toInt / 27 * 27 := by
    rw [Int64.toInt_mul, al_27, e1]
    exact al_bm (by omega) (by omega)
  rw [Int64.toInt_sub, e2]
  rw [al_bm (by omega) (by omega)]
  omega
theorem al_i2l (x : Int32) : x.toInt64.toInt = x.toInt := Int32.toInt_toInt64 x
theorem al_l2i {x : Int64} (h0 : -2147483648 ≤ x.toInt) (h1 : x.toInt ≤ 2147483647) : x.toInt32.toInt = x.toInt := by
  rw [Int64.toInt_toInt32]
  exact an_bm h0 h1
