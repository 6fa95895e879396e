/-! abstract numbers: results, branches -/
def ieq (a b : Int) : Bool := ile a b && ile b a
theorem ieq_ok {a b : Int} (h : ieq a b = true) : a = b := by
  unfold ieq at h
  rw [Bool.and_eq_true] at h
  exact Int.le_antisymm (ile_ok h.1) (ile_ok h.2)
def atop : aN ⊕ aQ := .inr (-2147483648, 2147483647)
theorem atop_ok {ρ : Nat → Int} {n : Nat} {v : Int32} : aRes ρ n atop v := ⟨an_lo v, an_hi v⟩
def ain (lo hi : Int) : Bool := ile (-2147483648) lo && ile hi 2147483647
theorem ain_ok {lo hi : Int} (h : ain lo hi = true) : -2147483648 ≤ lo ∧ hi ≤ 2147483647 := by
  unfold ain at h
  rw [Bool.and_eq_true] at h
  exact ⟨ile_ok h.1, ile_ok h.2⟩
noncomputable def fadd : List aQ → aN → aN → aN ⊕ aQ := fun en a b => bif ain ((aiv en a).1 + (aiv en b).1) ((aiv en a).2 + (aiv en b).2) then (bif Nat.beq b.1 0 then .inl (a.1, a.2 + b.2) else bif Nat.beq a.1 0 then .inl (b.1, a.2 + b.2) else .inr ((aiv en a).1 + (aiv en b).1, (aiv en a).2 + (aiv en b).2)) else atop
theorem fadd_ok : aBinOk fadd (fun x y => x + y) := by
  intro en ρ a b x y h0 he ha hb hx hy
  have h1 := aiv_ok he hx
  have h2 := aiv_ok he hy
  unfold fadd
  cases hc : ain ((aiv en a).1 + (aiv en b).1) ((aiv en a).2 + (aiv en b).2) with
  | false => exact atop_ok
  | true =>
    have hc := ain_ok hc
    have e := an_add (x := x) (y := y) (by omega) (by omega)
    cases hb0 : Nat.beq b.1 0 with
    | true =>
      have hb0 := Nat.eq_of_beq_eq_true hb0
      rw [hb0, he.1] at hy
      exact ⟨ha, by show (x + y).toInt = ρ a.1 + (a.2 + b.2); omega⟩
    | false =>
      cases ha0 : Nat.beq a.1 0 with
      | true =>
        have ha0 := Nat.eq_of_beq_eq_true ha0
        rw [ha0, he.1] at hx
        exact ⟨hb, by show (x + y).toInt = ρ b.1 + (a.2 + b.2); omega⟩
      | false => exact ⟨by show _ ≤ (x + y).toInt; omega, by show (x + y).toInt ≤ _; omega⟩
noncomputable def fsub : List aQ → aN → aN → aN ⊕ aQ := fun en a b => bif Nat.beq a.1 b.1 && ain (a.2 - b.2) (a.2 - b.2) then .inl (0, a.2 - b.2) else bif ain ((aiv en a).1 - (aiv en b).2) ((aiv en a).2 - (aiv en b).1) then (bif Nat.beq b.1 0 then .inl (a.1, a.2 - b.2) else .inr ((aiv en a).1 - (aiv en b).2, (aiv en a).2 - (aiv en b).1)) else atop
theorem fsub_ok : aBinOk fsub (fun x y => x - y) := by
  intro en ρ a b x y h0 he ha hb hx hy
  have h1 := aiv_ok he hx
  have h2 := aiv_ok he hy
  unfold fsub
  cases hs : Nat.beq a.1 b.1 && ain (a.2 - b.2) (a.2 - b.2) with
  | true =>
    rw [Bool.and_eq_true] at hs
    have e1 := Nat.eq_of_beq_eq_true hs.1
    have e2 := ain_ok hs.2
    rw [← e1] at hy
    have e := an_sub (x := x) (y := y) (by omega) (by omega)
    exact ⟨h0, by show (x - y).toInt = ρ 0 + (a.2 - b.2); rw [he.1]; omega⟩
  | false =>
    cases hc : ain ((aiv en a).1 - (aiv en b).2) ((aiv en a).2 - (aiv en b).1) with
    | false => exact atop_ok
    | true =>
      have hc := ain_ok hc
      have e := an_sub (x := x) (y := y) (by omega) (by omega)
      cases hb0 : Nat.beq b.1 0 with
      | true =>
        have hb0 := Nat.eq_of_beq_eq_true hb0
        rw [hb0, he.1] at hy
        exact ⟨ha, by show (x - y).toInt = ρ a.1 + (a.2 - b.2); omega⟩
      | false => exact ⟨by show _ ≤ (x - y).toInt; omega, by show (x - y).toInt ≤ _; omega⟩
/-- a number not below 0 times another -/
noncomputable def fmulc (c : Int) (p : aQ) : aN ⊕ aQ := bif ile 0 c && ain (p.1 * c) (p.2 * c) then .inr (p.1 * c, p.2 * c) else atop
theorem fmulc_ok {ρ : Nat → Int} {n : Nat} {c : Int} {p : aQ} {x y : Int32} (hx : p.1 ≤ x.toInt ∧ x.toInt ≤ p.2) (hy : y.toInt = c) : aRes ρ n (fmulc c p) (x * y) := by
  unfold fmulc
  cases hc : ile 0 c && ain (p.1 * c) (p.2 * c) with
  | false => exact atop_ok
  | true =>
    rw [Bool.and_eq_true] at hc
    have c1 := ile_ok hc.1
    have c2 := ain_ok hc.2
    have m1 : p.1 * c ≤ x.toInt * c := Int.mul_le_mul_of_nonneg_right hx.1 c1
    have m2 : x.toInt * c ≤ p.2 * c := Int.mul_le_mul_of_nonneg_right hx.2 c1
    have e := an_mul (x := x) (y := y) (by rw [hy]; omega) (by rw [hy]; omega)
    rw [hy] at e
    exact ⟨by show _ ≤ (x * y).toInt; rw [e]; exact m1, by show (x * y).toInt ≤ _; rw [e]; exact m2⟩
noncomputable def fmul : List aQ → aN → aN → aN ⊕ aQ := fun en a b => bif ile 0 (aiv en a).1 && (ile 0 (aiv en b).1 && ile ((aiv en a).2 * (aiv en b).2) 2147483647) then .inr ((aiv en a).1 * (aiv en b).1, (aiv en a).2 * (aiv en b).2) else bif ieq (aiv en b).1 (aiv en b).2 then fmulc (aiv en b).1 (aiv en a) else bif ieq (aiv en a).1 (aiv en a).2 then fmulc (aiv en a).1 (aiv en b) else atop
theorem fmul_ok : aBinOk fmul (fun x y => x * y) := by
  intro en ρ a b x y h0 he ha hb hx hy
  have h1 := aiv_ok he hx
  have h2 := aiv_ok he hy
  unfold fmul
  cases hc : ile 0 (aiv en a).1 && (ile 0 (aiv en b).1 && ile ((aiv en a).2 * (aiv en b).2) 2147483647) with
  | false =>
    cases hb1 : ieq (aiv en b).1 (aiv en b).2 with
    | true =>
      have hb1 := ieq_ok hb1
      exact fmulc_ok h1 (by omega)
    | false =>
      cases ha1 : ieq (aiv en a).1 (aiv en a).2 with
      | true =>
        have ha1 := ieq_ok ha1
        have h := fmulc_ok (ρ := ρ) (n := en.length) (c := (aiv en a).1) (p := aiv en b) (x := y) (y := x) h2 (by omega)
        rw [Int32.mul_comm] at h
        exact h
      | false => exact atop_ok
  | true =>
    simp only [Bool.and_eq_true] at hc
    have c1 := ile_ok hc.1
    have c2 := ile_ok hc.2.1
    have c3 := ile_ok hc.2.2
    have m1 : (aiv en a).1 * (aiv en b).1 ≤ x.toInt * y.toInt := Int.mul_le_mul h1.1 h2.1 c2 (by omega)
    have m2 : x.toInt * y.toInt ≤ (aiv en a).2 * (aiv en b).2 := Int.mul_le_mul h1.2 h2.2 (by omega) (by omega)
    have m0 : 0 ≤ (aiv en a).1 * (aiv en b).1 := Int.mul_nonneg c1 c2
    have e := an_mul (x := x) (y := y) (by omega) (by omega)
    exact ⟨by show _ ≤ (x * y).toInt; rw [e]; exact m1, by show (x * y).toInt ≤ _; rw [e]; exact m2⟩
noncomputable def fand : List aQ → aN → aN → aN ⊕ aQ := fun en a b => bif ile 0 (aiv en b).1 then (bif ile 0 (aiv en a).1 then .inr (0, imin (aiv en a).2 (aiv en b).2) else .inr (0, (aiv en b).2)) else bif ile 0 (aiv en a).1 then .inr (0, (aiv en a).2) else atop
theorem fand_ok : aBinOk fand (fun x y => x &&& y) := by
  intro en ρ a b x y h0 he ha hb hx hy
  have h1 := aiv_ok he hx
  have h2 := aiv_ok he hy
  unfold fand
  cases hc : ile 0 (aiv en b).1 with
  | true =>
    have hc := ile_ok hc
    have e := an_and (x := x) (y := y) (by omega)
    cases hd : ile 0 (aiv en a).1 with
    | true =>
      have hd := ile_ok hd
      have e2 := an_and' (x := x) (y := y) (by omega)
      exact ⟨e.1, imin_c (by show (x &&& y).toInt ≤ _; omega) (by show (x &&& y).toInt ≤ _; omega)⟩
    | false => exact ⟨e.1, by show (x &&& y).toInt ≤ _; omega⟩
  | false =>
    cases hd : ile 0 (aiv en a).1 with
    | true =>
      have hd := ile_ok hd
      have e2 := an_and' (x := x) (y := y) (by omega)
      exact ⟨e2.1, by show (x &&& y).toInt ≤ _; omega⟩
    | false => exact atop_ok
def fany : List aQ → aN → aN → aN ⊕ aQ := fun _ _ _ => atop
theorem fany_ok {f : Int32 → Int32 → Int32} : aBinOk fany f := fun _ _ _ _ _ _ _ _ _ _ _ _ => atop_ok
noncomputable def fshl : List aQ → aN → aN → aN ⊕ aQ := fun en a b => bif ile 1 (aiv en a).1 && (ile (aiv en a).2 1 && (ile 0 (aiv en b).1 && ile (aiv en b).2 30)) then .inr (1, ((2 ^ (aiv en b).2.toNat : Nat) : Int)) else atop
theorem fshl_ok : aBinOk fshl (fun x y => x <<< (y &&& 31)) := by
  intro en ρ a b x y h0 he ha hb hx hy
  have h1 := aiv_ok he hx
  have h2 := aiv_ok he hy
  unfold fshl
  cases hc : ile 1 (aiv en a).1 && (ile (aiv en a).2 1 && (ile 0 (aiv en b).1 && ile (aiv en b).2 30)) with
  | false => exact atop_ok
  | true =>
    simp only [Bool.and_eq_true] at hc
    obtain ⟨c1, c2, c3, c4⟩ := hc
    have c1 := ile_ok c1
    have c2 := ile_ok c2
    have c3 := ile_ok c3
    have c4 := ile_ok c4
    have ex : x = 1 := by
      apply Int32.toInt_inj.mp
      have : (1 : Int32).toInt = 1 := by decide
      omega
    have ey : y = Int32.ofNat y.toInt.toNat := an_of (by rw [Int.toNat_of_nonneg (by omega)])
    have e := an_shl y.toInt.toNat (by omega)
    subst ex
    rw [← ey] at e
    have p1 : 1 ≤ 2 ^ y.toInt.toNat := Nat.one_le_two_pow
    have p2 : 2 ^ y.toInt.toNat ≤ 2 ^ (aiv en b).2.toNat := Nat.pow_le_pow_right (by omega) (by omega)
    exact ⟨by show 1 ≤ ((1 : Int32) <<< (y &&& 31)).toInt; rw [e]; omega, by show ((1 : Int32) <<< (y &&& 31)).toInt ≤ _; rw [e]; exact Int.ofNat_le.mpr p2⟩
noncomputable def fushr : List aQ → aN → aN → aN ⊕ aQ := fun en _ b => bif ile 1 (aiv en b).1 && ile (aiv en b).2 31 then .inr (0, 2147483647) else atop
theorem fushr_ok : aBinOk fushr (fun x y => (x.toUInt32 >>> (y.toUInt32 &&& Int32.toUInt32 31)).toInt32) := by
  intro en ρ a b x y h0 he ha hb hx hy
  have h2 := aiv_ok he hy
  unfold fushr
  cases hc : ile 1 (aiv en b).1 && ile (aiv en b).2 31 with
  | false => exact atop_ok
  | true =>
    simp only [Bool.and_eq_true] at hc
    have c3 := ile_ok hc.1
    have c4 := ile_ok hc.2
    have ey : y = Int32.ofNat y.toInt.toNat := an_of (by rw [Int.toNat_of_nonneg (by omega)])
    have e := an_ushr y.toInt.toNat (by omega) (by omega) x
    rw [← ey] at e
    exact ⟨e, an_hi _⟩
noncomputable def fdiv : List aQ → aN → aN → aN ⊕ aQ := fun en a b => bif ile 0 (aiv en a).1 && ile (aiv en b).2 (aiv en b).1 then .inr ((aiv en a).1 / (aiv en b).1, (aiv en a).2 / (aiv en b).1) else atop
theorem fdiv_ok : aDivOk fdiv (fun x y => x / y) := by
  intro en ρ a b x y h0 he ha hb hx hy hq
  have h1 := aiv_ok he hx
  have h2 := aiv_ok he hy
  unfold fdiv
  cases hc : ile 0 (aiv en a).1 && ile (aiv en b).2 (aiv en b).1 with
  | false => exact atop_ok
  | true =>
    rw [Bool.and_eq_true] at hc
    have c1 := ile_ok hc.1
    have c2 := ile_ok hc.2
    have ey : y.toInt = (aiv en b).1 := by omega
    have e := an_div (x := x) (y := y) (by omega) (by omega)
    exact ⟨by show _ ≤ (x / y).toInt; rw [e, ey]; exact Int.ediv_le_ediv (by omega) h1.1, by show (x / y).toInt ≤ _; rw [e, ey]; exact Int.ediv_le_ediv (by omega) h1.2⟩
noncomputable def frem : List aQ → aN → aN → aN ⊕ aQ := fun en a b => bif ile 0 (aiv en a).1 then .inr (0, imin (aiv en a).2 ((aiv en b).2 - 1)) else atop
theorem frem_ok : aDivOk frem (fun x y => x - x / y * y) := by
  intro en ρ a b x y h0 he ha hb hx hy hq
  have h1 := aiv_ok he hx
  have h2 := aiv_ok he hy
  unfold frem
  cases hc : ile 0 (aiv en a).1 with
  | false => exact atop_ok
  | true =>
    have c1 := ile_ok hc
    obtain ⟨e1, e2, e3⟩ := an_rem (x := x) (y := y) (by omega) (by omega)
    exact ⟨e1, imin_c (by show (x - x / y * y).toInt ≤ _; omega) (by show (x - x / y * y).toInt ≤ _; omega)⟩
def fi2b : List aQ → aN → aN ⊕ aQ := fun _ _ => .inr (-128, 127)
theorem fi2b_ok : aUnOk fi2b (fun x => x.toInt8.toInt32) := fun _ _ _ x _ _ _ _ => an_i2b x
def fi2c : List aQ → aN → aN ⊕ aQ := fun _ _ => .inr (0, 65535)
theorem fi2c_ok : aUnOk fi2c (fun x => (x.toUInt32 % 65536).toInt32) := fun _ _ _ x _ _ _ _ => an_i2c x
noncomputable def fmax : List aQ → aN → aN → aN ⊕ aQ := fun en a b => .inr (imax (aiv en a).1 (aiv en b).1, imax (aiv en a).2 (aiv en b).2)
theorem fmax_ok : aBinOk fmax (fun x y => if x < y then y else x) := by
  intro en ρ a b x y h0 he ha hb hx hy
  have h1 := aiv_ok he hx
  have h2 := aiv_ok he hy
  have l1 := imax_l (aiv en a).2 (aiv en b).2
  have l2 := imax_r (aiv en a).2 (aiv en b).2
  show imax _ _ ≤ (if x < y then y else x).toInt ∧ (if x < y then y else x).toInt ≤ imax _ _
  by_cases hxy : x < y
  · rw [if_pos hxy]
    have := Int32.lt_iff_toInt_lt.mp hxy
    exact ⟨imax_c (by omega) (by omega), by omega⟩
  · rw [if_neg hxy]
    have := Int32.le_iff_toInt_le.mp (Int32.not_lt.mp hxy)
    exact ⟨imax_c (by omega) (by omega), by omega⟩
noncomputable def fmin : List aQ → aN → aN → aN ⊕ aQ := fun en a b => .inr (imin (aiv en a).1 (aiv en b).1, imin (aiv en a).2 (aiv en b).2)
theorem fmin_ok : aBinOk fmin (fun x y => if y < x then y else x) := by
  intro en ρ a b x y h0 he ha hb hx hy
  have h1 := aiv_ok he hx
  have h2 := aiv_ok he hy
  have l1 := imin_l (aiv en a).1 (aiv en b).1
  have l2 := imin_r (aiv en a).1 (aiv en b).1
  show imin _ _ ≤ (if y < x then y else x).toInt ∧ (if y < x then y else x).toInt ≤ imin _ _
  by_cases hxy : y < x
  · rw [if_pos hxy]
    have := Int32.lt_iff_toInt_lt.mp hxy
    exact ⟨by omega, imin_c (by omega) (by omega)⟩
  · rw [if_neg hxy]
    have := Int32.le_iff_toInt_le.mp (Int32.not_lt.mp hxy)
    exact ⟨by omega, imin_c (by omega) (by omega)⟩
/-! branches -/
def amU : List aQ → Nat → Int → List aQ
  | [], _, _ => []
  | q :: t, 0, u => (q.1, imin q.2 u) :: t
  | q :: t, s + 1, u => q :: amU t s u
def amL : List aQ → Nat → Int → List aQ
  | [], _, _ => []
  | q :: t, 0, u => (imax q.1 u, q.2) :: t
  | q :: t, s + 1, u => q :: amL t s u
theorem amU_len : ∀ (en : List aQ) (s : Nat) (u : Int), (amU en s u).length = en.length
  | [], _, _ => rfl
  | _ :: _, 0, _ => rfl
  | _ :: t, s + 1, u => by show (amU t s u).length + 1 = t.length + 1; rw [amU_len t s u]
theorem amL_len : ∀ (en : List aQ) (s : Nat) (u : Int), (amL en s u).length = en.length
  | [], _, _ => rfl
  | _ :: _, 0, _ => rfl
  | _ :: t, s + 1, u => by show (amL t s u).length + 1 = t.length + 1; rw [amL_len t s u]
theorem amU_at : ∀ (en : List aQ) (s : Nat) (u : Int) (i : Nat) (q : aQ), (amU en s u)[i]? = some q → ∃ q', en[i]? = some q' ∧ (q = q' ∨ (i = s ∧ q = (q'.1, imin q'.2 u)))
  | [], _, _, i, q, h => by simp [amU] at h
  | q0 :: t, 0, u, i, q, h => by
    cases i with
    | zero => cases h; exact ⟨q0, rfl, Or.inr ⟨rfl, rfl⟩⟩
    | succ i => exact ⟨q, h, Or.inl rfl⟩
  | q0 :: t, s + 1, u, i, q, h => by
    cases i with
    | zero => cases h; exact ⟨_, rfl, Or.inl rfl⟩
    | succ i =>
      obtain ⟨q', h1, h2⟩ := amU_at t s u i q h
      exact ⟨q', h1, h2.imp id (fun h => ⟨by omega, h.2⟩)⟩
theorem amL_at : ∀ (en : List aQ) (s : Nat) (u : Int) (i : Nat) (q : aQ), (amL en s u)[i]? = some q → ∃ q', en[i]? = some q' ∧ (q = q' ∨ (i = s ∧ q = (imax q'.1 u, q'.2)))
  | [], _, _, i, q, h => by simp [amL] at h
  | q0 :: t, 0, u, i, q, h => by
    cases i with
    | zero => cases h; exact ⟨q0, rfl, Or.inr ⟨rfl, rfl⟩⟩
    | succ i => exact ⟨q, h, Or.inl rfl⟩
  | q0 :: t, s + 1, u, i, q, h => by
    cases i with
    | zero => cases h; exact ⟨_, rfl, Or.inl rfl⟩
    | succ i =>
      obtain ⟨q', h1, h2⟩ := amL_at t s u i q h
      exact ⟨q', h1, h2.imp id (fun h => ⟨by omega, h.2⟩)⟩
theorem amU_ok {ρ : Nat → Int} {en : List aQ} {s : Nat} {u : Int} (h : aEnOk ρ en) (hu : ρ s ≤ u) : aEnOk ρ (amU en s u) := by
  refine ⟨h.1, fun i q hi => ?_⟩
  obtain ⟨q', h1, h2⟩ := amU_at en s u i q hi
  have h3 := h.2 i q' h1
  rcases h2 with rfl | ⟨rfl, rfl⟩
  · exact h3
  · exact ⟨h3.1, imin_c h3.2 hu⟩
theorem amL_ok {ρ : Nat → Int} {en : List aQ} {s : Nat} {u : Int} (h : aEnOk ρ en) (hu : u ≤ ρ s) : aEnOk ρ (amL en s u) := by
  refine ⟨h.1, fun i q hi => ?_⟩
  obtain ⟨q', h1, h2⟩ := amL_at en s u i q hi
  have h3 := h.2 i q' h1
  rcases h2 with rfl | ⟨rfl, rfl⟩
  · exact h3
  · exact ⟨imax_c h3.1 hu, h3.2⟩
def aneg (op : Nat) : Nat := match op with
  | 0 => 1
  | 1 => 0
  | 2 => 3
  | 3 => 2
  | 4 => 5
  | _ => 4
/-- the bounds of a, other than b's only value -/
noncomputable def aoff (en : List aQ) (a : aN) (p q : aQ) : List aQ := bif ieq q.1 q.2 then (bif ieq p.1 q.1 then amL en a.1 (q.1 + 1 - a.2) else bif ieq p.2 q.1 then amU en a.1 (q.1 - 1 - a.2) else en) else en
noncomputable def aref (op : Nat) (en : List aQ) (a b : aN) (p q : aQ) : List aQ := match op with
  | 0 => amL (amU (amL (amU en a.1 (q.2 - a.2)) a.1 (q.1 - a.2)) b.1 (p.2 - b.2)) b.1 (p.1 - b.2)
  | 1 => aoff (aoff en a p q) b q p
  | 2 => amL (amU en a.1 (q.2 - 1 - a.2)) b.1 (p.1 + 1 - b.2)
  | 3 => amU (amL en a.1 (q.1 - a.2)) b.1 (p.2 - b.2)
  | 4 => amU (amL en a.1 (q.1 + 1 - a.2)) b.1 (p.2 - 1 - b.2)
  | _ => amL (amU en a.1 (q.2 - a.2)) b.1 (p.1 - b.2)
theorem aoff_len {en : List aQ} {a : aN} {p q : aQ} : (aoff en a p q).length = en.length := by
  unfold aoff
  cases ieq q.1 q.2 with
  | false => rfl
  | true =>
    cases ieq p.1 q.1 with
    | true => exact amL_len _ _ _
    | false =>
      cases ieq p.2 q.1 with
      | true => exact amU_len _ _ _
      | false => rfl
theorem aoff_ok {ρ : Nat → Int} {en : List aQ} {a : aN} {p q : aQ} {x y : Int} (h : aEnOk ρ en) (hx : x = ρ a.1 + a.2) (h1 : p.1 ≤ x ∧ x ≤ p.2) (h2 : q.1 ≤ y ∧ y ≤ q.2) (hne : ¬ x = y) : aEnOk ρ (aoff en a p q) := by
  unfold aoff
  cases h3 : ieq q.1 q.2 with
  | false => exact h
  | true =>
    have h3 := ieq_ok h3
    cases h4 : ieq p.1 q.1 with
    | true => have h4 := ieq_ok h4; exact amL_ok h (by omega)
    | false =>
      cases h5 : ieq p.2 q.1 with
      | true => have h5 := ieq_ok h5; exact amU_ok h (by omega)
      | false => exact h
theorem aref_len {op : Nat} {en : List aQ} {a b : aN} {p q : aQ} : (aref op en a b p q).length = en.length := by
  unfold aref
  split
  · rw [amL_len, amU_len, amL_len, amU_len]
  · rw [aoff_len, aoff_len]
  · rw [amL_len, amU_len]
  · rw [amU_len, amL_len]
  · rw [amU_len, amL_len]
  · rw [amL_len, amU_len]
theorem aref_ok {ρ : Nat → Int} {op : Nat} {en : List aQ} {a b : aN} {p q : aQ} {x y : Int32} (h : aEnOk ρ en) (hx : x.toInt = ρ a.1 + a.2) (hy : y.toInt = ρ b.1 + b.2) (h1 : p.1 ≤ x.toInt ∧ x.toInt ≤ p.2) (h2 : q.1 ≤ y.toInt ∧ y.toInt ≤ q.2) (hc : xcmpP op x y) : aEnOk ρ (aref op en a b p q) := by
  unfold xcmpP at hc
  unfold aref
  split at hc
  · subst hc
    exact amL_ok (amU_ok (amL_ok (amU_ok h (by omega)) (by omega)) (by omega)) (by omega)
  · have hne : ¬ x.toInt = y.toInt := fun e => hc (Int32.toInt_inj.mp e)
    exact aoff_ok (aoff_ok h hx h1 h2 hne) hy h2 h1 (fun e => hne e.symm)
  · have := Int32.lt_iff_toInt_lt.mp hc
    exact amL_ok (amU_ok h (by omega)) (by omega)
  · have := Int32.le_iff_toInt_le.mp hc
    exact amU_ok (amL_ok h (by omega)) (by omega)
  · have := Int32.lt_iff_toInt_lt.mp hc
    exact amU_ok (amL_ok h (by omega)) (by omega)
  · rename_i h0 h1 h2 h3 h4
    have := Int32.le_iff_toInt_le.mp hc
    split <;> first | exact amL_ok (amU_ok h (by omega)) (by omega) | (exfalso; first | exact h0 rfl | exact h1 rfl | exact h2 rfl | exact h3 rfl | exact h4 rfl)
theorem aneg_ok {op : Nat} {x y : Int32} (h : ¬ xcmpP op x y) : xcmpP (aneg op) x y := by
  unfold xcmpP at h
  split at h
  · exact h
  · exact Classical.not_not.mp h
  · exact Int32.not_lt.mp h
  · exact Int32.not_le.mp h
  · exact Int32.not_lt.mp h
  · rename_i h0 h1 h2 h3 h4
    have e : aneg op = 4 := by
      unfold aneg
      split <;> first | rfl | (exfalso; first | exact h0 rfl | exact h1 rfl | exact h2 rfl | exact h3 rfl | exact h4 rfl)
    rw [e]
    exact Int32.not_le.mp h
noncomputable def afeas (en : List aQ) (s : Nat) : Bool := match xget en s with
  | some q => ile q.1 q.2
  | none => true
theorem afeas_ok {ρ : Nat → Int} {en : List aQ} (h : aEnOk ρ en) (s : Nat) : afeas en s = true := by
  unfold afeas
  rw [xget_eq]
  cases hq : en[s]? with
  | none => rfl
  | some q =>
    have := h.2 s q hq
    cases hi : ile q.1 q.2 with
    | true => exact hi
    | false => have := ile_no hi; omega
/-- one side of a branch: nothing, where it can't be -/
noncomputable def abr (op t : Nat) (A : aS) (x y : aN) (S : List aV) : List (Nat × aS) :=
  bif afeas (aref op A.1 x y (aiv A.1 x) (aiv A.1 y)) x.1 && afeas (aref op A.1 x y (aiv A.1 x) (aiv A.1 y)) y.1 then [(t, aref op A.1 x y (aiv A.1 x) (aiv A.1 y), A.2.1, A.2.2.1, S, A.2.2.2.2)] else []
noncomputable def a_icmp (op t n : Nat) : aF := fun A => match A.2.2.2.1 with
  | .inl y :: .inl x :: S => some (abr op t A x y S ++ abr (aneg op) n A x y S)
  | _ => none
noncomputable def a_if (op t n : Nat) : aF := fun A => match A.2.2.2.1 with
  | .inl x :: S => some (abr op t A x (0, 0) S ++ abr (aneg op) n A x (0, 0) S)
  | _ => none
section A3
variable {g : zG} {T : aT} {Inv : zI → Prop} {fl : Bool × Bool} {I0 : zI}
theorem aG_en {ρ : Nat → Int} {A : aS} {L : zL} {S S0 : List zV} {I : zI} {B : Nat × Nat} (h : aG g T Inv fl I0 ρ A L S I B) {en : List aQ} {AS : List aV} (he : aEnOk ρ en) (hl : en.length = A.1.length) (hS : aSOk g ρ A.1.length AS S0) : aG g T Inv fl I0 ρ (en, A.2.1, A.2.2.1, AS, A.2.2.2.2) L S0 I B := by
  obtain ⟨e1, e2, e3, e4, e5, e6⟩ := h
  refine ⟨he, ?_, ?_, ?_, ?_, e6⟩
  · show aTgOk T ρ en.length _; rw [hl]; exact e2
  · show aLOk g ρ en.length _ _; rw [hl]; exact e3
  · show aSOk g ρ en.length _ _; rw [hl]; exact hS
  · show aFOk ρ en.length _ _; rw [hl]; exact e5
theorem abr_ok {ρ : Nat → Int} {A : aS} {L : zL} {S S0 : List zV} {I : zI} {B : Nat × Nat} (h : aG g T Inv fl I0 ρ A L S I B) {op t : Nat} {a b : aN} {x y : Int32} {AS : List aV} (hS : aSOk g ρ A.1.length AS S0) (hx : x.toInt = ρ a.1 + a.2) (hy : y.toInt = ρ b.1 + b.2) (hc : xcmpP op x y) : ∃ A', (t, A') ∈ abr op t A a b AS ∧ A'.1.length = A.1.length ∧ aG g T Inv fl I0 ρ A' L S0 I B := by
  have he := aref_ok h.1 hx hy (aiv_ok h.1 hx) (aiv_ok h.1 hy) hc
  refine ⟨_, ?_, aref_len, aG_en h he aref_len hS⟩
  unfold abr
  rw [afeas_ok he, afeas_ok he]
  exact List.mem_cons_self
theorem as_icmp {op t n : Nat} : aSnd g T Inv fl (z_icmp op t n) (a_icmp op t n) := by
  intro I0 A outs h ρ L S I B h0 hA K hK
  unfold a_icmp at h
  split at h
  · rename_i b a S1 hS1
    cases h
    have hS := hA.2.2.2.1
    rw [hS1] at hS
    obtain ⟨z, S', rfl, ⟨h3, y, rfl, h4⟩, z2, S2, rfl, ⟨h5, x, rfl, h6⟩, h7⟩ := hS
    refine ⟨fun hc => ?_, fun hc => ?_⟩
    · obtain ⟨A', q1, q2, q3⟩ := abr_ok (t := t) hA h7 h6 h4 hc
      exact hK t A' (List.mem_append_left _ q1) ρ _ _ _ _ aAg_rf (by omega) q3
    · obtain ⟨A', q1, q2, q3⟩ := abr_ok (t := n) hA h7 h6 h4 (aneg_ok hc)
      exact hK n A' (List.mem_append_right _ q1) ρ _ _ _ _ aAg_rf (by omega) q3
  · cases h
theorem as_if {op t n : Nat} : aSnd g T Inv fl (z_if op t n) (a_if op t n) := by
  intro I0 A outs h ρ L S I B h0 hA K hK
  unfold a_if at h
  split at h
  · rename_i a S1 hS1
    cases h
    have hS := hA.2.2.2.1
    rw [hS1] at hS
    obtain ⟨z2, S2, rfl, ⟨h5, x, rfl, h6⟩, h7⟩ := hS
    have h4 : (0 : Int32).toInt = ρ ((0, 0) : aN).1 + ((0, 0) : aN).2 := by
      show (0 : Int32).toInt = ρ 0 + 0
      rw [hA.1.1]
      decide
    refine ⟨fun hc => ?_, fun hc => ?_⟩
    · obtain ⟨A', q1, q2, q3⟩ := abr_ok (t := t) hA h7 h6 h4 hc
      exact hK t A' (List.mem_append_left _ q1) ρ _ _ _ _ aAg_rf (by omega) q3
    · obtain ⟨A', q1, q2, q3⟩ := abr_ok (t := n) hA h7 h6 h4 (aneg_ok hc)
      exact hK n A' (List.mem_append_right _ q1) ρ _ _ _ _ aAg_rf (by omega) q3
  · cases h
end A3
