/-! ===== AN INTERPRETER: abstract values, cells, worlds ===== -/
/-- an int by an interval (offset by 2^31), a reference by its cell's number (none: null), 0: some long, 1 and on: the script -/
abbrev xV : Type := (Nat × Nat) ⊕ (Option Nat ⊕ Nat)
/-- a primitive array (kind, length, what stands where nothing was put, what was put), an array of references, an object (class, fields) -/
abbrev xE : Type := (Nat × Nat × (Nat × Nat) × List (Nat × Nat × Nat)) ⊕ ((Nat × Nat × List (Nat × Nat)) ⊕ (Nat × List xV))
/-- slots made, cells made, the cells in rows of sixteen -/
abbrev xW : Type := Nat × Nat × List (List (Option xE))
abbrev xC : Type := Nat → List xV → xW → Option (Option xV × xW)
abbrev xS : Type := Nat × List (Option xV) × List xV × xW
abbrev xF : Type := xC → List (Option xV) → List xV → xW → Option xS
noncomputable def xget {α : Type} (l : List α) : Nat → Option α := List.rec (fun _ => none) (fun a _ ih n => Nat.rec (some a) (fun m _ => ih m) n) l
noncomputable def xset {α : Type} (v : α) (l : List α) : Nat → List α := List.rec (fun _ => []) (fun a t ih n => Nat.rec (v :: t) (fun m _ => a :: ih m) n) l
theorem xget_eq {α : Type} : ∀ (l : List α) (n : Nat), xget l n = l[n]?
  | [], n => by simp [xget]
  | a :: l, 0 => rfl
  | a :: l, n + 1 => by
    have h := xget_eq l n
    simp only [List.getElem?_cons_succ]
    rw [← h]
    rfl
theorem xset_eq {α : Type} (v : α) : ∀ (l : List α) (n : Nat), xset v l n = l.set n v
  | [], n => by simp [xset]
  | a :: l, 0 => rfl
  | a :: l, n + 1 => by
    have h := xset_eq v l n
    simp only [List.set_cons_succ]
    rw [← h]
    rfl
/-- a cell -/
noncomputable def xwg (w : xW) (k : Nat) : Option xE := match xget w.2.2 (k / 16) with
  | none => none
  | some r => match xget r (k % 16) with
    | none => none
    | some o => o
/-- another content of a cell -/
noncomputable def xws (w : xW) (k : Nat) (e : xE) : xW := match xget w.2.2 (k / 16) with
  | none => w
  | some r => (w.1, w.2.1, xset (xset (some e) r (k % 16)) w.2.2 (k / 16))
/-- a new cell of n slots; none if there is no place -/
noncomputable def xwp (w : xW) (e : xE) (n : Nat) : Option xW := match xget w.2.2 (w.2.1 / 16) with
  | none => none
  | some r => match xget r (w.2.1 % 16) with
    | some none => some (w.1 + n, w.2.1 + 1, xset (xset (some e) r (w.2.1 % 16)) w.2.2 (w.2.1 / 16))
    | _ => none
theorem xwg_set {w : xW} {k j : Nat} {e e0 : xE} (h : xwg w k = some e0) : xwg (xws w k e) j = if j = k then some e else xwg w j := by
  unfold xwg at h
  cases hr : xget w.2.2 (k / 16) with
  | none => simp [hr] at h
  | some r =>
    simp only [hr] at h
    cases ho : xget r (k % 16) with
    | none => simp [ho] at h
    | some o =>
      simp only [xws, hr]
      unfold xwg
      simp only [xget_eq, xset_eq] at *
      have l1 : k / 16 < w.2.2.length := (List.getElem?_eq_some_iff.mp hr).1
      have l2 : k % 16 < r.length := (List.getElem?_eq_some_iff.mp ho).1
      by_cases hjk : j = k
      · subst hjk
        simp [List.getElem?_set_self l1, List.getElem?_set_self l2]
      · by_cases hd : j / 16 = k / 16
        · have hm : k % 16 ≠ j % 16 := by omega
          simp [hd, List.getElem?_set_self l1, List.getElem?_set_ne hm, hjk, hr]
        · simp [List.getElem?_set_ne (Ne.symm hd), hjk]
theorem xwg_push {w w' : xW} {j n : Nat} {e : xE} (h : xwp w e n = some w') : w'.1 = w.1 + n ∧ w'.2.1 = w.2.1 + 1 ∧ xwg w' j = if j = w.2.1 then some e else xwg w j := by
  unfold xwp at h
  cases hr : xget w.2.2 (w.2.1 / 16) with
  | none => simp [hr] at h
  | some r =>
    simp only [hr] at h
    cases ho : xget r (w.2.1 % 16) with
    | none => simp [ho] at h
    | some o =>
      cases o with
      | some o => simp [ho] at h
      | none =>
        simp only [ho, Option.some.injEq] at h
        subst h
        refine ⟨rfl, rfl, ?_⟩
        unfold xwg
        simp only [xget_eq, xset_eq] at *
        have l1 : w.2.1 / 16 < w.2.2.length := (List.getElem?_eq_some_iff.mp hr).1
        have l2 : w.2.1 % 16 < r.length := (List.getElem?_eq_some_iff.mp ho).1
        by_cases hjk : j = w.2.1
        · subst hjk
          simp [List.getElem?_set_self l1, List.getElem?_set_self l2]
        · by_cases hd : j / 16 = w.2.1 / 16
          · have hm : w.2.1 % 16 ≠ j % 16 := by omega
            simp [hd, List.getElem?_set_self l1, List.getElem?_set_ne hm, hjk, hr]
          · simp [List.getElem?_set_ne (Ne.symm hd), hjk]
theorem xws_nums (w : xW) (k : Nat) (e : xE) : (xws w k e).1 = w.1 ∧ (xws w k e).2.1 = w.2.1 := by
  unfold xws
  cases xget w.2.2 (k / 16) <;> exact ⟨rfl, rfl⟩
theorem xbeqF {a b : Nat} (h : ¬ a = b) : Nat.beq a b = false := by
  cases hc : Nat.beq a b with
  | false => rfl
  | true => exact absurd (Nat.eq_of_beq_eq_true hc) h
/-- what stands in an array -/
noncomputable def xlk (us : List (Nat × Nat × Nat)) (d : Nat × Nat) (j : Nat) : Nat × Nat := List.rec d (fun q _ ih => bif Nat.beq q.1 j then q.2 else ih) us
noncomputable def xlp (us : List (Nat × Nat × Nat)) (j : Nat) (v : Nat × Nat) : List (Nat × Nat × Nat) := List.rec [(j, v)] (fun q t ih => bif Nat.beq q.1 j then (j, v) :: t else q :: ih) us
theorem xlk_put (d : Nat × Nat) (j : Nat) (v : Nat × Nat) (i : Nat) : ∀ us : List (Nat × Nat × Nat), xlk (xlp us j v) d i = if i = j then v else xlk us d i
  | [] => by
    show (bif Nat.beq j i then v else d) = _
    by_cases h : i = j
    · subst h; simp
    · have : Nat.beq j i = false := xbeqF (Ne.symm h)
      simp [this, h, xlk]
  | q :: us => by
    have ih := xlk_put d j v i us
    show xlk (bif Nat.beq q.1 j then (j, v) :: us else q :: xlp us j v) d i = _
    by_cases hq : q.1 = j
    · have e : Nat.beq q.1 j = true := by simpa using hq
      rw [e]
      show (bif Nat.beq j i then v else xlk us d i) = if i = j then v else (bif Nat.beq q.1 i then q.2 else xlk us d i)
      by_cases h : i = j
      · subst h; simp
      · have e1 : Nat.beq j i = false := xbeqF (Ne.symm h)
        have e2 : Nat.beq q.1 i = false := by rw [hq]; exact e1
        simp [e1, e2, h]
    · have e : Nat.beq q.1 j = false := xbeqF hq
      rw [e]
      show (bif Nat.beq q.1 i then q.2 else xlk (xlp us j v) d i) = if i = j then v else (bif Nat.beq q.1 i then q.2 else xlk us d i)
      rw [ih]
      by_cases h : i = j
      · subst h
        simp [e]
      · simp [h]
noncomputable def xlq (us : List (Nat × Nat)) (j : Nat) : Option Nat := List.rec none (fun q _ ih => bif Nat.beq q.1 j then some q.2 else ih) us
/-! ints, offset by 2^31 -/
def xo (x : Int32) : Nat := (x.toInt + 2147483648).toNat
def xi (o : Nat) : Int32 := Int32.ofInt ((o : Int) - 2147483648)
theorem xo_int (x : Int32) : (xo x : Int) = x.toInt + 2147483648 := by
  have h1 := Int32.minValue_le_toInt x
  have h2 : Int32.minValue.toInt = -2147483648 := by decide
  rw [h2] at h1
  unfold xo
  omega
theorem xo_lt (x : Int32) : xo x < 4294967296 := by
  have h1 := x.toInt_lt
  have h := xo_int x
  omega
theorem xi_xo (x : Int32) : xi (xo x) = x := by
  unfold xi
  rw [xo_int, show x.toInt + 2147483648 - 2147483648 = x.toInt by omega]
  exact Int32.ofInt_toInt x
theorem xo_inj {x y : Int32} (h : xo x = xo y) : x = y := by rw [← xi_xo x, h, xi_xo]
theorem xo_xi {o : Nat} (h : o < 4294967296) : xo (xi o) = o := by
  have h1 : (xi o).toInt = (o : Int) - 2147483648 := Int32.toInt_ofInt_of_le (by omega) (by omega)
  have h2 := xo_int (xi o)
  omega
theorem xo_lt_iff {x y : Int32} : x < y ↔ xo x < xo y := by
  rw [Int32.lt_iff_toInt_lt]
  have h1 := xo_int x
  have h2 := xo_int y
  omega
theorem xo_le_iff {x y : Int32} : x ≤ y ↔ xo x ≤ xo y := by
  rw [Int32.le_iff_toInt_le]
  have h1 := xo_int x
  have h2 := xo_int y
  omega
theorem xo_zero : xo 0 = 2147483648 := by decide +kernel
theorem xo_nat {n : Nat} (h : n < 2147483648) : xo (Int32.ofNat n) = n + 2147483648 := by
  have h1 : (Int32.ofNat n).toInt = (n : Int) := Int32.toInt_ofNat_of_lt (by omega)
  have h2 := xo_int (Int32.ofNat n)
  omega
theorem xo_clamp {x : Int32} (h : 2147483648 ≤ xo x) : x.toNatClampNeg = xo x - 2147483648 := by
  have h2 := xo_int x
  show x.toInt.toNat = _
  omega
theorem xo_in {x : Int32} {n : Nat} (h : 2147483648 ≤ xo x) (h2 : xo x < n + 2147483648) : vp_in x n := by
  rw [vp_in_iff]
  have h3 := xo_int x
  omega
theorem xo_add (x y : Int32) : xo (x + y) = (xo x + xo y + 2147483648) % 4294967296 := by
  have h := xo_int (x + y)
  have h1 := xo_int x
  have h2 := xo_int y
  have h3 := xo_lt (x + y)
  rw [Int32.toInt_add] at h
  have e : (x.toInt + y.toInt).bmod (2 ^ 32) = (xo x + xo y - 4294967296 : Int).bmod 4294967296 := by
    congr 1; omega
  rw [e, Int.bmod_def] at h
  omega
theorem xo_sub (x y : Int32) : xo (x - y) = (xo x + 6442450944 - xo y) % 4294967296 := by
  have h := xo_int (x - y)
  have h1 := xo_int x
  have h2 := xo_int y
  have h3 := xo_lt (x - y)
  have h4 := xo_lt y
  rw [Int32.toInt_sub] at h
  have e : (x.toInt - y.toInt).bmod (2 ^ 32) = (xo x - xo y : Int).bmod 4294967296 := by
    congr 1; omega
  rw [e, Int.bmod_def] at h
  omega
/-! intervals -/
def xRI (a : Nat × Nat) (x : Int32) : Prop := a.1 ≤ xo x ∧ xo x ≤ a.2
theorem xRI_top (x : Int32) : xRI (0, 4294967295) x := ⟨Nat.zero_le _, by have := xo_lt x; show xo x ≤ 4294967295; omega⟩
theorem xRI_c (x : Int32) : xRI (xo x, xo x) x := ⟨Nat.le_refl _, Nat.le_refl _⟩
def xbin (f : Nat → Nat → Nat) (a b : Nat × Nat) : Nat × Nat := bif (Nat.beq a.1 a.2 && Nat.beq b.1 b.2) then (f a.1 b.1, f a.1 b.1) else (0, 4294967295)
theorem xbin_ok {f : Nat → Nat → Nat} {a b : Nat × Nat} {x y z : Int32} (hx : xRI a x) (hy : xRI b y) (h : xo z = f (xo x) (xo y)) : xRI (xbin f a b) z := by
  unfold xbin
  cases hc : (Nat.beq a.1 a.2 && Nat.beq b.1 b.2) with
  | false => exact xRI_top z
  | true =>
    simp only [Bool.and_eq_true, Nat.beq_eq] at hc
    have e1 : a.1 = xo x := Nat.le_antisymm hx.1 (by rw [hc.1]; exact hx.2)
    have e2 : b.1 = xo y := Nat.le_antisymm hy.1 (by rw [hc.2]; exact hy.2)
    show xRI (f a.1 b.1, f a.1 b.1) z
    rw [e1, e2, ← h]
    exact xRI_c z
def xun (f : Nat → Nat) (a : Nat × Nat) : Nat × Nat := bif Nat.beq a.1 a.2 then (f a.1, f a.1) else (0, 4294967295)
theorem xun_ok {f : Nat → Nat} {a : Nat × Nat} {x z : Int32} (hx : xRI a x) (h : xo z = f (xo x)) : xRI (xun f a) z := by
  unfold xun
  cases hc : Nat.beq a.1 a.2 with
  | false => exact xRI_top z
  | true =>
    have hc := Nat.eq_of_beq_eq_true hc
    have e1 : a.1 = xo x := Nat.le_antisymm hx.1 (by rw [hc]; exact hx.2)
    show xRI (f a.1, f a.1) z
    rw [e1, ← h]
    exact xRI_c z
def xfadd (a b : Nat) : Nat := (a + b + 2147483648) % 4294967296
def xfsub (a b : Nat) : Nat := (a + 6442450944 - b) % 4294967296
def xfg (g : Int32 → Int32 → Int32) (a b : Nat) : Nat := xo (g (xi a) (xi b))
theorem xfg_ok (g : Int32 → Int32 → Int32) (x y : Int32) : xo (g x y) = xfg g (xo x) (xo y) := by unfold xfg; rw [xi_xo, xi_xo]
/-- a comparison: 0 eq, 1 ne, 2 lt, 3 ge, 4 gt, 5 le; none: not decided -/
def xcmp (op : Nat) (a b : Nat × Nat) : Option Bool := match op with
  | 0 => bif Nat.blt a.2 b.1 || Nat.blt b.2 a.1 then some false else bif Nat.beq a.1 a.2 && (Nat.beq b.1 b.2 && Nat.beq a.1 b.1) then some true else none
  | 1 => bif Nat.blt a.2 b.1 || Nat.blt b.2 a.1 then some true else bif Nat.beq a.1 a.2 && (Nat.beq b.1 b.2 && Nat.beq a.1 b.1) then some false else none
  | 2 => bif Nat.blt a.2 b.1 then some true else bif Nat.ble b.2 a.1 then some false else none
  | 3 => bif Nat.blt a.2 b.1 then some false else bif Nat.ble b.2 a.1 then some true else none
  | 4 => bif Nat.blt b.2 a.1 then some true else bif Nat.ble a.2 b.1 then some false else none
  | _ => bif Nat.blt b.2 a.1 then some false else bif Nat.ble a.2 b.1 then some true else none
def xcmpP (op : Nat) (x y : Int32) : Prop := match op with
  | 0 => x = y
  | 1 => ¬ x = y
  | 2 => x < y
  | 3 => y ≤ x
  | 4 => y < x
  | _ => x ≤ y
theorem xblt {a b : Nat} (h : Nat.blt a b = true) : a < b := Nat.le_of_ble_eq_true h
theorem xble {a b : Nat} (h : Nat.ble a b = true) : a ≤ b := Nat.le_of_ble_eq_true h
theorem xcmp_ok {op : Nat} {a b : Nat × Nat} {x y : Int32} {r : Bool} (hx : xRI a x) (hy : xRI b y) (h : xcmp op a b = some r) : (r = true → xcmpP op x y) ∧ (r = false → ¬ xcmpP op x y) := by
  obtain ⟨x1, x2⟩ := hx
  obtain ⟨y1, y2⟩ := hy
  have eqn : x = y ↔ xo x = xo y := ⟨fun q => by rw [q], xo_inj⟩
  have key : ∀ c d : Bool, ∀ u v : Bool, (bif c then some u else bif d then some v else none) = some r → (c = true ∧ r = u) ∨ (c = false ∧ d = true ∧ r = v) := by
    intro c d u v h
    cases c <;> cases d <;> simp_all
  match op, h with
  | 0, h =>
    rcases key _ _ _ _ h with ⟨c, rfl⟩ | ⟨-, d, rfl⟩
    · refine ⟨fun q => (by cases q), fun _ => ?_⟩
      show ¬ x = y
      rw [eqn]
      simp only [Bool.or_eq_true] at c
      rcases c with c | c <;> have := xblt c <;> omega
    · refine ⟨fun _ => ?_, fun q => by cases q⟩
      show x = y
      rw [eqn]
      simp only [Bool.and_eq_true, Nat.beq_eq] at d
      omega
  | 1, h =>
    rcases key _ _ _ _ h with ⟨c, rfl⟩ | ⟨-, d, rfl⟩
    · refine ⟨fun _ => ?_, fun q => by cases q⟩
      show ¬ x = y
      rw [eqn]
      simp only [Bool.or_eq_true] at c
      rcases c with c | c <;> have := xblt c <;> omega
    · refine ⟨fun q => (by cases q), fun _ => ?_⟩
      show ¬ ¬ x = y
      rw [eqn]
      simp only [Bool.and_eq_true, Nat.beq_eq] at d
      omega
  | 2, h =>
    rcases key _ _ _ _ h with ⟨c, rfl⟩ | ⟨-, d, rfl⟩
    · refine ⟨fun _ => ?_, fun q => by cases q⟩
      show x < y
      rw [xo_lt_iff]; have := xblt c; omega
    · refine ⟨fun q => (by cases q), fun _ => ?_⟩
      show ¬ x < y
      rw [xo_lt_iff]; have := xble d; omega
  | 3, h =>
    rcases key _ _ _ _ h with ⟨c, rfl⟩ | ⟨-, d, rfl⟩
    · refine ⟨fun q => (by cases q), fun _ => ?_⟩
      show ¬ y ≤ x
      rw [xo_le_iff]; have := xblt c; omega
    · refine ⟨fun _ => ?_, fun q => by cases q⟩
      show y ≤ x
      rw [xo_le_iff]; have := xble d; omega
  | 4, h =>
    rcases key _ _ _ _ h with ⟨c, rfl⟩ | ⟨-, d, rfl⟩
    · refine ⟨fun _ => ?_, fun q => by cases q⟩
      show y < x
      rw [xo_lt_iff]; have := xblt c; omega
    · refine ⟨fun q => (by cases q), fun _ => ?_⟩
      show ¬ y < x
      rw [xo_lt_iff]; have := xble d; omega
  | n + 5, h =>
    rcases key _ _ _ _ h with ⟨c, rfl⟩ | ⟨-, d, rfl⟩
    · refine ⟨fun q => (by cases q), fun _ => ?_⟩
      show ¬ x ≤ y
      rw [xo_le_iff]; have := xblt c; omega
    · refine ⟨fun _ => ?_, fun q => by cases q⟩
      show x ≤ y
      rw [xo_le_iff]; have := xble d; omega
