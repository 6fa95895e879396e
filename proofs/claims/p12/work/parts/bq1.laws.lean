/-! ===== LAWS: what an expression's tokens print, what it is worth ===== -/
def opc (x : Int) : Int := if x = 43 then 2 else if x = 45 then 3 else if x = 42 then 4 else 5
/-- signs that wait are printed, up to an open bracket (s: up to a sum's sign too) -/
def popW (s : Bool) : List Int → List kOp × List Int
  | [] => ([], [])
  | x :: w => if x = 40 ∨ (s = true ∧ (x = 43 ∨ x = 45)) then ([], x :: w) else ((opc x, 0) :: (popW s w).1, (popW s w).2)
def isStr (x : Int) : Bool := decide (x = 42 ∨ x = 47)
/-- what an expression prints from token a on, at depth d; m: a unit stands behind us; w: the signs that wait -/
def ysF (K vl : Int → Int) : Nat → Int → Int → Bool → List Int → List kOp
  | 0, _, _, _, _ => []
  | n + 1, a, d, false, w =>
    if K a = 40 then (if d = 6 ∨ a = 400 then [] else ysF K vl n (a + 1) (d + 1) false (40 :: w))
    else if K a = 3 then (0, vl a) :: (if a = 400 then [] else ysF K vl n (a + 1) d true w)
    else if 140 ≤ K a then (1, K a - 140) :: (if a = 400 then [] else ysF K vl n (a + 1) d true w)
    else []
  | n + 1, a, d, true, w =>
    if K a = 41 ∧ 0 < d then (popW false w).1 ++ (if a = 400 then [] else ysF K vl n (a + 1) (d - 1) true (popW false w).2.tail)
    else if K a = 43 ∨ K a = 45 ∨ K a = 42 ∨ K a = 47 then (popW (isStr (K a)) w).1 ++ (if a = 400 then [] else ysF K vl n (a + 1) d false (K a :: (popW (isStr (K a)) w).2))
    else (popW false w).1
def ys (K vl : Int → Int) (a d : Int) (m : Bool) (w : List Int) : List kOp := ysF K vl (401 - a).toNat a d m w
section YS
variable {K vl : Int → Int} {a d : Int} {w : List Int}
theorem ys_open (_ : 0 ≤ a) (h1 : a ≤ 399) (hk : K a = 40) (hd : ¬ d = 6) : ys K vl a d false w = ys K vl (a + 1) (d + 1) false (40 :: w) := by
  unfold ys
  rw [show (401 - a).toNat = (401 - (a + 1)).toNat + 1 by omega]
  show (if K a = 40 then _ else _) = _
  rw [if_pos hk, if_neg (by omega)]
theorem ys_int (_ : 0 ≤ a) (h1 : a ≤ 399) (hk : K a = 3) : ys K vl a d false w = (0, vl a) :: ys K vl (a + 1) d true w := by
  unfold ys
  rw [show (401 - a).toNat = (401 - (a + 1)).toNat + 1 by omega]
  show (if K a = 40 then _ else if K a = 3 then _ else _) = _
  rw [if_neg (by omega), if_pos hk, if_neg (by omega)]
theorem ys_var (_ : 0 ≤ a) (h1 : a ≤ 399) (hk : 140 ≤ K a) : ys K vl a d false w = (1, K a - 140) :: ys K vl (a + 1) d true w := by
  unfold ys
  rw [show (401 - a).toNat = (401 - (a + 1)).toNat + 1 by omega]
  show (if K a = 40 then _ else if K a = 3 then _ else if 140 ≤ K a then _ else _) = _
  rw [if_neg (by omega), if_neg (by omega), if_pos hk, if_neg (by omega)]
theorem ys_close (_ : 0 ≤ a) (h1 : a ≤ 399) (hk : K a = 41) (hd : 0 < d) : ys K vl a d true w = (popW false w).1 ++ ys K vl (a + 1) (d - 1) true (popW false w).2.tail := by
  unfold ys
  rw [show (401 - a).toNat = (401 - (a + 1)).toNat + 1 by omega]
  show (if K a = 41 ∧ 0 < d then _ else _) = _
  rw [if_pos ⟨hk, hd⟩, if_neg (by omega)]
theorem ys_sign (_ : 0 ≤ a) (h1 : a ≤ 399) (hk : K a = 43 ∨ K a = 45 ∨ K a = 42 ∨ K a = 47) : ys K vl a d true w = (popW (isStr (K a)) w).1 ++ ys K vl (a + 1) d false (K a :: (popW (isStr (K a)) w).2) := by
  unfold ys
  rw [show (401 - a).toNat = (401 - (a + 1)).toNat + 1 by omega]
  show (if K a = 41 ∧ 0 < d then _ else if K a = 43 ∨ K a = 45 ∨ K a = 42 ∨ K a = 47 then _ else _) = _
  rw [if_neg (by omega), if_pos hk, if_neg (by omega)]
theorem ys_end (h0 : 0 ≤ a) (h1 : a ≤ 400) (hk : ¬ (K a = 43 ∨ K a = 45 ∨ K a = 42 ∨ K a = 47)) (hd : ¬ (K a = 41 ∧ 0 < d)) : ys K vl a d true w = (popW false w).1 := by
  unfold ys
  rw [show (401 - a).toNat = (401 - (a + 1)).toNat + 1 by omega]
  show (if K a = 41 ∧ 0 < d then _ else if K a = 43 ∨ K a = 45 ∨ K a = 42 ∨ K a = 47 then _ else _) = _
  rw [if_neg hd, if_neg hk]
/-- a strong sign that waits is printed whatever comes -/
theorem ys_strong {x : Int} (h0 : 0 ≤ a) (h1 : a ≤ 400) (hx : x = 42 ∨ x = 47) : ys K vl a d true (x :: w) = (opc x, 0) :: ys K vl a d true w := by
  have pp : ∀ s, popW s (x :: w) = ((opc x, 0) :: (popW s w).1, (popW s w).2) := fun s => by
    show (if x = 40 ∨ (s = true ∧ (x = 43 ∨ x = 45)) then _ else _) = _
    rw [if_neg (by omega)]
  unfold ys
  rw [show (401 - a).toNat = (401 - (a + 1)).toNat + 1 by omega]
  show (if K a = 41 ∧ 0 < d then _ else if K a = 43 ∨ K a = 45 ∨ K a = 42 ∨ K a = 47 then _ else _) = (opc x, 0) :: (if K a = 41 ∧ 0 < d then _ else if K a = 43 ∨ K a = 45 ∨ K a = 42 ∨ K a = 47 then _ else _)
  by_cases c1 : K a = 41 ∧ 0 < d
  · rw [if_pos c1, if_pos c1, pp]; rfl
  · rw [if_neg c1, if_neg c1]
    by_cases c2 : K a = 43 ∨ K a = 45 ∨ K a = 42 ∨ K a = 47
    · rw [if_pos c2, if_pos c2, pp]; rfl
    · rw [if_neg c2, if_neg c2, pp]
/-- a sum's sign that waits is printed where no strong sign comes -/
theorem ys_weak {x : Int} (h0 : 0 ≤ a) (h1 : a ≤ 400) (hx : x = 43 ∨ x = 45) (hk : ¬ (K a = 42 ∨ K a = 47)) : ys K vl a d true (x :: w) = (opc x, 0) :: ys K vl a d true w := by
  have pp : popW false (x :: w) = ((opc x, 0) :: (popW false w).1, (popW false w).2) := by
    show (if x = 40 ∨ (false = true ∧ (x = 43 ∨ x = 45)) then _ else _) = _
    rw [if_neg (fun q => by rcases q with q | ⟨q, -⟩; omega; cases q)]
  have ks : isStr (K a) = false := decide_eq_false hk
  unfold ys
  rw [show (401 - a).toNat = (401 - (a + 1)).toNat + 1 by omega]
  show (if K a = 41 ∧ 0 < d then _ else if K a = 43 ∨ K a = 45 ∨ K a = 42 ∨ K a = 47 then _ else _) = (opc x, 0) :: (if K a = 41 ∧ 0 < d then _ else if K a = 43 ∨ K a = 45 ∨ K a = 42 ∨ K a = 47 then _ else _)
  by_cases c1 : K a = 41 ∧ 0 < d
  · rw [if_pos c1, if_pos c1, pp]; rfl
  · rw [if_neg c1, if_neg c1]
    by_cases c2 : K a = 43 ∨ K a = 45 ∨ K a = 42 ∨ K a = 47
    · rw [if_pos c2, if_pos c2, ks, pp]; rfl
    · rw [if_neg c2, if_neg c2, pp]
end YS
/-- no strong sign waits on top; no sign at all -/
def wTop (w : List Int) : Prop := ∀ x, w.head? = some x → ¬ (x = 42 ∨ x = 47)
def wBot (w : List Int) : Prop := ∀ x, w.head? = some x → x = 40
theorem popW_top {w : List Int} (h : ∀ x, w.head? = some x → x = 40 ∨ x = 43 ∨ x = 45) : popW true w = ([], w) := by
  cases w with
  | nil => rfl
  | cons x w =>
    have := h x rfl
    show (if x = 40 ∨ (true = true ∧ (x = 43 ∨ x = 45)) then _ else _) = _
    rw [if_pos (by rcases this with q | q | q; exact Or.inl q; exact Or.inr ⟨rfl, Or.inl q⟩; exact Or.inr ⟨rfl, Or.inr q⟩)]
theorem popW_bot {w : List Int} (h : wBot w) : popW false w = ([], w) := by
  cases w with
  | nil => rfl
  | cons x w =>
    show (if x = 40 ∨ (false = true ∧ (x = 43 ∨ x = 45)) then _ else _) = _
    rw [if_pos (Or.inl (h x rfl))]
/-! what it is worth -/
abbrev kVr : Type := Nat → Int32
def opV (V : kVr) (o : kOp) (st : List Int32) : Option (List Int32) :=
  if o.1 = 0 then some (Int32.ofInt o.2 :: st) else if o.1 = 1 then some (V o.2.toNat :: st) else match st with
    | b :: a :: st => if o.1 = 5 ∧ b = 0 then none else some ((if o.1 = 2 then a + b else if o.1 = 3 then a - b else if o.1 = 4 then a * b else a / b) :: st)
    | _ => none
def runV (V : kVr) : List kOp → List Int32 → Option (List Int32)
  | [], st => some st
  | o :: C, st => (opV V o st).bind (runV V C)
/-- a machine with sixteen places -/
def opL (V : kVr) (o : kOp) (st : List Int32) : Option (List Int32) := if (o.1 = 0 ∨ o.1 = 1) ∧ 16 ≤ st.length then none else opV V o st
def runL (V : kVr) : List kOp → List Int32 → Option (List Int32)
  | [], st => some st
  | o :: C, st => (opL V o st).bind (runL V C)
def ev (V : kVr) (C : List kOp) : Option Int32 := (runV V C []).bind List.head?
/-- an expression: it leaves one number more, and needs k places -/
def eOk (k : Nat) (C : List kOp) : Prop := ∀ (V : kVr) (st : List Int32), runV V C st = (ev V C).map (· :: st) ∧ (st.length + k ≤ 16 → runL V C st = (ev V C).map (· :: st))
theorem runV_a {V : kVr} : ∀ (C D : List kOp) (st : List Int32), runV V (C ++ D) st = (runV V C st).bind (runV V D)
  | [], D, st => rfl
  | o :: C, D, st => by
    show (opV V o st).bind (runV V (C ++ D)) = ((opV V o st).bind (runV V C)).bind (runV V D)
    cases opV V o st with
    | none => rfl
    | some x => exact runV_a C D x
theorem runL_a {V : kVr} : ∀ (C D : List kOp) (st : List Int32), runL V (C ++ D) st = (runL V C st).bind (runL V D)
  | [], D, st => rfl
  | o :: C, D, st => by
    show (opL V o st).bind (runL V (C ++ D)) = ((opL V o st).bind (runL V C)).bind (runL V D)
    cases opL V o st with
    | none => rfl
    | some x => exact runL_a C D x
theorem eOk_mono {k l : Nat} {C : List kOp} (h : k ≤ l) (hC : eOk k C) : eOk l C := fun V st => ⟨(hC V st).1, fun q => (hC V st).2 (by omega)⟩
theorem eOk_int {v : Int} : eOk 1 [(0, v)] := fun V st => ⟨rfl, fun q => by
  show (opL V (0, v) st).bind (fun x => some x) = some (Int32.ofInt v :: st)
  unfold opL
  rw [if_neg (by omega)]
  rfl⟩
theorem eOk_var {v : Int} : eOk 1 [(1, v)] := fun V st => ⟨rfl, fun q => by
  show (opL V (1, v) st).bind (fun x => some x) = some (V v.toNat :: st)
  unfold opL
  rw [if_neg (by omega)]
  rfl⟩
theorem eOk_bin {k1 k2 k : Nat} {o : Int} {C D : List kOp} (ho : 2 ≤ o) (h1 : eOk k1 C) (h2 : eOk k2 D) (hk1 : k1 ≤ k) (hk2 : k2 + 1 ≤ k) : eOk k (C ++ (D ++ [(o, 0)])) := by
  intro V
  have key : ∀ st, runV V (C ++ (D ++ [(o, 0)])) st = (ev V C).bind (fun a => (ev V D).bind (fun b => opV V (o, 0) (b :: a :: st))) := fun st => by
    rw [runV_a, (h1 V st).1]
    cases ev V C with
    | none => rfl
    | some a =>
      show runV V (D ++ [(o, 0)]) (a :: st) = _
      rw [runV_a, (h2 V (a :: st)).1]
      cases ev V D with
      | none => rfl
      | some b =>
        show (opV V (o, 0) (b :: a :: st)).bind (fun x => some x) = opV V (o, 0) (b :: a :: st)
        cases opV V (o, 0) (b :: a :: st) with
        | none => rfl
        | some x => rfl
  have hop : ∀ (a b : Int32) (st : List Int32), opV V (o, 0) (b :: a :: st) = if o = 5 ∧ b = 0 then none else some ((if o = 2 then a + b else if o = 3 then a - b else if o = 4 then a * b else a / b) :: st) := fun a b st => by
    show (if o = 0 then _ else if o = 1 then _ else _) = _
    rw [if_neg (by omega), if_neg (by omega)]
  have hev : ev V (C ++ (D ++ [(o, 0)])) = (ev V C).bind (fun a => (ev V D).bind (fun b => if o = 5 ∧ b = 0 then none else some (if o = 2 then a + b else if o = 3 then a - b else if o = 4 then a * b else a / b))) := by
    show (runV V (C ++ (D ++ [(o, 0)])) []).bind List.head? = _
    rw [key]
    cases ev V C with
    | none => rfl
    | some a =>
      cases ev V D with
      | none => rfl
      | some b =>
        show (opV V (o, 0) [b, a]).bind List.head? = if o = 5 ∧ b = 0 then none else _
        rw [hop]
        by_cases q : o = 5 ∧ b = 0
        · rw [if_pos q, if_pos q]; rfl
        · rw [if_neg q, if_neg q]; rfl
  intro st
  have e1 : (ev V C).bind (fun a => (ev V D).bind (fun b => opV V (o, 0) (b :: a :: st))) = (ev V (C ++ (D ++ [(o, 0)]))).map (· :: st) := by
    rw [hev]
    cases ev V C with
    | none => rfl
    | some a =>
      cases ev V D with
      | none => rfl
      | some b =>
        show opV V (o, 0) (b :: a :: st) = Option.map (· :: st) (if o = 5 ∧ b = 0 then none else _)
        rw [hop]
        by_cases q : o = 5 ∧ b = 0
        · rw [if_pos q, if_pos q]; rfl
        · rw [if_neg q, if_neg q]; rfl
  refine ⟨(key st).trans e1, fun hl => ?_⟩
  rw [← e1, runL_a, (h1 V st).2 (by omega)]
  cases ev V C with
  | none => rfl
  | some a =>
    show runL V (D ++ [(o, 0)]) (a :: st) = (ev V D).bind _
    rw [runL_a, (h2 V (a :: st)).2 (by rw [List.length_cons]; omega)]
    cases ev V D with
    | none => rfl
    | some b =>
      show (opL V (o, 0) (b :: a :: st)).bind (fun x => some x) = opV V (o, 0) (b :: a :: st)
      unfold opL
      rw [if_neg (by omega)]
      cases opV V (o, 0) (b :: a :: st) with
      | none => rfl
      | some x => rfl
/-- a law: branches, the last one; what it tells -/
def evL (V : kVr) : List (List kOp × List kOp × List kOp) → List kOp → Int32
  | [], C => (ev V C).getD 0
  | (A, B, C) :: t, D => match ev V A, ev V B with
    | some u, some v => if u < v then (ev V C).getD 0 else evL V t D
    | _, _ => 0
/-- a law's tokens behind its =, with n ifs still to come -/
def kLF (K vl : Int → Int) : Nat → Int → kLw
  | 0, a => ([], ys K vl a 0 false [])
  | n + 1, a => if K a = 137 then
      let b := (pEx K (a + 1)).1 + 1
      let c := (pEx K b).1 + 1
      let e := (pEx K c).1 + 1
      ((ys K vl (a + 1) 0 false [], ys K vl b 0 false [], ys K vl c 0 false []) :: (kLF K vl n e).1, (kLF K vl n e).2)
    else ([], ys K vl a 0 false [])
