/-! ===== contracts of the methods that are walked by hand ===== -/
/-- CapitalCase.feed:(IIIII)I -/
def hpr_275 (d : Nat) (as : List zV) (I : zI) : Prop := 3 ≤ d ∧ ∃ (a : Int32) (b : Int32) (c : Int32) (e : Int32) (f : Int32), as = [.inr (.inl (some 0)), .inl a, .inl b, .inl c, .inl e, .inl f] ∧ (0 ≤ zf I 1 ∧ zf I 1 ≤ 2000)
def hpo_275 (as : List zV) (I : zI) (r : Option zV) (I' : zI) : Prop := ∀ (a : Int32) (b : Int32) (c : Int32) (e : Int32) (f : Int32), as = [.inr (.inl (some 0)), .inl a, .inl b, .inl c, .inl e, .inl f] → (∃ x : Int32, r = some (.inl x) ∧ ((2000 < zf I 1 + 20 ∧ x.toInt = -1 ∧ I' = I) ∨ (zf I 1 + 20 ≤ 2000 ∧ ∃ v : Int32, v.toInt = zf I 1 + 20 ∧ x.toInt = zf I 1 + 20 ∧ I' = zupd I 1 v)))
/-- CapitalCaseModel.feed:(IIIII)I -/
def hpr_276 (d : Nat) (as : List zV) (I : zI) : Prop := 3 ≤ d ∧ ∃ (a : Int32) (b : Int32) (c : Int32) (e : Int32) (f : Int32), as = [.inr (.inl (some 75)), .inl a, .inl b, .inl c, .inl e, .inl f] ∧ (0 ≤ zf I 10 ∧ zf I 10 ≤ 2000)
def hpo_276 (as : List zV) (I : zI) (r : Option zV) (I' : zI) : Prop := ∀ (a : Int32) (b : Int32) (c : Int32) (e : Int32) (f : Int32), as = [.inr (.inl (some 75)), .inl a, .inl b, .inl c, .inl e, .inl f] → (∃ x : Int32, r = some (.inl x) ∧ ((2000 < zf I 10 + 20 ∧ x.toInt = -1 ∧ I' = I) ∨ (zf I 10 + 20 ≤ 2000 ∧ ∃ v : Int32, v.toInt = zf I 10 + 20 ∧ x.toInt = zf I 10 + 20 ∧ I' = zupd I 10 v)))
/-- CapitalCase.back:(I)I -/
def hpr_277 (d : Nat) (as : List zV) (I : zI) : Prop := 1 ≤ d ∧ ∃ (a : Int32), as = [.inr (.inl (some 0)), .inl a] ∧ (0 ≤ zf I 1 ∧ zf I 1 ≤ 2000)
def hpo_277 (as : List zV) (I : zI) (r : Option zV) (I' : zI) : Prop := ∀ (a : Int32), as = [.inr (.inl (some 0)), .inl a] → (∃ x : Int32, r = some (.inl x) ∧ (((a.toInt < 0 ∨ zf I 1 < a.toInt) ∧ x.toInt = -1 ∧ I' = I) ∨ (0 ≤ a.toInt ∧ a.toInt ≤ zf I 1 ∧ ∃ v : Int32, v.toInt = zf I 1 - a.toInt ∧ x.toInt = zf I 1 - a.toInt ∧ I' = zupd I 1 v)))
/-- CapitalCaseModel.back:(I)I -/
def hpr_278 (d : Nat) (as : List zV) (I : zI) : Prop := 1 ≤ d ∧ ∃ (a : Int32), as = [.inr (.inl (some 75)), .inl a] ∧ (0 ≤ zf I 10 ∧ zf I 10 ≤ 2000)
def hpo_278 (as : List zV) (I : zI) (r : Option zV) (I' : zI) : Prop := ∀ (a : Int32), as = [.inr (.inl (some 75)), .inl a] → (∃ x : Int32, r = some (.inl x) ∧ (((a.toInt < 0 ∨ zf I 10 < a.toInt) ∧ x.toInt = -1 ∧ I' = I) ∨ (0 ≤ a.toInt ∧ a.toInt ≤ zf I 10 ∧ ∃ v : Int32, v.toInt = zf I 10 - a.toInt ∧ x.toInt = zf I 10 - a.toInt ∧ I' = zupd I 10 v)))
def hpre (d j : Nat) (as : List zV) (I : zI) : Prop := match j with
  | 275 => hpr_275 d as I
  | 276 => hpr_276 d as I
  | 277 => hpr_277 d as I
  | 278 => hpr_278 d as I
  | _ => False
def hpost (j : Nat) (as : List zV) (I : zI) (r : Option zV) (I' : zI) : Prop := match j with
  | 275 => hpo_275 as I r I'
  | 276 => hpo_276 as I r I'
  | 277 => hpo_277 as I r I'
  | 278 => hpo_278 as I r I'
  | _ => False
def zpre : zPre := fun d j as I => match ZC j with
  | some c => aPre zG0 zInv c d as I
  | none => hpre d j as I
def zpost : zPost := fun j as I r I' => match ZC j with
  | some c => aPost zInv c as I r I'
  | none => hpost j as I r I'
theorem zpre_of {j d : Nat} {c : aC} {as : List zV} {I : zI} (h : ZC j = some c) (hp : aPre zG0 zInv c d as I) : zpre d j as I := by
  unfold zpre
  rw [h]
  exact hp
theorem zpost_of {j : Nat} {c : aC} {as : List zV} {I I' : zI} {r : Option zV} (h : ZC j = some c) (hp : zpost j as I r I') : aPost zInv c as I r I' := by
  unfold zpost at hp
  rw [h] at hp
  exact hp
theorem zTieH : zTieC zpre zpost := fun j c h => ⟨fun _ _ _ hp => zpre_of h hp, fun _ _ _ _ hp => zpost_of h hp⟩
theorem hpre_of {j d : Nat} {as : List zV} {I : zI} (h : ZC j = none) (hp : hpre d j as I) : zpre d j as I := by
  unfold zpre
  rw [h]
  exact hp
theorem hpost_of {j : Nat} {as : List zV} {I I' : zI} {r : Option zV} (h : ZC j = none) (hp : zpost j as I r I') : hpost j as I r I' := by
  unfold zpost at hp
  rw [h] at hp
  exact hp
/-- a hand's method keeps its contract; one by the tables, too -/
def zOKx (j : Nat) : Prop := ∀ d, zCalls zG0 PZ zbd zpre zpost d → ∀ (as : List zV) (I : zI) (q : xP), hpre (d + 1) j as I → PZ j = some q → zMet zG0 q (d + 1) (zbd j) as I (hpost j as I)
def zOKh (j : Nat) (c : aC) : Prop := ∀ d, zCalls zG0 PZ zbd zpre zpost d → ∀ (as : List zV) (I : zI) (q : xP), aPre zG0 zInv c (d + 1) as I → PZ j = some q → zMet zG0 q (d + 1) (zbd j) as I (fun r I' => aPost zInv c as I r I')
