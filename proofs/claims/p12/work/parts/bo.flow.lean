/-! ===== WHAT A RUN LEAVES ALONE, BY WHERE ITS REFERENCES COME FROM ===== -/
/-- what is known of a value: nothing, or a reference: below 119 the cell itself, else the cell's kind -/
abbrev hV : Type := Option Nat
def hOf (c a : Nat) : Prop := (c < 119 → a = c) ∧ (119 ≤ c → gx.1 a = c)
def hsat : hV → zV → Prop
  | none, _ => True
  | some c, v => ∃ a, v = .inr (.inl (some a)) ∧ hOf c a
def hGet (A : List hV) (i : Nat) : hV := (A[i]?).getD none
def hL (A : List hV) (L : zL) : Prop := ∀ (i : Nat) (v : zV), L[i]? = some (some v) → hsat (hGet A i) v
def hS : List hV → List zV → Prop
  | [], [] => True
  | a :: A, v :: S => hsat a v ∧ hS A S
  | _, _ => False
def hTw (k : Nat) : Bool := k == 28 || (k == 34 || k == 60)
/-- a Town's arrays stand behind it -/
def hOK (μ : xM) : Prop := 119 ≤ μ.2.2.2 ∧ ∀ k, hTw k = true → ∀ j, j < 5 → μ.2.2.1 k j = some (k + 1 + j)
def hRm (P : Nat → Nat → Prop) (Q : Nat → Prop) (μ μ' : xM) : Prop := hOK μ → hOK μ' ∧ μ.2.2.2 ≤ μ'.2.2.2 ∧ (∀ a j, P a j → a < μ.2.2.2 → μ'.1 a j = μ.1 a j ∧ μ'.2.1 a j = μ.2.1 a j) ∧ ∀ a, Q a → a < μ.2.2.2 → ∀ j, μ'.2.2.1 a j = μ.2.2.1 a j
theorem hRm_rf {P : Nat → Nat → Prop} {Q : Nat → Prop} {μ : xM} : hRm P Q μ μ := fun h => ⟨h, Nat.le_refl _, fun _ _ _ _ => ⟨rfl, rfl⟩, fun _ _ _ _ => rfl⟩
theorem hRm_tr {P : Nat → Nat → Prop} {Q : Nat → Prop} {μ ν μ' : xM} (h1 : hRm P Q μ ν) (h2 : hRm P Q ν μ') : hRm P Q μ μ' := fun h => by
  obtain ⟨a1, a2, a3, a4⟩ := h1 h
  obtain ⟨b1, b2, b3, b4⟩ := h2 a1
  refine ⟨b1, Nat.le_trans a2 b2, fun a j hp hl => ?_, fun a hq hl j => (b4 a hq (by omega) j).trans (a4 a hq hl j)⟩
  have x1 := a3 a j hp hl
  have x2 := b3 a j hp (by omega)
  exact ⟨x2.1.trans x1.1, x2.2.trans x1.2⟩
theorem hRm_i {P : Nat → Nat → Prop} {Q : Nat → Prop} {μ : xM} {k j : Nat} {v : Int32} (h : ¬ P k j) : hRm P Q μ (xpi μ k j v) := fun h0 => ⟨h0, Nat.le_refl _, fun a i hp _ => ⟨xpi_ne (fun q => h (by rw [← q.1, ← q.2]; exact hp)), rfl⟩, fun _ _ _ _ => rfl⟩
theorem hRm_l {P : Nat → Nat → Prop} {Q : Nat → Prop} {μ : xM} {k j : Nat} {v : Int64} (h : ¬ P k j) : hRm P Q μ (xpl μ k j v) := fun h0 => ⟨h0, Nat.le_refl _, fun a i hp _ => ⟨rfl, by
  show (if a = k ∧ i = j then v else μ.2.1 a i) = _
  rw [if_neg (fun q => h (by rw [← q.1, ← q.2]; exact hp))]⟩, fun _ _ _ _ => rfl⟩
theorem hRm_c {P : Nat → Nat → Prop} {Q : Nat → Prop} {μ : xM} {k0 k n : Nat} (h : ∀ j, ¬ P k j) : hRm P Q μ (xcp μ k0 k n) := fun h0 => ⟨h0, Nat.le_refl _, fun a i hp _ => ⟨by
  show (if a = k ∧ i < n then μ.1 k0 i else μ.1 a i) = _
  rw [if_neg (fun q => h i (by rw [← q.1]; exact hp))], rfl⟩, fun _ _ _ _ => rfl⟩
theorem hRm_r {P : Nat → Nat → Prop} {Q : Nat → Prop} (hQ : ∀ k, hTw k = true → Q k) {μ : xM} {k j : Nat} {v : Option Nat} (h : ¬ Q k) : hRm P Q μ (xpr μ k j v) := by
  have e : ∀ a, Q a → ∀ i, (xpr μ k j v).2.2.1 a i = μ.2.2.1 a i := fun a hq i => by
    show (if a = k ∧ i = j then v else μ.2.2.1 a i) = _
    rw [if_neg (fun q => h (by rw [← q.1]; exact hq))]
  exact fun h0 => ⟨⟨h0.1, fun a ha i hi => (e a (hQ a ha) i).trans (h0.2 a ha i hi)⟩, Nat.le_refl _, fun _ _ _ _ => ⟨rfl, rfl⟩, fun a hq _ i => e a hq i⟩
theorem hTw_lt {k : Nat} (h : hTw k = true) : k < 119 := by
  unfold hTw at h
  simp at h
  omega
theorem hRm_n {P : Nat → Nat → Prop} {Q : Nat → Prop} {μ : xM} : hRm P Q μ (xnew μ) := by
  have e : ∀ a, a < μ.2.2.2 → ∀ i, (xnew μ).2.2.1 a i = μ.2.2.1 a i := fun a ha i => by
    show (if a = μ.2.2.2 then some (μ.2.2.2 + 1 + i) else if μ.2.2.2 < a then none else μ.2.2.1 a i) = _
    rw [if_neg (by omega), if_neg (by omega)]
  refine fun h0 => ⟨⟨by show 119 ≤ μ.2.2.2 + 6; exact Nat.le_trans h0.1 (Nat.le_add_right _ _), fun a ha i hi => (e a (Nat.lt_of_lt_of_le (hTw_lt ha) h0.1) i).trans (h0.2 a ha i hi)⟩, by show μ.2.2.2 ≤ μ.2.2.2 + 6; exact Nat.le_add_right _ _, fun a i _ ha => ⟨?_, rfl⟩, fun a _ ha i => e a ha i⟩
  show (if μ.2.2.2 ≤ a then 0 else μ.1 a i) = _
  rw [if_neg (by omega)]
/-! the checker -/
def hle1 (a b : hV) : Bool := match b with
  | none => true
  | some c => a == some c
def hleL : List hV → List hV → Bool
  | _, [] => true
  | [], b :: B => b.isNone && hleL [] B
  | a :: A, b :: B => hle1 a b && hleL A B
def hleS : List hV → List hV → Bool
  | [], [] => true
  | a :: A, b :: B => hle1 a b && hleS A B
  | _, _ => false
theorem hle1_ok {a b : hV} {v : zV} (h : hle1 a b = true) (hs : hsat a v) : hsat b v := by
  cases b with
  | none => trivial
  | some c =>
    have e : a = some c := by
      unfold hle1 at h
      simpa using h
    rw [← e]
    exact hs
theorem hleS_ok : ∀ {A B : List hV} {S : List zV}, hleS A B = true → hS A S → hS B S
  | [], [], [], _, _ => trivial
  | [], [], _ :: _, _, h => h.elim
  | a :: A, b :: B, v :: S, h, hs => by
    have h2 : (hle1 a b && hleS A B) = true := h
    rw [Bool.and_eq_true] at h2
    exact ⟨hle1_ok h2.1 hs.1, hleS_ok h2.2 hs.2⟩
  | _ :: _, _ :: _, [], _, h => h.elim
  | [], _ :: _, _, h, _ => by cases h
  | _ :: _, [], _, h, _ => by cases h
theorem hleL_get : ∀ {A B : List hV}, hleL A B = true → ∀ i, hle1 (hGet A i) (hGet B i) = true
  | _, [], _, i => by
    have e : hGet ([] : List hV) i = none := rfl
    rw [e]
    rfl
  | [], b :: B, h, i => by
    have h2 : (b.isNone && hleL [] B) = true := h
    rw [Bool.and_eq_true] at h2
    cases i with
    | zero =>
      have e : b = none := by simpa using h2.1
      rw [e]
      rfl
    | succ i =>
      have := hleL_get h2.2 i
      exact this
  | a :: A, b :: B, h, i => by
    have h2 : (hle1 a b && hleL A B) = true := h
    rw [Bool.and_eq_true] at h2
    cases i with
    | zero => exact h2.1
    | succ i => exact hleL_get h2.2 i
theorem hleL_ok {A B : List hV} {L : zL} (h : hleL A B = true) (hl : hL A L) : hL B L := fun i v hv => hle1_ok (hleL_get h i) (hl i v hv)
theorem hL_fg {A : List hV} {L L0 : zL} (h : zFg L0 L) (hl : hL A L) : hL A L0 := fun i v hv => hl i v ((zFg_ok h).2 i v hv)
theorem hL_set {A : List hV} {L : zL} {a : hV} {v : zV} (k : Nat) (hl : hL A L) (hs : hsat a v) : hL (A.set k a) (L.set k (some v)) := by
  intro i w hw
  by_cases e : i = k
  · subst e
    have hlen : i < L.length := by
      by_cases hx : i < L.length
      · exact hx
      · rw [List.getElem?_eq_none (by rw [List.length_set]; omega)] at hw
        cases hw
    rw [List.getElem?_set_self hlen] at hw
    cases hw
    unfold hGet
    by_cases hx : i < A.length
    · rw [List.getElem?_set_self hx]
      exact hs
    · rw [List.getElem?_eq_none (by rw [List.length_set]; omega)]
      trivial
  · rw [List.getElem?_set_ne (Ne.symm e)] at hw
    unfold hGet
    rw [List.getElem?_set_ne (Ne.symm e)]
    exact hl i w hw
theorem hL_no {A : List hV} {L : zL} (k : Nat) (hl : hL A L) : hL (A.set k none) (L.set k none) := by
  intro i w hw
  by_cases e : i = k
  · subst e
    by_cases hx : i < L.length
    · rw [List.getElem?_set_self hx] at hw
      cases hw
    · rw [List.getElem?_eq_none (by rw [List.length_set]; omega)] at hw
      cases hw
  · rw [List.getElem?_set_ne (Ne.symm e)] at hw
    unfold hGet
    rw [List.getElem?_set_ne (Ne.symm e)]
    exact hl i w hw
def hpop : Nat → List hV → List hV → Option (List hV × List hV)
  | 0, acc, S => some (acc, S)
  | _ + 1, _, [] => none
  | k + 1, acc, v :: S => hpop k (v :: acc) S
theorem hpop_ok : ∀ (k : Nat) {B A C D : List hV} {acc S as rest : List zV}, hpop k B A = some (C, D) → zpop k acc S = some (as, rest) → hS B acc → hS A S → hS C as ∧ hS D rest
  | 0, B, A, C, D, acc, S, as, rest, h1, h2, h3, h4 => by
    cases h1
    cases h2
    exact ⟨h3, h4⟩
  | k + 1, B, [], C, D, acc, S, as, rest, h1, h2, h3, h4 => by cases h1
  | k + 1, B, a :: A, C, D, acc, [], as, rest, h1, h2, h3, h4 => h4.elim
  | k + 1, B, a :: A, C, D, acc, v :: S, as, rest, h1, h2, h3, h4 => hpop_ok k (B := a :: B) (acc := v :: acc) h1 h2 ⟨h4.1, h3⟩ h4.2
/-- a field's value: of a known cell, of a cell of a known kind, of some object of a class -/
noncomputable def hFld (o : hV) (c j : Nat) : hV := match o with
  | none => if c = 8 ∧ j < 5 then some (1001 + j) else none
  | some k => match gx.2 (if k < 119 then gx.1 k else k) with
    | .inl (_, fts) => match fts[j]? with
      | some ft => if ft.1 = 2 then (if ft.2 < 119 then some ft.2 else none) else if ft.1 = 3 then (if hTw k = true then (if j < 5 then some (k + 1 + j) else none) else if 119 ≤ ft.2 then some ft.2 else none) else none
      | none => none
    | .inr _ => none
/-- what the checker may ask: stores into a cell; a field's of a known cell, of a class; references' rows; calls; what returns an answer -/
abbrev hC : Type := (Nat → Bool) × (Nat → Nat → Bool) × (Nat → Nat → Bool) × (Nat → Bool) × (Nat → List hV → Bool) × (Nat → Bool)
def hIc (C : hC) (to : Nat → List hV → List hV → Bool) (m : Nat) (L S : List hV) (z : Nat × Nat × Int) : Bool := match hpop z.2.1 [] S with
  | some (A, S0) => C.2.2.2.2.1 z.2.2.toNat A && to m L (if C.2.2.2.2.2 z.2.2.toNat then none :: S0 else S0)
  | none => false
def hIa (C : hC) (to : Nat → List hV → List hV → Bool) (m : Nat) (L S : List hV) : Bool := match S with
  | _ :: _ :: some k :: _ :: _ :: S0 => C.1 k && to m L S0
  | _ => false
def hIb (to : Nat → List hV → List hV → Bool) (m : Nat) (L S : List hV) : Bool := match S with
  | _ :: _ :: S0 => to m L (none :: S0)
  | _ => false
noncomputable def hI (T : Nat → Nat × Nat × Int) (C : hC) (rv : Bool) (to : Nat → List hV → List hV → Bool) (i : Instr) (pc n : Nat) (L S : List hV) : Bool := match i with
  | .iconst _ => to (pc + n) L (none :: S)
  | .bipush _ => to (pc + n) L (none :: S)
  | .sipush _ => to (pc + n) L (none :: S)
  | .lconst _ => to (pc + n) L (none :: S)
  | .ldc x => ((!((T x).1 == 2)) || to (pc + n) L (none :: S)) && ((!(x == 39)) || to (pc + 7) L [none]) && ((!(x == 51)) || to (pc + 12) L [none])
  | .ldc_w _ => to (pc + n) L (none :: S)
  | .ldc2_w _ => to (pc + n) L (none :: S)
  | .iload k => to (pc + n) L (hGet L k :: S)
  | .iload_n k => to (pc + n) L (hGet L k :: S)
  | .aload k => to (pc + n) L (hGet L k :: S)
  | .aload_n k => to (pc + n) L (hGet L k :: S)
  | .lload k => to (pc + n) L (hGet L k :: S)
  | .lload_n k => to (pc + n) L (hGet L k :: S)
  | .istore k => match S with
    | a :: S0 => to (pc + n) (L.set k a) S0
    | _ => false
  | .istore_n k => match S with
    | a :: S0 => to (pc + n) (L.set k a) S0
    | _ => false
  | .astore k => match S with
    | a :: S0 => to (pc + n) (L.set k a) S0
    | _ => false
  | .astore_n k => match S with
    | a :: S0 => to (pc + n) (L.set k a) S0
    | _ => false
  | .lstore k => match S with
    | a :: S0 => to (pc + n) ((L.set k a).set (k + 1) none) S0
    | _ => false
  | .lstore_n k => match S with
    | a :: S0 => to (pc + n) ((L.set k a).set (k + 1) none) S0
    | _ => false
  | .iinc k _ => to (pc + n) (L.set k none) S
  | .dup => match S with
    | a :: S0 => to (pc + n) L (a :: a :: S0)
    | _ => false
  | .dup2 => match S with
    | a :: b :: S0 => to (pc + n) L (a :: b :: a :: b :: S0)
    | _ => false
  | .pop => match S with
    | _ :: S0 => to (pc + n) L S0
    | _ => false
  | .i2b => match S with
    | _ :: S0 => to (pc + n) L (none :: S0)
    | _ => false
  | .i2c => match S with
    | _ :: S0 => to (pc + n) L (none :: S0)
    | _ => false
  | .i2l => match S with
    | _ :: S0 => to (pc + n) L (none :: S0)
    | _ => false
  | .l2i => match S with
    | _ :: S0 => to (pc + n) L (none :: S0)
    | _ => false
  | .arraylength => match S with
    | _ :: S0 => to (pc + n) L (none :: S0)
    | _ => false
  | .goto _ => (fSx i pc n).all (fun t => to t L S)
  | .ifCond _ _ => match S with
    | _ :: S0 => (fSx i pc n).all (fun t => to t L S0)
    | _ => false
  | .ifnonnull _ => match S with
    | _ :: S0 => (fSx i pc n).all (fun t => to t L S0)
    | _ => false
  | .tableswitch _ _ _ _ => match S with
    | _ :: S0 => (fSx i pc n).all (fun t => to t L S0)
    | _ => false
  | .lookupswitch _ _ => match S with
    | _ :: S0 => (fSx i pc n).all (fun t => to t L S0)
    | _ => false
  | .if_icmp _ _ => match S with
    | _ :: _ :: S0 => (fSx i pc n).all (fun t => to t L S0)
    | _ => false
  | .getfield x => match S with
    | a :: S0 => to (pc + n) L (hFld a (T x).2.1 (T x).2.2.toNat :: S0)
    | _ => false
  | .putfield x => match S with
    | _ :: some k :: S0 => C.2.1 k (T x).2.2.toNat && to (pc + n) L S0
    | _ :: none :: S0 => C.2.2.1 (T x).2.1 (T x).2.2.toNat && to (pc + n) L S0
    | _ => false
  | .iastore => match S with
    | _ :: _ :: some k :: S0 => C.1 k && to (pc + n) L S0
    | _ => false
  | .bastore => match S with
    | _ :: _ :: some k :: S0 => C.1 k && to (pc + n) L S0
    | _ => false
  | .lastore => match S with
    | _ :: _ :: some k :: S0 => C.1 k && to (pc + n) L S0
    | _ => false
  | .aastore => match S with
    | _ :: _ :: some k :: S0 => C.2.2.2.1 k && to (pc + n) L S0
    | _ => false
  | .invokevirtual x => hIc C to (pc + n) L S (T x)
  | .invokestatic x => ((!((T x).1 == 4)) || hIc C to (pc + n) L S (T x)) && ((!((T x).1 == 5)) || hIa C to (pc + n) L S) && ((!((T x).1 == 6 || (T x).1 == 7)) || hIb to (pc + n) L S)
  | .new _ => to (pc + 7) L (none :: S)
  | .ireturn => rv
  | .lreturn => rv
  | .return_ => !rv
  | _ => match S with
    | _ :: _ :: S0 => to (pc + n) L (none :: S0)
    | _ => false
def h8 (d : zD) : Bool := match d with
  | .inl (c, fts) => if c = 8 then decide (fts.take 5 = [(3, 1001), (3, 1002), (3, 1003), (3, 1004), (3, 1005)]) else true
  | .inr _ => true
set_option maxRecDepth 100000 in
theorem hT8 : ∀ (kd : Nat) (fts : List zT), gx.2 kd = .inl (8, fts) → ∀ j, j < 5 → fts[j]? = some (3, 1001 + j) := by
  have key : ∀ (kd : Nat) (d : zD), zdsT kd = some d → h8 d = true := (xB_n (xB_n (xB_n (xB_n (xB_n (xB_n (xB_l (by decide +kernel)) (xB_n (xB_l (by decide +kernel)) (xB_l (by decide +kernel)))) (xB_n (xB_l (by decide +kernel)) (xB_n (xB_l (by decide +kernel)) (xB_l (by decide +kernel))))) (xB_n (xB_n (xB_l (by decide +kernel)) (xB_n (xB_l (by decide +kernel)) (xB_l (by decide +kernel)))) (xB_n (xB_l (by decide +kernel)) (xB_n (xB_l (by decide +kernel)) (xB_l (by decide +kernel)))))) (xB_n (xB_n (xB_n (xB_l (by decide +kernel)) (xB_n (xB_l (by decide +kernel)) (xB_l (by decide +kernel)))) (xB_n (xB_l (by decide +kernel)) (xB_n (xB_l (by decide +kernel)) (xB_l (by decide +kernel))))) (xB_n (xB_n (xB_l (by decide +kernel)) (xB_n (xB_l (by decide +kernel)) (xB_l (by decide +kernel)))) (xB_n (xB_n (xB_l (by decide +kernel)) (xB_l (by decide +kernel))) (xB_n (xB_l (by decide +kernel)) (xB_l (by decide +kernel))))))) (xB_n (xB_n (xB_n (xB_n (xB_l (by decide +kernel)) (xB_n (xB_l (by decide +kernel)) (xB_l (by decide +kernel)))) (xB_n (xB_l (by decide +kernel)) (xB_n (xB_l (by decide +kernel)) (xB_l (by decide +kernel))))) (xB_n (xB_n (xB_l (by decide +kernel)) (xB_n (xB_l (by decide +kernel)) (xB_l (by decide +kernel)))) (xB_n (xB_l (by decide +kernel)) (xB_n (xB_l (by decide +kernel)) (xB_l (by decide +kernel)))))) (xB_n (xB_n (xB_n (xB_l (by decide +kernel)) (xB_n (xB_l (by decide +kernel)) (xB_l (by decide +kernel)))) (xB_n (xB_l (by decide +kernel)) (xB_n (xB_l (by decide +kernel)) (xB_l (by decide +kernel))))) (xB_n (xB_n (xB_l (by decide +kernel)) (xB_n (xB_l (by decide +kernel)) (xB_l (by decide +kernel)))) (xB_n (xB_n (xB_l (by decide +kernel)) (xB_l (by decide +kernel))) (xB_n (xB_l (by decide +kernel)) (xB_l (by decide +kernel)))))))) (xB_n (xB_n (xB_n (xB_n (xB_n (xB_l (by decide +kernel)) (xB_n (xB_l (by decide +kernel)) (xB_l (by decide +kernel)))) (xB_n (xB_l (by decide +kernel)) (xB_n (xB_l (by decide +kernel)) (xB_l (by decide +kernel))))) (xB_n (xB_n (xB_l (by decide +kernel)) (xB_n (xB_l (by decide +kernel)) (xB_l (by decide +kernel)))) (xB_n (xB_l (by decide +kernel)) (xB_n (xB_l (by decide +kernel)) (xB_l (by decide +kernel)))))) (xB_n (xB_n (xB_n (xB_l (by decide +kernel)) (xB_n (xB_l (by decide +kernel)) (xB_l (by decide +kernel)))) (xB_n (xB_l (by decide +kernel)) (xB_n (xB_l (by decide +kernel)) (xB_l (by decide +kernel))))) (xB_n (xB_n (xB_l (by decide +kernel)) (xB_n (xB_l (by decide +kernel)) (xB_l (by decide +kernel)))) (xB_n (xB_n (xB_l (by decide +kernel)) (xB_l (by decide +kernel))) (xB_n (xB_l (by decide +kernel)) (xB_l (by decide +kernel))))))) (xB_n (xB_n (xB_n (xB_n (xB_l (by decide +kernel)) (xB_n (xB_l (by decide +kernel)) (xB_l (by decide +kernel)))) (xB_n (xB_l (by decide +kernel)) (xB_n (xB_l (by decide +kernel)) (xB_l (by decide +kernel))))) (xB_n (xB_n (xB_l (by decide +kernel)) (xB_n (xB_l (by decide +kernel)) (xB_l (by decide +kernel)))) (xB_n (xB_l (by decide +kernel)) (xB_n (xB_l (by decide +kernel)) (xB_l (by decide +kernel)))))) (xB_n (xB_n (xB_n (xB_l (by decide +kernel)) (xB_n (xB_l (by decide +kernel)) (xB_l (by decide +kernel)))) (xB_n (xB_l (by decide +kernel)) (xB_n (xB_l (by decide +kernel)) (xB_l (by decide +kernel))))) (xB_n (xB_n (xB_l (by decide +kernel)) (xB_n (xB_l (by decide +kernel)) (xB_l (by decide +kernel)))) (xB_n (xB_n (xB_l (by decide +kernel)) (xB_l (by decide +kernel))) (xB_n (xB_l (by decide +kernel)) (xB_l (by decide +kernel)))))))))
  intro kd fts h j hj
  have h2 : zds kd = .inl (8, fts) := h
  unfold zds at h2
  split at h2
  · rename_i v hv
    subst h2
    have h3 := key kd _ hv
    have h4 : fts.take 5 = [(3, 1001), (3, 1002), (3, 1003), (3, 1004), (3, 1005)] := by
      unfold h8 at h3
      simpa using h3
    have h5 : (fts.take 5)[j]? = fts[j]? := by rw [List.getElem?_take_of_lt hj]
    rw [← h5, h4]
    match j, hj with
    | 0, _ => rfl
    | 1, _ => rfl
    | 2, _ => rfl
    | 3, _ => rfl
    | 4, _ => rfl
  · cases h2
theorem hFld_ok {o : hV} {a c j : Nat} {fts : List zT} {ft : zT} {v : zV} {μ : xM} (hs : hsat o (.inr (.inl (some a)))) (h1 : gx.2 (gx.1 a) = .inl (c, fts)) (h2 : fts[j]? = some ft) (h3 : (ft.1 < 2 ∧ v = .inl (μ.1 a j)) ∨ (ft.1 = 2 ∧ v = .inr (.inl (some ft.2))) ∨ (ft.1 = 3 ∧ ∃ r, gx.1 r = ft.2 ∧ μ.2.2.1 a j = some r ∧ v = .inr (.inl (some r)))) (hO : hOK μ) : hsat (hFld o c (j : Int).toNat) v := by
  rw [Int.toNat_natCast]
  cases o with
  | none =>
    show hsat (if c = 8 ∧ j < 5 then some (1001 + j) else none) v
    by_cases hc : c = 8 ∧ j < 5
    · rw [if_pos hc]
      obtain ⟨rfl, hj⟩ := hc
      have h4 := hT8 _ _ h1 j hj
      rw [h2] at h4
      cases h4
      rcases h3 with ⟨e, -⟩ | ⟨e, -⟩ | ⟨-, r, e1, -, rfl⟩
      · exact absurd e (by show ¬ 3 < 2; omega)
      · exact absurd e (by show ¬ 3 = 2; omega)
      · exact ⟨r, rfl, fun q => absurd q (by omega), fun _ => e1⟩
    · rw [if_neg hc]
      trivial
  | some k =>
    obtain ⟨a2, e, hk1, hk2⟩ := hs
    cases e
    have ek : gx.2 (if k < 119 then gx.1 k else k) = .inl (c, fts) := by
      by_cases q : k < 119
      · rw [if_pos q, ← hk1 q]; exact h1
      · rw [if_neg q]
        rw [hk2 (by omega)] at h1
        exact h1
    have ef : hFld (some k) c j = if ft.1 = 2 then (if ft.2 < 119 then some ft.2 else none) else if ft.1 = 3 then (if hTw k = true then (if j < 5 then some (k + 1 + j) else none) else if 119 ≤ ft.2 then some ft.2 else none) else none := by
      unfold hFld
      have ek2 : zG0.2.1 (if k < 119 then zG0.1 k else k) = .inl (c, fts) := ek
      simp only [ek2, h2]
    rw [ef]
    rcases h3 with ⟨e, rfl⟩ | ⟨e, rfl⟩ | ⟨e, r, e1, e2, rfl⟩
    · rw [if_neg (by omega), if_neg (by omega)]
      trivial
    · rw [if_pos e]
      by_cases q : ft.2 < 119
      · rw [if_pos q]
        exact ⟨ft.2, rfl, fun _ => rfl, fun z => absurd z (by omega)⟩
      · rw [if_neg q]
        trivial
    · rw [if_neg (by omega), if_pos e]
      by_cases q : hTw k = true
      · rw [if_pos q]
        by_cases qj : j < 5
        · rw [if_pos qj]
          have hk : k ≤ 60 := by
            unfold hTw at q
            simp at q
            omega
          have ea : a = k := hk1 (by omega)
          rw [ea, hO.2 k q j qj] at e2
          cases e2
          exact ⟨_, rfl, fun _ => rfl, fun z => absurd z (by omega)⟩
        · rw [if_neg qj]
          trivial
      · rw [if_neg q]
        by_cases q2 : 119 ≤ ft.2
        · rw [if_pos q2]
          exact ⟨r, rfl, fun z => absurd z (by omega), fun _ => e1⟩
        · rw [if_neg q2]
          trivial
def hGood (P : Nat → Nat → Prop) (Q : Nat → Prop) (C : hC) : Prop := (∀ k a j, C.1 k = true → hOf k a → ¬ P a j) ∧ (∀ k a j, C.2.1 k j = true → hOf k a → ¬ P a j) ∧ (∀ c a j fts, C.2.2.1 c j = true → gx.2 (gx.1 a) = .inl (c, fts) → ¬ P a j) ∧ (∀ k a, C.2.2.2.1 k = true → hOf k a → ¬ Q a) ∧ ∀ k, hTw k = true → Q k
set_option maxHeartbeats 4000000 in
theorem hI_ok {P : Nat → Nat → Prop} {Q : Nat → Prop} {C : hC} (hG : hGood P Q C) {X : xX} {own : String} {T : Nat → Nat × Nat × Int} (hT : xTb own = T) {rv : Bool} {to : Nat → List hV → List hV → Bool} {i : Instr} {pc n : Nat} {L : zL} {S : List zV} {μ : xM} {b : eS} {AL AS : List hV} (hx : xIns gx X own i pc n L S μ b) (hi : hI T C rv to i pc n AL AS = true) (hl : hL AL L) (hs : hS AS S) (hO : hOK μ) (hc : ∀ (mn : Nat) (q : xP) (as : List zV) (r : Option zV) (ν ν' : xM) (A : List hV), C.2.2.2.2.1 mn A = true → xMB mn = some q → hS A as → X q as ν r ν' → hOK ν → r.isSome = C.2.2.2.2.2 mn ∧ hRm P Q ν ν') : ∃ AL' AS', to b.1 AL' AS' = true ∧ hL AL' b.2.1 ∧ hS AS' b.2.2.1 ∧ hRm P Q μ b.2.2.2 := by
  subst hT
  cases i with
  | iconst x0 =>
    obtain ⟨v, _, rfl⟩ := hx
    exact ⟨AL, none :: AS, hi, hl, ⟨trivial, hs⟩, hRm_rf⟩
  | bipush x0 =>
    obtain ⟨v, _, rfl⟩ := hx
    exact ⟨AL, none :: AS, hi, hl, ⟨trivial, hs⟩, hRm_rf⟩
  | sipush x0 =>
    obtain ⟨v, _, rfl⟩ := hx
    exact ⟨AL, none :: AS, hi, hl, ⟨trivial, hs⟩, hRm_rf⟩
  | lconst x0 =>
    obtain ⟨v, _, rfl⟩ := hx
    exact ⟨AL, none :: AS, hi, hl, ⟨trivial, hs⟩, hRm_rf⟩
  | ldc_w x0 =>
    obtain ⟨v, _, rfl⟩ := hx
    exact ⟨AL, none :: AS, hi, hl, ⟨trivial, hs⟩, hRm_rf⟩
  | ldc2_w x0 =>
    obtain ⟨v, _, rfl⟩ := hx
    exact ⟨AL, none :: AS, hi, hl, ⟨trivial, hs⟩, hRm_rf⟩
  | ldc x =>
    have hi : (((!((xTb own x).1 == 2)) || to (pc + n) AL (none :: AS)) && ((!(x == 39)) || to (pc + 7) AL [none]) && ((!(x == 51)) || to (pc + 12) AL [none])) = true := hi
    rw [Bool.and_eq_true, Bool.and_eq_true] at hi
    rcases hx with ⟨v, h0, rfl⟩ | ⟨rfl, c, z, _, rfl, _, rfl⟩ | ⟨rfl, w, i, z, _, _, rfl, _, rfl⟩
    · have hi := hi.1.1
      rw [h0] at hi
      exact ⟨AL, none :: AS, by simpa using hi, hl, ⟨trivial, hs⟩, hRm_rf⟩
    · exact ⟨AL, [none], by simpa using hi.1.2, hl, ⟨trivial, trivial⟩, hRm_rf⟩
    · exact ⟨AL, [none], by simpa using hi.2, hl, ⟨trivial, trivial⟩, hRm_rf⟩
  | iload x0 =>
    obtain ⟨v, hv, rfl⟩ := hx
    exact ⟨AL, _, hi, hl, ⟨hl _ v hv, hs⟩, hRm_rf⟩
  | iload_n x0 =>
    obtain ⟨v, hv, rfl⟩ := hx
    exact ⟨AL, _, hi, hl, ⟨hl _ v hv, hs⟩, hRm_rf⟩
  | aload x0 =>
    obtain ⟨v, hv, rfl⟩ := hx
    exact ⟨AL, _, hi, hl, ⟨hl _ v hv, hs⟩, hRm_rf⟩
  | aload_n x0 =>
    obtain ⟨v, hv, rfl⟩ := hx
    exact ⟨AL, _, hi, hl, ⟨hl _ v hv, hs⟩, hRm_rf⟩
  | lload x0 =>
    obtain ⟨v, hv, rfl⟩ := hx
    exact ⟨AL, _, hi, hl, ⟨hl _ v hv, hs⟩, hRm_rf⟩
  | lload_n x0 =>
    obtain ⟨v, hv, rfl⟩ := hx
    exact ⟨AL, _, hi, hl, ⟨hl _ v hv, hs⟩, hRm_rf⟩
  | istore x0 =>
    obtain ⟨v, S0, rfl, rfl⟩ := hx
    cases AS with
    | nil => exact hs.elim
    | cons a AS => exact ⟨_, AS, hi, hL_set _ hl hs.1, hs.2, hRm_rf⟩
  | istore_n x0 =>
    obtain ⟨v, S0, rfl, rfl⟩ := hx
    cases AS with
    | nil => exact hs.elim
    | cons a AS => exact ⟨_, AS, hi, hL_set _ hl hs.1, hs.2, hRm_rf⟩
  | astore x0 =>
    obtain ⟨v, S0, rfl, rfl⟩ := hx
    cases AS with
    | nil => exact hs.elim
    | cons a AS => exact ⟨_, AS, hi, hL_set _ hl hs.1, hs.2, hRm_rf⟩
  | astore_n x0 =>
    obtain ⟨v, S0, rfl, rfl⟩ := hx
    cases AS with
    | nil => exact hs.elim
    | cons a AS => exact ⟨_, AS, hi, hL_set _ hl hs.1, hs.2, hRm_rf⟩
  | lstore x0 =>
    obtain ⟨v, S0, rfl, rfl⟩ := hx
    cases AS with
    | nil => exact hs.elim
    | cons a AS => exact ⟨_, AS, hi, hL_no _ (hL_set _ hl hs.1), hs.2, hRm_rf⟩
  | lstore_n x0 =>
    obtain ⟨v, S0, rfl, rfl⟩ := hx
    cases AS with
    | nil => exact hs.elim
    | cons a AS => exact ⟨_, AS, hi, hL_no _ (hL_set _ hl hs.1), hs.2, hRm_rf⟩
  | iinc k z =>
    obtain ⟨x, v, _, _, rfl⟩ := hx
    exact ⟨AL.set k none, AS, hi, hL_set _ hl trivial, hs, hRm_rf⟩
  | iadd =>
    obtain ⟨x, y, S0, rfl, rfl⟩ := hx
    match AS, hs, hi with
    | a :: c :: AS, hs, hi => exact ⟨AL, none :: AS, hi, hl, ⟨trivial, hs.2.2⟩, hRm_rf⟩
    | [_], hs, _ => exact hs.2.elim
    | [], hs, _ => exact hs.elim
  | isub =>
    obtain ⟨x, y, S0, rfl, rfl⟩ := hx
    match AS, hs, hi with
    | a :: c :: AS, hs, hi => exact ⟨AL, none :: AS, hi, hl, ⟨trivial, hs.2.2⟩, hRm_rf⟩
    | [_], hs, _ => exact hs.2.elim
    | [], hs, _ => exact hs.elim
  | imul =>
    obtain ⟨x, y, S0, rfl, rfl⟩ := hx
    match AS, hs, hi with
    | a :: c :: AS, hs, hi => exact ⟨AL, none :: AS, hi, hl, ⟨trivial, hs.2.2⟩, hRm_rf⟩
    | [_], hs, _ => exact hs.2.elim
    | [], hs, _ => exact hs.elim
  | iand =>
    obtain ⟨x, y, S0, rfl, rfl⟩ := hx
    match AS, hs, hi with
    | a :: c :: AS, hs, hi => exact ⟨AL, none :: AS, hi, hl, ⟨trivial, hs.2.2⟩, hRm_rf⟩
    | [_], hs, _ => exact hs.2.elim
    | [], hs, _ => exact hs.elim
  | ior =>
    obtain ⟨x, y, S0, rfl, rfl⟩ := hx
    match AS, hs, hi with
    | a :: c :: AS, hs, hi => exact ⟨AL, none :: AS, hi, hl, ⟨trivial, hs.2.2⟩, hRm_rf⟩
    | [_], hs, _ => exact hs.2.elim
    | [], hs, _ => exact hs.elim
  | ixor =>
    obtain ⟨x, y, S0, rfl, rfl⟩ := hx
    match AS, hs, hi with
    | a :: c :: AS, hs, hi => exact ⟨AL, none :: AS, hi, hl, ⟨trivial, hs.2.2⟩, hRm_rf⟩
    | [_], hs, _ => exact hs.2.elim
    | [], hs, _ => exact hs.elim
  | ishl =>
    obtain ⟨x, y, S0, rfl, rfl⟩ := hx
    match AS, hs, hi with
    | a :: c :: AS, hs, hi => exact ⟨AL, none :: AS, hi, hl, ⟨trivial, hs.2.2⟩, hRm_rf⟩
    | [_], hs, _ => exact hs.2.elim
    | [], hs, _ => exact hs.elim
  | ishr =>
    obtain ⟨x, y, S0, rfl, rfl⟩ := hx
    match AS, hs, hi with
    | a :: c :: AS, hs, hi => exact ⟨AL, none :: AS, hi, hl, ⟨trivial, hs.2.2⟩, hRm_rf⟩
    | [_], hs, _ => exact hs.2.elim
    | [], hs, _ => exact hs.elim
  | iushr =>
    obtain ⟨x, y, S0, rfl, rfl⟩ := hx
    match AS, hs, hi with
    | a :: c :: AS, hs, hi => exact ⟨AL, none :: AS, hi, hl, ⟨trivial, hs.2.2⟩, hRm_rf⟩
    | [_], hs, _ => exact hs.2.elim
    | [], hs, _ => exact hs.elim
  | ladd =>
    obtain ⟨x, y, S0, rfl, rfl⟩ := hx
    match AS, hs, hi with
    | a :: c :: AS, hs, hi => exact ⟨AL, none :: AS, hi, hl, ⟨trivial, hs.2.2⟩, hRm_rf⟩
    | [_], hs, _ => exact hs.2.elim
    | [], hs, _ => exact hs.elim
  | lmul =>
    obtain ⟨x, y, S0, rfl, rfl⟩ := hx
    match AS, hs, hi with
    | a :: c :: AS, hs, hi => exact ⟨AL, none :: AS, hi, hl, ⟨trivial, hs.2.2⟩, hRm_rf⟩
    | [_], hs, _ => exact hs.2.elim
    | [], hs, _ => exact hs.elim
  | ldiv =>
    obtain ⟨x, y, S0, rfl, rfl⟩ := hx
    match AS, hs, hi with
    | a :: c :: AS, hs, hi => exact ⟨AL, none :: AS, hi, hl, ⟨trivial, hs.2.2⟩, hRm_rf⟩
    | [_], hs, _ => exact hs.2.elim
    | [], hs, _ => exact hs.elim
  | lrem =>
    obtain ⟨x, y, S0, rfl, rfl⟩ := hx
    match AS, hs, hi with
    | a :: c :: AS, hs, hi => exact ⟨AL, none :: AS, hi, hl, ⟨trivial, hs.2.2⟩, hRm_rf⟩
    | [_], hs, _ => exact hs.2.elim
    | [], hs, _ => exact hs.elim
  | lcmp =>
    obtain ⟨x, y, S0, rfl, rfl⟩ := hx
    match AS, hs, hi with
    | a :: c :: AS, hs, hi => exact ⟨AL, none :: AS, hi, hl, ⟨trivial, hs.2.2⟩, hRm_rf⟩
    | [_], hs, _ => exact hs.2.elim
    | [], hs, _ => exact hs.elim
  | idiv =>
    obtain ⟨x, y, S0, rfl, _, rfl⟩ := hx
    match AS, hs, hi with
    | a :: c :: AS, hs, hi => exact ⟨AL, none :: AS, hi, hl, ⟨trivial, hs.2.2⟩, hRm_rf⟩
    | [_], hs, _ => exact hs.2.elim
    | [], hs, _ => exact hs.elim
  | irem =>
    obtain ⟨x, y, S0, rfl, _, rfl⟩ := hx
    match AS, hs, hi with
    | a :: c :: AS, hs, hi => exact ⟨AL, none :: AS, hi, hl, ⟨trivial, hs.2.2⟩, hRm_rf⟩
    | [_], hs, _ => exact hs.2.elim
    | [], hs, _ => exact hs.elim
  | i2b =>
    obtain ⟨x, S0, rfl, rfl⟩ := hx
    cases AS with
    | nil => exact hs.elim
    | cons a AS => exact ⟨AL, none :: AS, hi, hl, ⟨trivial, hs.2⟩, hRm_rf⟩
  | i2c =>
    obtain ⟨x, S0, rfl, rfl⟩ := hx
    cases AS with
    | nil => exact hs.elim
    | cons a AS => exact ⟨AL, none :: AS, hi, hl, ⟨trivial, hs.2⟩, hRm_rf⟩
  | i2l =>
    obtain ⟨x, S0, rfl, rfl⟩ := hx
    cases AS with
    | nil => exact hs.elim
    | cons a AS => exact ⟨AL, none :: AS, hi, hl, ⟨trivial, hs.2⟩, hRm_rf⟩
  | l2i =>
    obtain ⟨x, S0, rfl, rfl⟩ := hx
    cases AS with
    | nil => exact hs.elim
    | cons a AS => exact ⟨AL, none :: AS, hi, hl, ⟨trivial, hs.2⟩, hRm_rf⟩
  | dup =>
    obtain ⟨x, S0, rfl, rfl⟩ := hx
    cases AS with
    | nil => exact hs.elim
    | cons a AS => exact ⟨AL, a :: a :: AS, hi, hl, ⟨hs.1, hs.1, hs.2⟩, hRm_rf⟩
  | pop =>
    obtain ⟨x, S0, rfl, rfl⟩ := hx
    cases AS with
    | nil => exact hs.elim
    | cons a AS => exact ⟨AL, AS, hi, hl, hs.2, hRm_rf⟩
  | dup2 =>
    obtain ⟨x, y, S0, rfl, rfl⟩ := hx
    match AS, hs, hi with
    | a :: c :: AS, hs, hi => exact ⟨AL, a :: c :: a :: c :: AS, hi, hl, ⟨hs.1, hs.2.1, hs.1, hs.2.1, hs.2.2⟩, hRm_rf⟩
    | [_], hs, _ => exact hs.2.elim
    | [], hs, _ => exact hs.elim
  | arraylength =>
    obtain ⟨a, t, len, S0, rfl, _, rfl⟩ := hx
    cases AS with
    | nil => exact hs.elim
    | cons a AS => exact ⟨AL, none :: AS, hi, hl, ⟨trivial, hs.2⟩, hRm_rf⟩
  | goto off =>
    have hm := fSx_ok hx
    obtain ⟨t, ht, rfl⟩ := hx
    exact ⟨AL, AS, List.all_eq_true.mp hi _ hm, hl, hs, hRm_rf⟩
  | ifCond c off =>
    have hm := fSx_ok hx
    obtain ⟨x, S0, t, rfl, ht, hx⟩ := hx
    cases AS with
    | nil => exact hs.elim
    | cons a AS =>
      rcases hx with ⟨_, rfl⟩ | ⟨_, rfl⟩
      · exact ⟨AL, AS, List.all_eq_true.mp hi _ hm, hl, hs.2, hRm_rf⟩
      · exact ⟨AL, AS, List.all_eq_true.mp hi _ hm, hl, hs.2, hRm_rf⟩
  | ifnonnull off =>
    have hm := fSx_ok hx
    obtain ⟨x, S0, t, rfl, ht, hx⟩ := hx
    cases AS with
    | nil => exact hs.elim
    | cons a AS =>
      rcases hx with ⟨_, rfl⟩ | ⟨_, rfl⟩
      · exact ⟨AL, AS, List.all_eq_true.mp hi _ hm, hl, hs.2, hRm_rf⟩
      · exact ⟨AL, AS, List.all_eq_true.mp hi _ hm, hl, hs.2, hRm_rf⟩
  | tableswitch d lo hi2 offs =>
    have hm := fSx_ok hx
    obtain ⟨x, S0, t, rfl, rfl, hx⟩ := hx
    cases AS with
    | nil => exact hs.elim
    | cons a AS => exact ⟨AL, AS, List.all_eq_true.mp hi _ hm, hl, hs.2, hRm_rf⟩
  | lookupswitch d ps =>
    have hm := fSx_ok hx
    obtain ⟨x, S0, t, rfl, rfl, hx⟩ := hx
    cases AS with
    | nil => exact hs.elim
    | cons a AS => exact ⟨AL, AS, List.all_eq_true.mp hi _ hm, hl, hs.2, hRm_rf⟩
  | if_icmp c off =>
    have hm := fSx_ok hx
    obtain ⟨x, y, S0, t, rfl, ht, hx⟩ := hx
    match AS, hs, hi with
    | a :: c :: AS, hs, hi =>
      rcases hx with ⟨_, rfl⟩ | ⟨_, rfl⟩
      · exact ⟨AL, AS, List.all_eq_true.mp hi _ hm, hl, hs.2.2, hRm_rf⟩
      · exact ⟨AL, AS, List.all_eq_true.mp hi _ hm, hl, hs.2.2, hRm_rf⟩
    | [_], hs, _ => exact hs.2.elim
    | [], hs, _ => exact hs.elim
  | getfield x0 =>
    obtain ⟨a, c, j, S0, fts, ft, v, rfl, h0, h1, h2, rfl, h3⟩ := hx
    cases AS with
    | nil => exact hs.elim
    | cons o AS =>
      have hi : to (pc + n) AL (hFld o (xTb own x0).2.1 (xTb own x0).2.2.toNat :: AS) = true := hi
      rw [h0] at hi
      exact ⟨AL, _, hi, hl, ⟨hFld_ok hs.1 h1 h2 h3 hO, hs.2⟩, hRm_rf⟩
  | iaload =>
    obtain ⟨k, a, len, S0, v, rfl, _, _, _, rfl⟩ := hx
    match AS, hs, hi with
    | a :: c :: AS, hs, hi => exact ⟨AL, none :: AS, hi, hl, ⟨trivial, hs.2.2⟩, hRm_rf⟩
    | [_], hs, _ => exact hs.2.elim
    | [], hs, _ => exact hs.elim
  | laload =>
    obtain ⟨k, a, len, S0, v, rfl, _, _, _, rfl⟩ := hx
    match AS, hs, hi with
    | a :: c :: AS, hs, hi => exact ⟨AL, none :: AS, hi, hl, ⟨trivial, hs.2.2⟩, hRm_rf⟩
    | [_], hs, _ => exact hs.2.elim
    | [], hs, _ => exact hs.elim
  | aaload =>
    obtain ⟨k, a, len, S0, v, rfl, _, _, _, rfl⟩ := hx
    match AS, hs, hi with
    | a :: c :: AS, hs, hi => exact ⟨AL, none :: AS, hi, hl, ⟨trivial, hs.2.2⟩, hRm_rf⟩
    | [_], hs, _ => exact hs.2.elim
    | [], hs, _ => exact hs.elim
  | baload =>
    obtain ⟨k, a, t, len, S0, v, rfl, _, _, _, _, rfl⟩ := hx
    match AS, hs, hi with
    | a :: c :: AS, hs, hi => exact ⟨AL, none :: AS, hi, hl, ⟨trivial, hs.2.2⟩, hRm_rf⟩
    | [_], hs, _ => exact hs.2.elim
    | [], hs, _ => exact hs.elim
  | iastore =>
    obtain ⟨v, k, a, len, S0, rfl, _, _, rfl⟩ := hx
    match AS, hs, hi with
    | x :: y :: some c :: AS, hs, hi =>
      have hi : (_ && to (pc + n) AL AS) = true := hi
      rw [Bool.and_eq_true] at hi
      obtain ⟨a2, e, ho⟩ := hs.2.2.1
      cases e
      exact ⟨AL, AS, hi.2, hl, hs.2.2.2, hRm_i (hG.1 c a _ hi.1 ho)⟩
    | _ :: _ :: none :: _, _, hi => cases hi
    | [_, _], hs, _ => exact hs.2.2.elim
    | [_], hs, _ => exact hs.2.elim
    | [], hs, _ => exact hs.elim
  | bastore =>
    obtain ⟨v, k, a, t, len, S0, rfl, _, _, _, rfl⟩ := hx
    match AS, hs, hi with
    | x :: y :: some c :: AS, hs, hi =>
      have hi : (_ && to (pc + n) AL AS) = true := hi
      rw [Bool.and_eq_true] at hi
      obtain ⟨a2, e, ho⟩ := hs.2.2.1
      cases e
      exact ⟨AL, AS, hi.2, hl, hs.2.2.2, hRm_i (hG.1 c a _ hi.1 ho)⟩
    | _ :: _ :: none :: _, _, hi => cases hi
    | [_, _], hs, _ => exact hs.2.2.elim
    | [_], hs, _ => exact hs.2.elim
    | [], hs, _ => exact hs.elim
  | lastore =>
    obtain ⟨v, k, a, len, S0, rfl, _, _, rfl⟩ := hx
    match AS, hs, hi with
    | x :: y :: some c :: AS, hs, hi =>
      have hi : (_ && to (pc + n) AL AS) = true := hi
      rw [Bool.and_eq_true] at hi
      obtain ⟨a2, e, ho⟩ := hs.2.2.1
      cases e
      exact ⟨AL, AS, hi.2, hl, hs.2.2.2, hRm_l (hG.1 c a _ hi.1 ho)⟩
    | _ :: _ :: none :: _, _, hi => cases hi
    | [_, _], hs, _ => exact hs.2.2.elim
    | [_], hs, _ => exact hs.2.elim
    | [], hs, _ => exact hs.elim
  | aastore =>
    obtain ⟨v, k, a, len, S0, rfl, _, _, rfl⟩ := hx
    match AS, hs, hi with
    | x :: y :: some c :: AS, hs, hi =>
      have hi : (_ && to (pc + n) AL AS) = true := hi
      rw [Bool.and_eq_true] at hi
      obtain ⟨a2, e, ho⟩ := hs.2.2.1
      cases e
      exact ⟨AL, AS, hi.2, hl, hs.2.2.2, hRm_r hG.2.2.2.2 (hG.2.2.2.1 c a hi.1 ho)⟩
    | _ :: _ :: none :: _, _, hi => cases hi
    | [_, _], hs, _ => exact hs.2.2.elim
    | [_], hs, _ => exact hs.2.elim
    | [], hs, _ => exact hs.elim
  | putfield x0 =>
    obtain ⟨a, c, j, S0, fts, v, rfl, h0, h1, rfl⟩ := hx
    match AS, hs, hi with
    | x :: some k :: AS, hs, hi =>
      have hi : (C.2.1 k (xTb own x0).2.2.toNat && to (pc + n) AL AS) = true := hi
      rw [Bool.and_eq_true, h0] at hi
      obtain ⟨a2, e, ho⟩ := hs.2.1
      cases e
      exact ⟨AL, AS, hi.2, hl, hs.2.2, hRm_i (hG.2.1 k a j hi.1 ho)⟩
    | x :: none :: AS, hs, hi =>
      have hi : (C.2.2.1 (xTb own x0).2.1 (xTb own x0).2.2.toNat && to (pc + n) AL AS) = true := hi
      rw [Bool.and_eq_true, h0] at hi
      exact ⟨AL, AS, hi.2, hl, hs.2.2, hRm_i (hG.2.2.1 c a j fts hi.1 h1)⟩
    | [_], hs, _ => exact hs.2.elim
    | [], hs, _ => exact hs.elim
  | new x0 =>
    subst hx
    exact ⟨AL, none :: AS, hi, hl, ⟨trivial, hs⟩, hRm_n⟩
  | invokevirtual x0 =>
    have hi : hIc C to (pc + n) AL AS (xTb own x0) = true := hi
    obtain ⟨na, mn, h0, q, as, rest, r, μ', h1, h2, h3, rfl⟩ := hx
    rw [h0] at hi
    unfold hIc at hi
    cases hp : hpop na [] AS with
    | none =>
      rw [show hpop (4, na, (mn : Int)).2.1 [] AS = none from hp] at hi
      cases hi
    | some pr =>
      obtain ⟨A, A0⟩ := pr
      rw [show hpop (4, na, (mn : Int)).2.1 [] AS = some (A, A0) from hp] at hi
      have hi : (C.2.2.2.2.1 mn A && to (pc + n) AL (if C.2.2.2.2.2 mn then none :: A0 else A0)) = true := hi
      rw [Bool.and_eq_true] at hi
      obtain ⟨p1, p2⟩ := hpop_ok na hp h1 (B := []) (acc := []) trivial hs
      obtain ⟨c1, c2⟩ := hc mn q as r μ μ' A hi.1 h2 p1 h3 hO
      refine ⟨AL, _, hi.2, hl, ?_, c2⟩
      cases r with
      | none =>
        rw [if_neg (by rw [← c1]; decide)]
        exact p2
      | some v =>
        rw [if_pos (by rw [← c1]; rfl)]
        exact ⟨trivial, p2⟩
  | invokestatic x0 =>
    have hi : (((!((xTb own x0).1 == 4)) || hIc C to (pc + n) AL AS (xTb own x0)) && ((!((xTb own x0).1 == 5)) || hIa C to (pc + n) AL AS) && ((!((xTb own x0).1 == 6 || (xTb own x0).1 == 7)) || hIb to (pc + n) AL AS)) = true := hi
    rw [Bool.and_eq_true, Bool.and_eq_true] at hi
    rcases hx with hx | ⟨h0, a, a0, t0, n0, t, len, S0, rfl, _, _, _, _, _, rfl⟩ | ⟨h0, x, y, S0, rfl, rfl⟩ | ⟨h0, x, y, S0, rfl, rfl⟩
    · obtain ⟨na, mn, h0, q, as, rest, r, μ', h1, h2, h3, rfl⟩ := hx
      have hi := hi.1.1
      rw [h0] at hi
      replace hi : hIc C to (pc + n) AL AS (4, na, (mn : Int)) = true := by simpa using hi
      unfold hIc at hi
      cases hp : hpop na [] AS with
      | none =>
        rw [show hpop (4, na, (mn : Int)).2.1 [] AS = none from hp] at hi
        cases hi
      | some pr =>
        obtain ⟨A, A0⟩ := pr
        rw [show hpop (4, na, (mn : Int)).2.1 [] AS = some (A, A0) from hp] at hi
        have hi : (C.2.2.2.2.1 mn A && to (pc + n) AL (if C.2.2.2.2.2 mn then none :: A0 else A0)) = true := hi
        rw [Bool.and_eq_true] at hi
        obtain ⟨p1, p2⟩ := hpop_ok na hp h1 (B := []) (acc := []) trivial hs
        obtain ⟨c1, c2⟩ := hc mn q as r μ μ' A hi.1 h2 p1 h3 hO
        refine ⟨AL, _, hi.2, hl, ?_, c2⟩
        cases r with
        | none =>
          rw [if_neg (by rw [← c1]; decide)]
          exact p2
        | some v =>
          rw [if_pos (by rw [← c1]; rfl)]
          exact ⟨trivial, p2⟩
    · have hi := hi.1.2
      rw [h0] at hi
      replace hi : hIa C to (pc + n) AL AS = true := by simpa using hi
      match AS, hs, hi with
      | x :: y :: some c :: w :: z :: AS, hs, hi =>
        have hi : (C.1 c && to (pc + n) AL AS) = true := hi
        rw [Bool.and_eq_true] at hi
        obtain ⟨a2, e, ho⟩ := hs.2.2.1
        cases e
        exact ⟨AL, AS, hi.2, hl, hs.2.2.2.2.2, hRm_c (fun j => hG.1 c a j hi.1 ho)⟩
      | _ :: _ :: none :: _ :: _ :: _, _, hi => cases hi
      | [_, _, _, _], hs, _ => exact hs.2.2.2.2.elim
      | [_, _, _], hs, _ => exact hs.2.2.2.elim
      | [_, _], hs, _ => exact hs.2.2.elim
      | [_], hs, _ => exact hs.2.elim
      | [], hs, _ => exact hs.elim
    · have hi := hi.2
      rw [h0] at hi
      replace hi : hIb to (pc + n) AL AS = true := by simpa using hi
      match AS, hs, hi with
      | a :: c :: AS, hs, hi => exact ⟨AL, none :: AS, hi, hl, ⟨trivial, hs.2.2⟩, hRm_rf⟩
      | [_], hs, _ => exact hs.2.elim
      | [], hs, _ => exact hs.elim
    · have hi := hi.2
      rw [h0] at hi
      replace hi : hIb to (pc + n) AL AS = true := by simpa using hi
      match AS, hs, hi with
      | a :: c :: AS, hs, hi => exact ⟨AL, none :: AS, hi, hl, ⟨trivial, hs.2.2⟩, hRm_rf⟩
      | [_], hs, _ => exact hs.2.elim
      | [], hs, _ => exact hs.elim
  | _ => exact hx.elim
/-- a method's entry: what is known of its first two arguments -/
abbrev hE : Type := hV × hV
def hEn (E : hE) (as : List zV) : Prop := (∀ c, E.1 = some c → ∃ v as', as = v :: as' ∧ hsat (some c) v) ∧ ∀ c, E.2 = some c → ¬ E.1 = none ∧ ∃ v0 v1 as', as = v0 :: v1 :: as' ∧ hsat (some c) v1
def hEle (A : List hV) (E : hE) : Bool := (E.1.isNone || hGet A 0 == E.1) && (E.2.isNone || (!E.1.isNone && hGet A 1 == E.2))
theorem hEle_ok {A : List hV} {E : hE} {as : List zV} (h : hEle A E = true) (hs : hS A as) : hEn E as := by
  obtain ⟨e0, e1⟩ := E
  unfold hEle at h
  rw [Bool.and_eq_true] at h
  obtain ⟨h0, h1⟩ := h
  refine ⟨fun c hc => ?_, fun c hc => ?_⟩
  · have hc : e0 = some c := hc
    subst hc
    have h2 : hGet A 0 = some c := by simpa using h0
    match A, as, hs, h2 with
    | a :: A, v :: as, hs, h2 =>
      have e : a = some c := h2
      rw [e] at hs
      exact ⟨v, as, rfl, hs.1⟩
    | [], _, _, h2 => cases h2
    | _ :: _, [], hs, _ => exact hs.elim
  · have hc : e1 = some c := hc
    subst hc
    have h2 : (¬ e0 = none) ∧ hGet A 1 = some c := by
      simp at h1
      refine ⟨fun q => ?_, h1.2⟩
      rw [q] at h1
      simp at h1
    refine ⟨h2.1, ?_⟩
    match A, as, hs, h2.2 with
    | a :: b :: A, v :: w :: as, hs, h2 =>
      have e : b = some c := h2
      rw [e] at hs
      exact ⟨v, w, as, rfl, hs.2.1⟩
    | [], _, _, h2 => cases h2
    | [_], _, _, h2 => cases h2
    | _ :: _ :: _, [], hs, _ => exact hs.elim
    | _ :: _ :: _, [_], hs, _ => exact hs.2.elim
theorem hEn_L {E : hE} {n : Nat} {as : List zV} (h : hEn E as) : hL [E.1, E.2] (zloc n as) := by
  obtain ⟨e0, e1⟩ := E
  intro i v hv
  have ref : ∀ {c : Nat} {w : zV}, hsat (some c) w → ∃ a, w = .inr (.inl (some a)) := fun h => ⟨h.choose, h.choose_spec.1⟩
  match i with
  | 0 =>
    cases e0 with
    | none => trivial
    | some c =>
      obtain ⟨w, as', rfl, hw⟩ := h.1 c rfl
      obtain ⟨a, rfl⟩ := ref hw
      cases hv
      exact hw
  | 1 =>
    cases e1 with
    | none => trivial
    | some c =>
      obtain ⟨hn, w0, w1, as', rfl, hw⟩ := h.2 c rfl
      cases e0 with
      | none => exact absurd rfl hn
      | some c0 =>
        obtain ⟨w, as2, e, hw0⟩ := h.1 c0 rfl
        cases e
        obtain ⟨a0, rfl⟩ := ref hw0
        obtain ⟨a, rfl⟩ := ref hw
        cases hv
        exact hw
  | i + 2 => trivial
def hTo (D : Nat → Option (List hV × List hV)) (pcs : List Nat) (pc : Nat) (L S : List hV) : Bool := pcs.contains pc && match D pc with
  | some (L', S') => hleL L L' && hleS S S'
  | none => false
noncomputable def hChk (T : Nat → Nat × Nat × Int) (C : hC) (rv : Bool) (D : Nat → Option (List hV × List hV)) (cc : ByteArray) (pcs : List Nat) (E : hE) : Bool := hTo D pcs 0 [E.1, E.2] [] && pcs.all (fun pc => match D pc with
  | some (L, S) => match decode cc pc with
    | .ok (i, n) => hI T C rv (hTo D pcs) i pc n L S
    | .error _ => true
  | none => false)
/-- what a method may store into: arrays' cells (or kinds), fields of cells, fields of a class, rows of references -/
abbrev hW : Type := List Nat × List (Nat × Nat) × List (Nat × Nat) × List Nat
def hP (W : hW) (a j : Nat) : Prop := (∀ k, k ∈ W.1 → ¬ hOf k a) ∧ (∀ p, p ∈ W.2.1 → hOf p.1 a → ¬ p.2 = j) ∧ ∀ p, p ∈ W.2.2.1 → p.2 = j → ∀ fts, ¬ gx.2 (gx.1 a) = .inl (p.1, fts)
def hQ (W : hW) (a : Nat) : Prop := ∀ k, k ∈ W.2.2.2 → ¬ hOf k a
def hsub (V W : hW) : Bool := V.1.all (fun k => W.1.contains k) && (V.2.1.all (fun k => W.2.1.contains k) && (V.2.2.1.all (fun k => W.2.2.1.contains k) && V.2.2.2.all (fun k => W.2.2.2.contains k)))
theorem hsub_ok {V W : hW} (h : hsub V W = true) : (∀ a j, hP W a j → hP V a j) ∧ ∀ a, hQ W a → hQ V a := by
  unfold hsub at h
  rw [Bool.and_eq_true, Bool.and_eq_true, Bool.and_eq_true, List.all_eq_true, List.all_eq_true, List.all_eq_true, List.all_eq_true] at h
  obtain ⟨h1, h2, h3, h4⟩ := h
  exact ⟨fun a j hp => ⟨fun k hk => hp.1 k (by simpa using h1 k hk), fun p hq => hp.2.1 p (by simpa using h2 p hq), fun p hq => hp.2.2 p (by simpa using h3 p hq)⟩, fun a hp k hk => hp k (by simpa using h4 k hk)⟩
theorem hRm_sub {V W : hW} (h : hsub V W = true) {μ μ' : xM} (hr : hRm (hP V) (hQ V) μ μ') : hRm (hP W) (hQ W) μ μ' := fun h0 => by
  obtain ⟨s1, s2⟩ := hsub_ok h
  obtain ⟨a1, a2, a3, a4⟩ := hr h0
  exact ⟨a1, a2, fun a j hp => a3 a j (s1 a j hp), fun a hq => a4 a (s2 a hq)⟩
abbrev hT : Type := Nat → List (hE × hW)
def hCw (vs : hT) (rt : Nat → Bool) (W : hW) : hC := (fun k => W.1.contains k, fun k j => W.2.1.contains (k, j), fun c j => W.2.2.1.contains (c, j), fun k => W.2.2.2.contains k, fun mn A => (vs mn).any (fun p => hEle A p.1 && hsub p.2 W), rt)
def hWk (W : hW) : Bool := W.2.2.2.all (fun k => decide (k = 41 ∨ k = 42))
theorem hGood_w {vs : hT} {rt : Nat → Bool} {W : hW} (hk : hWk W = true) : hGood (hP W) (hQ W) (hCw vs rt W) := by
  refine ⟨fun k a j h ho hp => ?_, fun k a j h ho hp => ?_, fun c a j fts h ho hp => ?_, fun k a h ho hq => ?_, fun k hkt k2 hk2 ho => ?_⟩
  · exact hp.1 k (by have h : W.1.contains k = true := h; simpa using h) ho
  · exact hp.2.1 (k, j) (by have h : W.2.1.contains (k, j) = true := h; simpa using h) ho rfl
  · exact hp.2.2 (c, j) (by have h : W.2.2.1.contains (c, j) = true := h; simpa using h) rfl fts ho
  · exact hq k (by have h : W.2.2.2.contains k = true := h; simpa using h) ho
  · unfold hWk at hk
    have h1 := List.all_eq_true.mp hk k2 hk2
    have h2 : k2 = 41 ∨ k2 = 42 := by simpa using h1
    have h3 : k = k2 := ho.1 (by omega)
    unfold hTw at hkt
    simp at hkt
    omega
def hGd (vs : hT) (rt : Nat → Bool) (q : xP) (E : hE) (W : hW) (rv : Bool) : Prop := (∃ (pcs : List Nat) (T : Nat → Nat × Nat × Int) (D : Nat → Option (List hV × List hV)), xTb q.1.cls = T ∧ (hWk W && hChk T (hCw vs rt W) rv D q.2.1 pcs E) = true) ∨ ∀ (as : List zV) (r : Option zV) (μ μ' : xM), hEn E as → Ex gx q as μ r μ' → hOK μ → r.isSome = rv ∧ hRm (hP W) (hQ W) μ μ'
theorem hAll {vs : hT} {rt : Nat → Bool} (hA : ∀ (mn : Nat) (q : xP), xMB mn = some q → ∀ p, p ∈ vs mn → hGd vs rt q p.1 p.2 (rt mn)) {q : xP} {as : List zV} {r : Option zV} {μ μ' : xM} {E : hE} {W : hW} {rv : Bool} (hq : hGd vs rt q E W rv) (hE : hEn E as) (h : Ex gx q as μ r μ') (hO : hOK μ) : r.isSome = rv ∧ hRm (hP W) (hQ W) μ μ' := by
  have key := h (fun q as μ r μ' => Ex gx q as μ r μ' ∧ ∀ E W rv, hGd vs rt q E W rv → hEn E as → hOK μ → r.isSome = rv ∧ hRm (hP W) (hQ W) μ μ') (fun q as μ r μ' hb => ?_)
  · exact key.2 E W rv hq hE hO
  · have hX : Ex gx q as μ r μ' := Ex_in (xBig_mono (fun _ _ _ _ _ h => h.1) hb)
    refine ⟨hX, fun E W rv hg hE hO => ?_⟩
    rcases hg with ⟨pcs, T, D, hT, hk⟩ | hg
    · obtain ⟨n, pf, Lf, Sf, h1, h2⟩ := hb
      rw [Bool.and_eq_true] at hk
      obtain ⟨hkw, hk⟩ := hk
      unfold hChk at hk
      rw [Bool.and_eq_true, List.all_eq_true] at hk
      obtain ⟨hk0, hk⟩ := hk
      have hst : ∀ (n : Nat) (a b : eS) (AL AS : List hV), eN gx (fun q as μ r μ' => Ex gx q as μ r μ' ∧ ∀ E W rv, hGd vs rt q E W rv → hEn E as → hOK μ → r.isSome = rv ∧ hRm (hP W) (hQ W) μ μ') q.2.1 q.1.cls n a b → hTo D pcs a.1 AL AS = true → hL AL a.2.1 → hS AS a.2.2.1 → hOK a.2.2.2 → hRm (hP W) (hQ W) a.2.2.2 b.2.2.2 ∧ (∀ (i : Instr) (m : Nat), decode q.2.1 b.1 = .ok (i, m) → ∃ L S, hI T (hCw vs rt W) rv (hTo D pcs) i b.1 m L S = true) := by
        intro n
        induction n with
        | zero =>
          intro a b AL AS h ht _ _ _
          cases h
          refine ⟨hRm_rf, fun i m hd => ?_⟩
          unfold hTo at ht
          rw [Bool.and_eq_true] at ht
          have hm : a.1 ∈ pcs := by simpa using ht.1
          have hk2 := hk a.1 hm
          cases hD : D a.1 with
          | none => rw [hD] at hk2; cases hk2
          | some LS =>
            rw [hD, hd] at hk2
            exact ⟨LS.1, LS.2, hk2⟩
        | succ n ih =>
          intro a b AL AS h ht hl hs hO
          obtain ⟨c, hst, h⟩ := h
          rcases hst with ⟨i, m, hd, hi⟩ | ⟨e1, e2, e3⟩
          · unfold hTo at ht
            rw [Bool.and_eq_true] at ht
            have hm : a.1 ∈ pcs := by simpa using ht.1
            have hk2 := hk a.1 hm
            cases hD : D a.1 with
            | none => rw [hD] at hk2; cases hk2
            | some LS =>
              obtain ⟨L1, S1⟩ := LS
              rw [hD, hd] at hk2
              have hk2 : hI T (hCw vs rt W) rv (hTo D pcs) i a.1 m L1 S1 = true := hk2
              have ht2 := ht.2
              rw [hD] at ht2
              replace ht2 : (hleL AL L1 && hleS AS S1) = true := ht2
              rw [Bool.and_eq_true] at ht2
              obtain ⟨AL', AS', t1, t2, t3, t4⟩ := hI_ok (hGood_w hkw) hT hi hk2 (hleL_ok ht2.1 hl) (hleS_ok ht2.2 hs) hO (fun mn q as r ν ν' A ha hq hs hx ho => by
                have ha : (vs mn).any (fun p => hEle A p.1 && hsub p.2 W) = true := ha
                rw [List.any_eq_true] at ha
                obtain ⟨p, hp, hz⟩ := ha
                rw [Bool.and_eq_true] at hz
                obtain ⟨w1, w2⟩ := hx.2 p.1 p.2 _ (hA mn q hq p hp) (hEle_ok hz.1 hs) ho
                exact ⟨w1, hRm_sub hz.2 w2⟩)
              obtain ⟨y1, y2⟩ := ih c b AL' AS' h t1 t2 t3 (t4 hO).1
              exact ⟨hRm_tr t4 y1, y2⟩
          · have e4 : c.2.2.2 = a.2.2.2 := by rw [e3]
            have e5 : c.2.2.1 = a.2.2.1 := by rw [e3]
            obtain ⟨y1, y2⟩ := ih c b AL AS h (by rw [e1]; exact ht) (hL_fg e2 hl) (by rw [e5]; exact hs) (by rw [e4]; exact hO)
            rw [e4] at y1
            exact ⟨y1, y2⟩
      obtain ⟨y1, y2⟩ := hst n _ _ _ _ h1 hk0 (hEn_L hE) trivial hO
      refine ⟨?_, y1⟩
      rcases h2 with ⟨hd, x, -, rfl⟩ | ⟨hd, -, rfl⟩ | ⟨hd, x, -, rfl⟩
      · obtain ⟨L, S, hz⟩ := y2 _ _ hd
        exact (show rv = true from hz).symm
      · obtain ⟨L, S, hz⟩ := y2 _ _ hd
        have hz : (!rv) = true := hz
        cases rv with
        | false => rfl
        | true => cases hz
      · obtain ⟨L, S, hz⟩ := y2 _ _ hd
        exact (show rv = true from hz).symm
    · exact hg as r μ μ' hE hX hO
/-- is an object of a class -/
noncomputable def hcl (a c : Nat) : Bool := match gx.2 (gx.1 a) with
  | .inl (d, _) => d == c
  | .inr _ => false
/-- a cell below 119 and a place in it that stand -/
noncomputable def hpB (W : hW) (a j : Nat) : Bool := W.1.all (fun k => !(if k < 119 then a == k else gx.1 a == k)) && (W.2.1.all (fun p => !((if p.1 < 119 then a == p.1 else gx.1 a == p.1) && p.2 == j)) && W.2.2.1.all (fun p => !(p.2 == j && hcl a p.1)))
theorem hOf_b {k a : Nat} (h : hOf k a) : (if k < 119 then a == k else gx.1 a == k) = true := by
  by_cases q : k < 119
  · rw [if_pos q, h.1 q]
    exact beq_self_eq_true _
  · rw [if_neg q, h.2 (by omega)]
    exact beq_self_eq_true _
theorem hpB_ok {W : hW} {a j : Nat} (h : hpB W a j = true) : hP W a j := by
  unfold hpB at h
  rw [Bool.and_eq_true, Bool.and_eq_true, List.all_eq_true, List.all_eq_true, List.all_eq_true] at h
  obtain ⟨h1, h2, h3⟩ := h
  refine ⟨fun k hk ho => ?_, fun p hp ho e => ?_, fun p hp e fts hg => ?_⟩
  · have := h1 k hk
    rw [hOf_b ho] at this
    cases this
  · have := h2 p hp
    rw [hOf_b ho, e] at this
    simp at this
  · have := h3 p hp
    have e2 : hcl a p.1 = true := by
      unfold hcl
      rw [hg]
      exact beq_self_eq_true _
    rw [e2, e] at this
    simp at this
noncomputable def hqB (W : hW) (a : Nat) : Bool := W.2.2.2.all (fun k => !(if k < 119 then a == k else gx.1 a == k))
theorem hqB_ok {W : hW} {a : Nat} (h : hqB W a = true) : hQ W a := by
  unfold hqB at h
  rw [List.all_eq_true] at h
  intro k hk ho
  have := h k hk
  rw [hOf_b ho] at this
  cases this
