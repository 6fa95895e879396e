/-! ===== BOXES: an abstract walk, decided by computation ===== -/
def ile (a b : Int) : Bool := match b - a with
  | .ofNat _ => true
  | .negSucc _ => false
theorem ile_ok {a b : Int} (h : ile a b = true) : a ≤ b := by
  unfold ile at h
  split at h
  · rename_i n hn
    have : (0 : Int) ≤ b - a := by rw [hn]; exact Int.natCast_nonneg n
    omega
  · cases h
theorem ile_no {a b : Int} (h : ile a b = false) : b < a := by
  unfold ile at h
  split at h
  · cases h
  · rename_i n hn
    have : b - a < 0 := by rw [hn]; exact Int.negSucc_lt_zero n
    omega
def imax (a b : Int) : Int := bif ile a b then b else a
def imin (a b : Int) : Int := bif ile a b then a else b
theorem imax_l (a b : Int) : a ≤ imax a b := by
  unfold imax
  cases h : ile a b with
  | true => exact ile_ok h
  | false => exact Int.le_refl a
theorem imax_r (a b : Int) : b ≤ imax a b := by
  unfold imax
  cases h : ile a b with
  | true => exact Int.le_refl b
  | false => exact Int.le_of_lt (ile_no h)
theorem imax_c {a b c : Int} (h1 : a ≤ c) (h2 : b ≤ c) : imax a b ≤ c := by
  unfold imax
  cases ile a b <;> assumption
theorem imin_l (a b : Int) : imin a b ≤ a := by
  unfold imin
  cases h : ile a b with
  | true => exact Int.le_refl a
  | false => exact Int.le_of_lt (ile_no h)
theorem imin_r (a b : Int) : imin a b ≤ b := by
  unfold imin
  cases h : ile a b with
  | true => exact ile_ok h
  | false => exact Int.le_refl b
theorem imin_c {a b c : Int} (h1 : c ≤ a) (h2 : c ≤ b) : c ≤ imin a b := by
  unfold imin
  cases ile a b <;> assumption
/-- a symbol and an offset; the symbol 0 is 0 -/
abbrev aN : Type := Nat × Int
/-- an int; (0, r) the cell r, (k + 1, kd) a cell of the kind kd; a long -/
abbrev aV : Type := aN ⊕ ((Nat × Nat) ⊕ Unit)
abbrev aQ : Type := Int × Int
/-- intervals of the symbols; which symbol is an element (table, index); locals; stack; fields; spent -/
abbrev aS : Type := List aQ × List (Nat × Nat × aN) × List (Option aV) × List aV × List (Nat × aN) × (Nat × Nat)
abbrev aF : Type := aS → Option (List (Nat × aS))
/-- a table of elements: a modulus, and ranges of places with their bounds -/
abbrev aTb : Type := Nat × List (Nat × Nat × Int × Int)
/-- the table of a kind, the tables, the bounds of the int fields -/
abbrev aT : Type := (Nat → Nat) × (Nat → aTb) × (Nat → aQ)
def eOK (t : aTb) (i : Nat) (v : Int) : Prop := ∀ q ∈ t.2, q.1 ≤ i % t.1 → i % t.1 ≤ q.2.1 → q.2.2.1 ≤ v ∧ v ≤ q.2.2.2
def aTie (g : zG) (T : aT) : Prop := (∀ (kd i : Nat) (v : Int32), g.2.2.1 kd i v ↔ eOK (T.2.1 (T.1 kd)) i v.toInt) ∧ ∀ (iv : Nat) (v : Int32), g.2.2.2.1 iv v ↔ (T.2.2 iv).1 ≤ v.toInt ∧ v.toInt ≤ (T.2.2 iv).2
def aEnOk (ρ : Nat → Int) (en : List aQ) : Prop := ρ 0 = 0 ∧ ∀ (s : Nat) (q : aQ), en[s]? = some q → q.1 ≤ ρ s ∧ ρ s ≤ q.2
def aVOk (g : zG) (ρ : Nat → Int) (n : Nat) (v : aV) (z : zV) : Prop := match v with
  | .inl a => a.1 < n ∧ ∃ x : Int32, z = .inl x ∧ x.toInt = ρ a.1 + a.2
  | .inr (.inl (0, r)) => z = .inr (.inl (some r))
  | .inr (.inl (_ + 1, kd)) => ∃ r, z = .inr (.inl (some r)) ∧ g.1 r = kd
  | .inr (.inr _) => ∃ x, z = .inr (.inr x)
def aTgOk (T : aT) (ρ : Nat → Int) (n : Nat) (tg : List (Nat × Nat × aN)) : Prop := ∀ q ∈ tg, q.1 < n ∧ q.2.2.1 < n ∧ eOK (T.2.1 q.2.1) (ρ q.2.2.1 + q.2.2.2).toNat (ρ q.1)
def aLOk (g : zG) (ρ : Nat → Int) (n : Nat) (AL : List (Option aV)) (L : zL) : Prop := L.length = AL.length ∧ ∀ i : Nat, (∀ v, AL[i]? = some (some v) → ∃ z, L[i]? = some (some z) ∧ aVOk g ρ n v z) ∧ (AL[i]? = some none → zlg L[i]? = false)
def aSOk (g : zG) (ρ : Nat → Int) (n : Nat) : List aV → List zV → Prop
  | [], S => S = []
  | v :: AS, S => ∃ z S', S = z :: S' ∧ aVOk g ρ n v z ∧ aSOk g ρ n AS S'
def aFOk (ρ : Nat → Int) (n : Nat) (FI : List (Nat × aN)) (I : zI) : Prop := ∀ q ∈ FI, q.2.1 < n ∧ (I q.1).toInt = ρ q.2.1 + q.2.2
/-- fl: whether Inv is kept, whether known arrays may change -/
def aG (g : zG) (T : aT) (Inv : zI → Prop) (fl : Bool × Bool) (I0 : zI) (ρ : Nat → Int) (A : aS) (L : zL) (S : List zV) (I : zI) (B : Nat × Nat) : Prop :=
  aEnOk ρ A.1 ∧ aTgOk T ρ A.1.length A.2.1 ∧ aLOk g ρ A.1.length A.2.2.1 L ∧ aSOk g ρ A.1.length A.2.2.2.1 S ∧ aFOk ρ A.1.length A.2.2.2.2.1 I ∧ B = A.2.2.2.2.2 ∧ (fl.1 = true → Inv I) ∧ (∀ id, id < 4096 → (∀ a, (id, a) ∉ A.2.2.2.2.1) → I id = I0 id) ∧ (fl.2 = false → ∀ id, 4096 ≤ id → I id = I0 id)
def aAg (ρ ρ' : Nat → Int) (n : Nat) : Prop := ∀ s, s < n → ρ' s = ρ s
theorem aAg_rf {ρ : Nat → Int} {n : Nat} : aAg ρ ρ n := fun _ _ => rfl
theorem aAg_tr {ρ ρ' ρ'' : Nat → Int} {n n' : Nat} (h : n ≤ n') (h1 : aAg ρ ρ' n) (h2 : aAg ρ' ρ'' n') : aAg ρ ρ'' n := fun s hs => (h2 s (Nat.lt_of_lt_of_le hs h)).trans (h1 s hs)
section A1
variable {g : zG} {T : aT} {Inv : zI → Prop} {fl : Bool × Bool} {I0 : zI}
theorem aVOk_mono {ρ ρ' : Nat → Int} {n n' : Nat} (hn : n ≤ n') (hr : aAg ρ ρ' n) {v : aV} {z : zV} (h : aVOk g ρ n v z) : aVOk g ρ' n' v z := by
  match v, h with
  | .inl a, ⟨h1, x, h2, h3⟩ => exact ⟨Nat.lt_of_lt_of_le h1 hn, x, h2, by rw [hr _ h1]; exact h3⟩
  | .inr (.inl (0, r)), h => exact h
  | .inr (.inl (_ + 1, kd)), h => exact h
  | .inr (.inr _), h => exact h
theorem aSOk_mono {ρ ρ' : Nat → Int} {n n' : Nat} (hn : n ≤ n') (hr : aAg ρ ρ' n) : ∀ {AS : List aV} {S : List zV}, aSOk g ρ n AS S → aSOk g ρ' n' AS S
  | [], S, h => h
  | v :: AS, S, h => by
    obtain ⟨z, S', rfl, h1, h2⟩ := h
    exact ⟨z, S', rfl, aVOk_mono hn hr h1, aSOk_mono hn hr h2⟩
theorem aLOk_mono {ρ ρ' : Nat → Int} {n n' : Nat} (hn : n ≤ n') (hr : aAg ρ ρ' n) {AL : List (Option aV)} {L : zL} (h : aLOk g ρ n AL L) : aLOk g ρ' n' AL L :=
  ⟨h.1, fun i => ⟨fun v hv => by obtain ⟨z, h1, h2⟩ := (h.2 i).1 v hv; exact ⟨z, h1, aVOk_mono hn hr h2⟩, (h.2 i).2⟩⟩
theorem aFOk_mono {ρ ρ' : Nat → Int} {n n' : Nat} (hn : n ≤ n') (hr : aAg ρ ρ' n) {FI : List (Nat × aN)} {I : zI} (h : aFOk ρ n FI I) : aFOk ρ' n' FI I :=
  fun q hq => ⟨Nat.lt_of_lt_of_le (h q hq).1 hn, by rw [hr _ (h q hq).1]; exact (h q hq).2⟩
theorem aTgOk_mono {ρ ρ' : Nat → Int} {n n' : Nat} (hn : n ≤ n') (hr : aAg ρ ρ' n) {tg : List (Nat × Nat × aN)} (h : aTgOk T ρ n tg) : aTgOk T ρ' n' tg :=
  fun q hq => ⟨Nat.lt_of_lt_of_le (h q hq).1 hn, Nat.lt_of_lt_of_le (h q hq).2.1 hn, by rw [hr _ (h q hq).1, hr _ (h q hq).2.1]; exact (h q hq).2.2⟩
theorem aEnOk_lt {ρ : Nat → Int} {en : List aQ} (h : aEnOk ρ en) {s : Nat} (hs : s < en.length) : ∃ q, en[s]? = some q ∧ q.1 ≤ ρ s ∧ ρ s ≤ q.2 :=
  ⟨en[s], List.getElem?_eq_getElem hs, h.2 s _ (List.getElem?_eq_getElem hs)⟩
/-- the bounds of an int -/
noncomputable def aiv (en : List aQ) (a : aN) : aQ := match xget en a.1 with
  | some q => (q.1 + a.2, q.2 + a.2)
  | none => (-2147483648, 2147483647)
theorem aiv_ok {ρ : Nat → Int} {en : List aQ} (h : aEnOk ρ en) {a : aN} {x : Int32} (hx : x.toInt = ρ a.1 + a.2) : (aiv en a).1 ≤ x.toInt ∧ x.toInt ≤ (aiv en a).2 := by
  unfold aiv
  rw [xget_eq]
  cases hq : en[a.1]? with
  | none => exact ⟨an_lo x, an_hi x⟩
  | some q =>
    have := h.2 _ _ hq
    show q.1 + a.2 ≤ _ ∧ _ ≤ q.2 + a.2
    omega
/-- one symbol more -/
def aupd (ρ : Nat → Int) (n : Nat) (v : Int) : Nat → Int := fun s => if s = n then v else ρ s
theorem aupd_ag {ρ : Nat → Int} {n : Nat} {v : Int} : aAg ρ (aupd ρ n v) n := fun s hs => by unfold aupd; rw [if_neg (by omega)]
theorem aupd_at {ρ : Nat → Int} {n : Nat} {v : Int} : aupd ρ n v n = v := by unfold aupd; rw [if_pos rfl]
theorem aEnOk_ext {ρ : Nat → Int} {en : List aQ} (h0 : 0 < en.length) (h : aEnOk ρ en) {q : aQ} {v : Int} (h1 : q.1 ≤ v) (h2 : v ≤ q.2) : aEnOk (aupd ρ en.length v) (en ++ [q]) := by
  refine ⟨by rw [aupd_ag 0 h0]; exact h.1, fun s q' hs => ?_⟩
  by_cases hl : s < en.length
  · rw [List.getElem?_append_left hl] at hs
    rw [aupd_ag s hl]
    exact h.2 s q' hs
  · have he : s = en.length := by
      have := (List.getElem?_eq_some_iff.mp hs).1
      rw [List.length_append] at this
      simp at this
      omega
    subst he
    simp at hs
    subst hs
    rw [aupd_at]
    exact ⟨h1, h2⟩
/-- what stands for a result: an int that is known, or bounds -/
def aRes (ρ : Nat → Int) (n : Nat) (r : aN ⊕ aQ) (v : Int32) : Prop := match r with
  | .inl a => a.1 < n ∧ v.toInt = ρ a.1 + a.2
  | .inr q => q.1 ≤ v.toInt ∧ v.toInt ≤ q.2
def apsh (A : aS) (r : aN ⊕ aQ) (AS : List aV) : aS := match r with
  | .inl a => (A.1, A.2.1, A.2.2.1, .inl a :: AS, A.2.2.2.2)
  | .inr q => (A.1 ++ [q], A.2.1, A.2.2.1, .inl (A.1.length, 0) :: AS, A.2.2.2.2)
theorem aG_pos {ρ : Nat → Int} {A : aS} {L : zL} {S : List zV} {I : zI} {B : Nat × Nat} (h : aG g T Inv fl I0 ρ A L S I B) : aEnOk ρ A.1 := h.1
/-- one symbol more in the state -/
theorem aG_ext {ρ : Nat → Int} {A : aS} {L : zL} {S : List zV} {I : zI} {B : Nat × Nat} (h0 : 0 < A.1.length) (h : aG g T Inv fl I0 ρ A L S I B) {q : aQ} {v : Int} (h1 : q.1 ≤ v) (h2 : v ≤ q.2) : aG g T Inv fl I0 (aupd ρ A.1.length v) (A.1 ++ [q], A.2) L S I B := by
  obtain ⟨e1, e2, e3, e4, e5, e6⟩ := h
  have hn : A.1.length ≤ (A.1 ++ [q]).length := by simp
  exact ⟨aEnOk_ext h0 e1 h1 h2, aTgOk_mono hn aupd_ag e2, aLOk_mono hn aupd_ag e3, aSOk_mono hn aupd_ag e4, aFOk_mono hn aupd_ag e5, e6⟩
theorem apsh_ok {ρ : Nat → Int} {A : aS} {L : zL} {S S0 : List zV} {I : zI} {B : Nat × Nat} (h0 : 0 < A.1.length) (h : aG g T Inv fl I0 ρ A L S I B) {AS : List aV} (hS : aSOk g ρ A.1.length AS S0) {r : aN ⊕ aQ} {x : Int32} (hr : aRes ρ A.1.length r x) : ∃ ρ', aAg ρ ρ' A.1.length ∧ A.1.length ≤ (apsh A r AS).1.length ∧ aG g T Inv fl I0 ρ' (apsh A r AS) L (.inl x :: S0) I B := by
  cases r with
  | inl a =>
    obtain ⟨e1, e2, e3, e4, e5, e6⟩ := h
    exact ⟨ρ, aAg_rf, Nat.le_refl _, e1, e2, e3, ⟨_, _, rfl, ⟨hr.1, x, rfl, hr.2⟩, hS⟩, e5, e6⟩
  | inr q =>
    obtain ⟨e1, e2, e3, e4, e5, e6⟩ := aG_ext h0 h hr.1 hr.2
    have hn : A.1.length ≤ (A.1 ++ [q]).length := by simp
    exact ⟨_, aupd_ag, hn, e1, e2, e3, ⟨_, _, rfl, ⟨by simp [apsh], x, rfl, by show x.toInt = aupd _ _ _ A.1.length + 0; rw [aupd_at]; omega⟩, aSOk_mono hn aupd_ag hS⟩, e5, e6⟩
/-- another stack -/
theorem aG_stk {ρ : Nat → Int} {A : aS} {L : zL} {S S0 : List zV} {I : zI} {B : Nat × Nat} (h : aG g T Inv fl I0 ρ A L S I B) {AS : List aV} (hS : aSOk g ρ A.1.length AS S0) : aG g T Inv fl I0 ρ (A.1, A.2.1, A.2.2.1, AS, A.2.2.2.2) L S0 I B := by
  obtain ⟨e1, e2, e3, e4, e5, e6⟩ := h
  exact ⟨e1, e2, e3, hS, e5, e6⟩
/-- an abstract step is sound for a step -/
def aSnd (g : zG) (T : aT) (Inv : zI → Prop) (fl : Bool × Bool) (f : zF) (F : aF) : Prop :=
  ∀ (I0 : zI) (A : aS) (outs : List (Nat × aS)), F A = some outs → ∀ (ρ : Nat → Int) (L : zL) (S : List zV) (I : zI) (B : Nat × Nat), 0 < A.1.length → aG g T Inv fl I0 ρ A L S I B → ∀ K : zK,
    (∀ (pc : Nat) (A' : aS), (pc, A') ∈ outs → ∀ (ρ' : Nat → Int) (L' : zL) (S' : List zV) (I' : zI) (B' : Nat × Nat), aAg ρ ρ' A.1.length → A.1.length ≤ A'.1.length → aG g T Inv fl I0 ρ' A' L' S' I' B' → K pc L' S' I' B') → f K L S I B
end A1
