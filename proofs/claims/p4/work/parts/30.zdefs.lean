/-! ===== WEAKEST PRECONDITIONS: exact ints, hidden arrays ===== -/
/-- an int, a reference by its cell's number (none: null), a long -/
abbrev zV : Type := Int32 ⊕ (Option Nat ⊕ Int64)
/-- the int fields that a walk knows -/
abbrev zI : Type := Nat → Int32
abbrev zL : Type := List (Option zV)
abbrev zK : Type := Nat → zL → List zV → zI → Nat × Nat → Prop
abbrev zF : Type := zK → zL → List zV → zI → Nat × Nat → Prop
/-- a field's type: (0, id) I id, (1, iv) an int with F iv, (2, r) the cell r, (3, kind) some cell of that kind -/
abbrev zT : Type := Nat × Nat
/-- a kind: an object (class, fields), an array (type tag, length) -/
abbrev zD : Type := (Nat × List zT) ⊕ (Nat × Nat)
/-- the tables: kinds of numbers, what a kind is, invariants of elements, of ints, of longs, which arrays the walk knows -/
abbrev zG : Type := (Nat → Nat) × (Nat → zD) × (Nat → Nat → Int32 → Prop) × (Nat → Int32 → Prop) × (Nat → Nat → Int64 → Prop) × (Nat → Bool)
def zid (kd i : Nat) : Nat := 4096 * (kd + 1) + i
/-- an element: known to the walk, or of which the invariant holds -/
def zE (g : zG) (I : zI) (kd i : Nat) (v : Int32) : Prop := (g.2.2.2.2.2 kd = true ∧ v = I (zid kd i)) ∨ (g.2.2.2.2.2 kd = false ∧ g.2.2.1 kd i v)
/-- a long that the walk knows: two ints -/
def zlj (h l : Int32) : Int64 := Int64.ofInt (h.toInt * 4294967296 + l.toInt)
def zlw (I : zI) (kd j : Nat) : Int64 := zlj (I (zid kd j)) (I (zid (kd + 5000) j))
def zll (v : Int64) : Int32 := Int32.ofInt v.toInt
def zlh (v : Int64) : Int32 := Int32.ofInt ((v.toInt - (zll v).toInt) / 4294967296)
theorem zlj_at (v : Int64) : zlj (zlh v) (zll v) = v := by
  have b32 : ∀ x : Int, ∃ k : Int, x.bmod 4294967296 = x - 4294967296 * k := by
    intro x
    rw [Int.bmod_def]
    split
    · exact ⟨x / 4294967296, by omega⟩
    · exact ⟨x / 4294967296 + 1, by omega⟩
  have t32 : ∀ x : Int, (Int32.ofInt x).toInt = x.bmod 4294967296 := fun x => Int32.toInt_ofInt
  have t64 : ∀ x : Int, (Int64.ofInt x).toInt = x.bmod 18446744073709551616 := fun x => Int64.toInt_ofInt
  have h1 := Int64.le_toInt v
  have h2 := Int64.toInt_le v
  have h1 : -9223372036854775808 ≤ v.toInt := h1
  have h2 : v.toInt ≤ 9223372036854775807 := h2
  apply Int64.toInt_inj.mp
  unfold zlj
  rw [t64]
  obtain ⟨c, hc⟩ := b32 v.toInt
  have hl : (zll v).toInt = v.toInt - 4294967296 * c := by
    unfold zll
    rw [t32, hc]
  have hq : (v.toInt - (zll v).toInt) / 4294967296 = c := by
    rw [hl]
    omega
  obtain ⟨e, he⟩ := b32 c
  have hh : (zlh v).toInt = c - 4294967296 * e := by
    unfold zlh
    rw [hq, t32, he]
  rw [hh, hl, Int.bmod_def]
  split <;> omega
/-- an element of an array of longs -/
def zEl (g : zG) (I : zI) (kd j : Nat) (v : Int64) : Prop := g.2.2.2.2.1 kd j v ∧ (g.2.2.2.2.2 kd = true → v = zlw I kd j)
def zRV (sz N : Nat) (v : zV) (u : Value) : Prop := match v with
  | .inl x => u = .int x
  | .inr (.inl none) => u = .null
  | .inr (.inl (some r)) => u = .ref (sz + r) ∧ r < N
  | .inr (.inr x) => u = .long x
def zRS (sz N : Nat) : List zV → List Value → Prop
  | [], st => st = []
  | v :: S, st => ∃ u st', st = u :: st' ∧ zRV sz N v u ∧ zRS sz N S st'
theorem zRV_mono {sz N N' : Nat} (h : N ≤ N') {v : zV} {u : Value} (hv : zRV sz N v u) : zRV sz N' v u := by
  match v, hv with
  | .inl x, hv => exact hv
  | .inr (.inl none), hv => exact hv
  | .inr (.inl (some r)), hv => exact ⟨hv.1, Nat.lt_of_lt_of_le hv.2 h⟩
  | .inr (.inr _), hv => exact hv
theorem zRS_mono {sz N N' : Nat} (h : N ≤ N') : ∀ {S : List zV} {st : List Value}, zRS sz N S st → zRS sz N' S st
  | [], st, hS => hS
  | v :: S, st, hS => by
    obtain ⟨u, st', rfl, h1, h2⟩ := hS
    exact ⟨u, st', rfl, zRV_mono h h1, zRS_mono h h2⟩
theorem zRS_len {sz N : Nat} : ∀ {S : List zV} {st : List Value}, zRS sz N S st → st.length = S.length
  | [], st, h => by cases h; rfl
  | a :: S, st, h => by
    obtain ⟨u, st', rfl, -, h2⟩ := h
    simp [zRS_len h2]
theorem zRS_app {sz N : Nat} : ∀ {S1 S2 : List zV} {t1 t2 : List Value}, zRS sz N S1 t1 → zRS sz N S2 t2 → zRS sz N (S1 ++ S2) (t1 ++ t2)
  | [], S2, t1, t2, h1, h2 => by cases h1; exact h2
  | a :: S1, S2, t1, t2, h1, h2 => by
    obtain ⟨u, t', rfl, q1, q2⟩ := h1
    exact ⟨u, t' ++ t2, rfl, q1, zRS_app q2 h2⟩
theorem zRS_rev {sz N : Nat} : ∀ {S : List zV} {st : List Value}, zRS sz N S st → zRS sz N S.reverse st.reverse
  | [], st, h => by cases h; rfl
  | a :: S, st, h => by
    obtain ⟨u, t', rfl, q1, q2⟩ := h
    simp only [List.reverse_cons]
    exact zRS_app (zRS_rev q2) ⟨u, [], rfl, q1, rfl⟩
theorem zRS_split {sz N : Nat} : ∀ {S1 S2 : List zV} {st : List Value}, zRS sz N (S1 ++ S2) st → ∃ t1 t2, st = t1 ++ t2 ∧ zRS sz N S1 t1 ∧ zRS sz N S2 t2
  | [], S2, st, h => ⟨[], st, rfl, rfl, h⟩
  | a :: S1, S2, st, h => by
    obtain ⟨u, t', rfl, q1, q2⟩ := h
    obtain ⟨t1, t2, rfl, q3, q4⟩ := zRS_split q2
    exact ⟨u :: t1, t2, rfl, ⟨u, t1, rfl, q1, q3⟩, q4⟩
/-- what stands in a field -/
def zFt (g : zG) (sz N : Nat) (I : zI) (ft : zT) (x : Value) : Prop :=
  (ft.1 = 0 ∧ x = .int (I ft.2)) ∨ (ft.1 = 1 ∧ ∃ v : Int32, x = .int v ∧ g.2.2.2.1 ft.2 v) ∨ (ft.1 = 2 ∧ x = .ref (sz + ft.2) ∧ ft.2 < N) ∨ (ft.1 = 3 ∧ ∃ r : Nat, r < N ∧ g.1 r = ft.2 ∧ x = .ref (sz + r))
/-- whether something stands at a place of an array of cells -/
def zflag : Option Nat → Int32
  | none => 0
  | some _ => 1
/-- what a cell is -/
def zCell (g : zG) (sz N : Nat) (tys : List (ClassId × FieldType)) (I : zI) (k : Nat) (u : va_E) : Prop := match g.2.1 (g.1 k) with
  | .inl (ci, fts) => ∃ vs : List Value, u = .inr (ci, vs) ∧ vs.length = fts.length ∧ ∀ (j : Nat) (ft : zT), fts[j]? = some ft → ∃ x, vs[j]? = some x ∧ zFt g sz N I ft x
  | .inr (t, n) => ∃ (cA : ClassId) (ty : FieldType), tys[t]? = some (cA, ty) ∧ n < 2147483648 ∧
      ((t < 3 ∧ ∃ f : Nat → Int32, u = .inl (cA, n, .inl f) ∧ ∀ j, j < n → zE g I (g.1 k) j (f j)) ∨ (t = 3 ∧ ∃ f : Nat → Int64, u = .inl (cA, n, .inr (.inl f)) ∧ ∀ j, j < n → zEl g I (g.1 k) j (f j)) ∨
       (t = 4 ∧ ∃ f : Nat → Option Nat, u = .inl (cA, n, .inr (.inr (.inr (.inr f)))) ∧ (∀ j a, j < n → f j = some a → ∃ r, r < N ∧ g.1 r = 1000 ∧ a = sz + r) ∧ ∀ j, j < n → zE g I (g.1 k) j (zflag (f j))))
theorem zFt_mono {g : zG} {sz N N' : Nat} {I : zI} (h : N ≤ N') {ft : zT} {x : Value} (hx : zFt g sz N I ft x) : zFt g sz N' I ft x := by
  rcases hx with h1 | h1 | ⟨h1, h2, h3⟩ | ⟨h1, r, h2, h3, h4⟩
  · exact Or.inl h1
  · exact Or.inr (Or.inl h1)
  · exact Or.inr (Or.inr (Or.inl ⟨h1, h2, Nat.lt_of_lt_of_le h3 h⟩))
  · exact Or.inr (Or.inr (Or.inr ⟨h1, r, Nat.lt_of_lt_of_le h2 h, h3, h4⟩))
theorem zCell_mono {g : zG} {sz N N' : Nat} {tys : List (ClassId × FieldType)} {I : zI} (h : N ≤ N') {k : Nat} {u : va_E} (hu : zCell g sz N tys I k u) : zCell g sz N' tys I k u := by
  unfold zCell at hu ⊢
  cases hd : g.2.1 (g.1 k) with
  | inl q =>
    obtain ⟨ci, fts⟩ := q
    rw [hd] at hu
    obtain ⟨vs, h1, h2, h3⟩ := hu
    refine ⟨vs, h1, h2, fun j ft hj => ?_⟩
    obtain ⟨x, h4, h5⟩ := h3 j ft hj
    exact ⟨x, h4, zFt_mono h h5⟩
  | inr q =>
    obtain ⟨t, n⟩ := q
    rw [hd] at hu
    obtain ⟨cA, ty, h1, h2, h3⟩ := hu
    refine ⟨cA, ty, h1, h2, ?_⟩
    rcases h3 with h3 | h3 | ⟨h3, f, h4, h5, h6⟩
    · exact Or.inl h3
    · exact Or.inr (Or.inl h3)
    · refine Or.inr (Or.inr ⟨h3, f, h4, fun j a hj ha => ?_, h6⟩)
      obtain ⟨r, h7, h8, h9⟩ := h5 j a hj ha
      exact ⟨r, Nat.lt_of_lt_of_le h7 h, h8, h9⟩
def zW (g : zG) (sz N : Nat) (tys : List (ClassId × FieldType)) (I : zI) (ws : va_W) : Prop := ws.length = N ∧ (∀ k, k < N → ∃ u : va_E, ws[k]? = some (sz + k, u) ∧ zCell g sz N tys I k u) ∧ 119 ≤ N ∧ N % 6 = 5
theorem zW_addr {g : zG} {sz N : Nat} {tys : List (ClassId × FieldType)} {I : zI} {ws : va_W} (h : zW g sz N tys I ws) {k : Nat} {q : Nat × va_E} (hk : ws[k]? = some q) : q.1 = sz + k := by
  have hl : k < ws.length := (List.getElem?_eq_some_iff.mp hk).1
  rw [h.1] at hl
  obtain ⟨u, h1, -⟩ := h.2.1 k hl
  cases h1.symm.trans hk
  rfl
theorem zW_D {g : zG} {sz N : Nat} {tys : List (ClassId × FieldType)} {I : zI} {ws : va_W} (h : zW g sz N tys I ws) : va_D (fun q => sz ≤ q) ws :=
  ⟨fun i j p q hi hj he => by have h1 := zW_addr h hi; have h2 := zW_addr h hj; omega, fun k q hk => by have h1 := zW_addr h hk; show sz ≤ q.1; omega⟩
/-- the two texts of the class: where they lie, what stands in them; nothing of it is of the walk's own cells -/
def zByt : List (List Int32) := [[59, 61, 43, 45, 42, 47, 60, 40, 41], [104, 111, 117, 115, 101, 32, 32, 32, 118, 101, 114, 115, 101, 32, 32, 32, 108, 101, 97, 118, 101, 32, 32, 32, 114, 97, 110, 107, 32, 32, 32, 32, 119, 101, 97, 114, 115, 32, 32, 32, 112, 97, 121, 115, 32, 32, 32, 32, 115, 112, 111, 105, 108, 115, 32, 32, 116, 104, 105, 101, 118, 101, 115, 32, 115, 101, 101, 100, 32, 32, 32, 32, 105, 102, 32, 32, 32, 32, 32, 32, 116, 104, 101, 110, 32, 32, 32, 32, 101, 108, 115, 101, 32, 32, 32, 32, 118, 97, 108, 117, 101, 32, 32, 32, 100, 117, 101, 32, 32, 32, 32, 32, 100, 97, 121, 32, 32, 32, 32, 32, 119, 111, 114, 110, 32, 32, 32, 32, 104, 97, 115, 32, 32, 32, 32, 32, 119, 104, 105, 99, 104, 32, 32, 32, 108, 101, 116, 116, 101, 114, 32, 32, 108, 111, 110, 103, 32, 32, 32, 32, 108, 101, 110, 116, 32, 32, 32, 32]]
def zTx0 : String := ";=+-*/<()"
def zTx1 : String := "house   verse   leave   rank    wears   pays    spoils  thieves seed    if      then    else    value   due     day     worn    has     which   letter  long    lent    "
def zStr (sz : Nat) (s : State) : Prop := ∃ adK adV : Nat → Nat, vk_R "CapitalCase$Tokens" 39 zTx0 (adK 0) s ∧ vk_R "CapitalCase$Tokens" 51 zTx1 (adK 1) s ∧ vk_S 2 [9, 168] zByt adK adV (fun q => sz ≤ q) s s.heap ∧ va_Z "java/lang/String" "COMPACT_STRINGS" "Z" (.int 1) (fun q => sz ≤ q) s s.heap ∧ va_Zq "jdk/internal/util/Preconditions" "SIOOBE_FORMATTER" "Ljava/util/function/BiFunction;" (fun q => sz ≤ q) s s.heap
theorem zStr_mv {sz : Nat} {s U : State} {locs : List Loc} (hW : s.WarmedH U.vm) (hS : va_S (fun q => sz ≤ q) s.heap U.heap locs) (h : zStr sz s) : zStr sz U := by
  obtain ⟨adK, adV, h1, h2, h3, h4, h5⟩ := h
  exact ⟨adK, adV, vk_R.warm hW h1, vk_R.warm hW h2, vk_S.moved hW.alike (vk_S.kept h3 hS.2.1), va_Z.moved hW.alike (va_Z.kept h4 hS.2.1), va_Zq.moved hW.alike (va_Zq.kept h5 hS.2.1)⟩
theorem zStr_same {sz : Nat} {s U : State} (hv : U.vm = s.vm) (hh : U.heap = s.heap) (h : zStr sz s) : zStr sz U := by
  obtain ⟨adK, adV, h1, h2, h3, h4, h5⟩ := h
  have ha : s.vm.Alike U.vm := by rw [hv]; exact Vm.Alike.refl s.vm
  exact ⟨adK, adV, vk_R.same hv h1, vk_R.same hv h2, by rw [hh]; exact vk_S.moved ha h3, by rw [hh]; exact va_Z.moved ha h4, by rw [hh]; exact va_Zq.moved ha h5⟩
/-- the memory of a walk: sc is the count of cells at the method's entry -/
def zMem (g : zG) (D : va_G) (tys : List (ClassId × FieldType)) (sz N sc : Nat) (s : State) (I : zI) (H : Heap) (locs : List Loc) : Prop :=
  (∃ ws : va_W, zW g sz N tys I ws ∧ va_P D vwCl ws H) ∧ H.size = sz + N ∧ va_S (fun q => sz ≤ q) s.heap H locs ∧ s.heap.size = sz + sc ∧ zStr sz s
def zRL (sz N : Nat) (L : zL) (ls : Array Slot) (nL : Nat) : Prop :=
  L.length = nL ∧ ∃ lv : List (Nat × Value), lv_has ls nL lv ∧ ∀ (i : Nat) (v : zV), L[i]? = some (some v) → ∃ u : Value, (i, u) ∈ lv ∧ zRV sz N v u
/-- contracts: at depth d, of method j: pre, post, the bound of cells and slots -/
abbrev zPre : Type := Nat → Nat → List zV → zI → Prop
abbrev zPost : Type := Nat → List zV → zI → Option zV → zI → Prop
def zRO (sz N : Nat) (r : Option zV) (v : Option Value) : Prop := match r with
  | none => v = none
  | some a => ∃ u, v = some u ∧ zRV sz N a u
def zPc (g : zG) (D : va_G) (tys : List (ClassId × FieldType)) (sz : Nat) (as : List zV) (I : zI) : Array Value → State → Prop := fun v U =>
  ∃ (N : Nat) (us : List Value), v = us.toArray ∧ zRS sz N as us ∧ (∃ ws : va_W, zW g sz N tys I ws ∧ va_P D vwCl ws U.heap) ∧ U.heap.size = sz + N ∧ va_K D vwCl tys U ∧ tys.map Prod.snd = xTys ∧ xN U ∧ zStr sz U
def zQc (g : zG) (D : va_G) (tys : List (ClassId × FieldType)) (sz : Nat) (P : Option zV → zI → Prop) : Array Value → State → Outcome → State → Prop := fun _ st o t =>
  ∃ (N : Nat) (v : Option Value) (r : Option zV) (I : zI), st.heap.size ≤ sz + N ∧ o = .returned v ∧ P r I ∧ zRO sz N r v ∧ (∃ ws : va_W, zW g sz N tys I ws ∧ va_P D vwCl ws t.heap) ∧ t.heap.size = sz + N ∧ va_F (fun q => sz ≤ q) st t
def zMet (g : zG) (q : xP) (d : Nat) (bd : Nat × Nat) (as : List zV) (I : zI) (P : Option zV → zI → Prop) : Prop :=
  ∀ (l : Launch) (D : va_G) (tys : List (ClassId × FieldType)) (sz : Nat), Met l q.1 (.code q.1 q.2.1 q.2.2.1 q.2.2.2 :: xTB) (xRm d bd.1 bd.2) (zPc g D tys sz as I) (zQc g D tys sz P) bd.1 bd.2 (fun a => sz ≤ a)
def zCalls (g : zG) (PX : xPX) (bd : Nat → Nat × Nat) (pre : zPre) (post : zPost) (d : Nat) : Prop := ∀ (j : Nat) (as : List zV) (I : zI) (q : xP), pre d j as I → PX j = some q → zMet g q d (bd j) as I (post j as I)
/-- a step is sound; d: the depth left, the method's bound of cells and slots -/
def zSound (g : zG) (PX : xPX) (bd : Nat → Nat × Nat) (pre : zPre) (post : zPost) (d : Nat × Nat × Nat) (cc : ByteArray) (own : String) (pc : Nat) (f : zF) : Prop :=
  ∀ (K : zK) (L : zL) (S : List zV) (I : zI) (B : Nat × Nat), f K L S I B → zCalls g PX bd pre post d.1 →
    ∀ (p : Program) (l : Launch) (e : Env) (R : Room) (s : State) (m : MethodId) (args : Array Value) (below : List Frame) (meth : Method) (c : Code) (Q : State → Prop) (nL : Nat) (D : va_G) (tys : List (ClassId × FieldType)) (sz sc : Nat),
    xCtx p s m args meth c cc own false nL D tys → d.1 + 1 ≤ R.frames → (64 * (d.1 + 1) ≤ R.locals ∧ d.2.1 ≤ R.cells ∧ d.2.2 ≤ R.slots) →
    (∀ (pc' : Nat) (L' : zL) (S' : List zV) (I' : zI) (B' : Nat × Nat), K pc' L' S' I' B' → ∀ (N' : Nat) (ls' : Array Slot) (st' : List Value) (H' : Heap) (locs' : List Loc), zMem g D tys sz N' sc s I' H' locs' → zRL sz N' L' ls' nL → zRS sz N' S' st' → B'.1 ≤ R.cells → B'.2 ≤ R.slots → W p l e R s m args below meth c H' locs' B'.1 B'.2 Q (F0 m pc' ls' st')) →
    ∀ (N : Nat) (ls : Array Slot) (st : List Value) (H : Heap) (locs : List Loc), zMem g D tys sz N sc s I H locs → zRL sz N L ls nL → zRS sz N S st → B.1 ≤ R.cells → B.2 ≤ R.slots → W p l e R s m args below meth c H locs B.1 B.2 Q (F0 m pc ls st)
