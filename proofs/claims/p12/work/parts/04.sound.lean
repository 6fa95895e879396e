/-! ===== WHAT AN ABSTRACT STATE SAYS OF THE MACHINE ===== -/
def xTys : List FieldType := [.int, .byte, .boolean, .long, .object "CapitalCase$Town"]
def xTB : List Cond := lw_tbl.filter goodWord
theorem xmem {w : Cond} (h : w ∈ lw_tbl) (hg : goodWord w = true) : w ∈ xTB := List.mem_filter.mpr ⟨h, hg⟩
theorem xw {w : Cond} (i : Nat) (h : lw_tbl[i]? = some w) (hg : goodWord w = true) : w ∈ xTB := xmem (List.mem_of_getElem? h) hg
/-- what is known of a long: 0: nothing, k + 1: its value is k -/
def xRJ (k : Nat) (x : Int64) : Prop := match k with
  | 0 => True
  | k + 1 => x.toInt = (k : Int)
/-- in an array of longs -/
def xRQ (q : Nat × Nat) (x : Int64) : Prop := (q.1 = 2147483648 → x = 0) ∧ (q.1 = 1 → xRJ q.2 x)
theorem xlbm {k : Int} (h0 : 0 ≤ k) (h1 : k ≤ 9223372036854775807) : k.bmod 18446744073709551616 = k := by
  rw [Int.bmod_def]
  split <;> omega
noncomputable def xlb (f : Nat → Nat → Nat) (i j : Nat) : Nat := match i, j with
  | a + 1, b + 1 => bif Nat.ble (f a b) 9223372036854775807 then f a b + 1 else 0
  | _, _ => 0
theorem xlb_ok {f : Nat → Nat → Nat} {g : Int64 → Int64 → Int64} (hg : ∀ (x y : Int64) (a b : Nat), x.toInt = (a : Int) → y.toInt = (b : Int) → f a b ≤ 9223372036854775807 → (g x y).toInt = (f a b : Int)) {i j : Nat} {x y : Int64} (hx : xRJ i x) (hy : xRJ j y) : xRJ (xlb f i j) (g x y) := by
  match i, j, hx, hy with
  | 0, 0, _, _ => exact trivial
  | 0, j + 1, _, _ => exact trivial
  | i + 1, 0, _, _ => exact trivial
  | a + 1, b + 1, hx, hy =>
    show xRJ (bif Nat.ble (f a b) 9223372036854775807 then f a b + 1 else 0) (g x y)
    cases hc : Nat.ble (f a b) 9223372036854775807 with
    | false => exact trivial
    | true => exact hg x y a b hx hy (Nat.le_of_ble_eq_true hc)
theorem xlb_add (x y : Int64) (a b : Nat) (hx : x.toInt = (a : Int)) (hy : y.toInt = (b : Int)) (h : Nat.add a b ≤ 9223372036854775807) : (x + y).toInt = ((Nat.add a b : Nat) : Int) := by
  have h : a + b ≤ 9223372036854775807 := h
  show (x + y).toInt = ((a + b : Nat) : Int)
  rw [Int64.toInt_add, hx, hy, Int.natCast_add]
  exact xlbm (by omega) (by omega)
theorem xlb_mul (x y : Int64) (a b : Nat) (hx : x.toInt = (a : Int)) (hy : y.toInt = (b : Int)) (h : Nat.mul a b ≤ 9223372036854775807) : (x * y).toInt = ((Nat.mul a b : Nat) : Int) := by
  have h : a * b ≤ 9223372036854775807 := h
  show (x * y).toInt = ((a * b : Nat) : Int)
  rw [Int64.toInt_mul, hx, hy, ← Int.natCast_mul]
  exact xlbm (by omega) (by omega)
/-- an int as a long -/
noncomputable def xil (a : Nat × Nat) : Nat := bif Nat.beq a.1 a.2 && Nat.ble 2147483648 a.1 then Nat.succ (Nat.sub a.1 2147483648) else 0
theorem xil_ok {a : Nat × Nat} {x : Int32} (h : xRI a x) : xRJ (xil a) x.toInt64 := by
  unfold xil
  obtain ⟨m, hm⟩ : ∃ m, m = Nat.sub a.1 2147483648 := ⟨_, rfl⟩
  rw [← hm]
  cases hc : (Nat.beq a.1 a.2 && Nat.ble 2147483648 a.1) with
  | false => exact trivial
  | true =>
    simp only [Bool.and_eq_true] at hc
    have h1 := Nat.eq_of_beq_eq_true hc.1
    have h2 := Nat.le_of_ble_eq_true hc.2
    obtain ⟨h3, h4⟩ := h
    have h5 := xo_int x
    have hm : m = a.1 - 2147483648 := hm
    show x.toInt64.toInt = (m : Int)
    rw [Int32.toInt_toInt64]
    omega
def xRV (sz b : Nat) (v : xV) (u : Value) : Prop := match v with
  | .inl a => ∃ x : Int32, u = .int x ∧ xRI a x
  | .inr (.inl none) => u = .null
  | .inr (.inl (some k)) => u = .ref (sz + k)
  | .inr (.inr 0) => u = .ref b
  | .inr (.inr (k + 1)) => ∃ x : Int64, u = .long x ∧ xRJ k x
def xRS (sz b : Nat) : List xV → List Value → Prop
  | [], st => st = []
  | v :: S, st => ∃ u st', st = u :: st' ∧ xRV sz b v u ∧ xRS sz b S st'
theorem xRS_get {sz b : Nat} : ∀ {S : List xV} {st : List Value} {k : Nat} {v : xV}, xRS sz b S st → S[k]? = some v → ∃ u, st[k]? = some u ∧ xRV sz b v u
  | [], st, k, v, _, h => by simp at h
  | a :: S, st, 0, v, h, hk => by
    obtain ⟨u, st', rfl, h1, -⟩ := h
    simp only [List.getElem?_cons_zero, Option.some.injEq] at hk
    subst hk
    exact ⟨u, rfl, h1⟩
  | a :: S, st, k + 1, v, h, hk => by
    obtain ⟨u, st', rfl, -, h2⟩ := h
    simp only [List.getElem?_cons_succ] at hk ⊢
    exact xRS_get h2 hk
theorem xRS_len {sz b : Nat} : ∀ {S : List xV} {st : List Value}, xRS sz b S st → st.length = S.length
  | [], st, h => by cases h; rfl
  | a :: S, st, h => by
    obtain ⟨u, st', rfl, -, h2⟩ := h
    simp [xRS_len h2]
theorem xRS_set {sz b : Nat} {v : xV} {u : Value} (hv : xRV sz b v u) : ∀ {S : List xV} {st : List Value} (k : Nat), xRS sz b S st → xRS sz b (S.set k v) (st.set k u)
  | [], st, k, h => by cases h; rfl
  | a :: S, st, 0, h => by
    obtain ⟨u', st', rfl, h1, h2⟩ := h
    exact ⟨u, st', rfl, hv, h2⟩
  | a :: S, st, k + 1, h => by
    obtain ⟨u', st', rfl, h1, h2⟩ := h
    exact ⟨u', st'.set k u, rfl, h1, xRS_set hv k h2⟩
theorem xRS_map {sz b : Nat} {f : Nat → xV} {g : Nat → Value} : ∀ (l : List Nat), (∀ j ∈ l, xRV sz b (f j) (g j)) → xRS sz b (l.map f) (l.map g)
  | [], _ => rfl
  | a :: l, h => ⟨g a, l.map g, rfl, h a List.mem_cons_self, xRS_map l (fun j hj => h j (List.mem_cons_of_mem _ hj))⟩
theorem xRS_app {sz b : Nat} : ∀ {S1 S2 : List xV} {t1 t2 : List Value}, xRS sz b S1 t1 → xRS sz b S2 t2 → xRS sz b (S1 ++ S2) (t1 ++ t2)
  | [], S2, t1, t2, h1, h2 => by cases h1; exact h2
  | a :: S1, S2, t1, t2, h1, h2 => by
    obtain ⟨u, t', rfl, q1, q2⟩ := h1
    exact ⟨u, t' ++ t2, rfl, q1, xRS_app q2 h2⟩
theorem xRS_rev {sz b : Nat} : ∀ {S : List xV} {st : List Value}, xRS sz b S st → xRS sz b S.reverse st.reverse
  | [], st, h => by cases h; rfl
  | a :: S, st, h => by
    obtain ⟨u, t', rfl, q1, q2⟩ := h
    simp only [List.reverse_cons]
    exact xRS_app (xRS_rev q2) ⟨u, [], rfl, q1, rfl⟩
theorem xRS_split {sz b : Nat} : ∀ {S1 S2 : List xV} {st : List Value}, xRS sz b (S1 ++ S2) st → ∃ t1 t2, st = t1 ++ t2 ∧ xRS sz b S1 t1 ∧ xRS sz b S2 t2
  | [], S2, st, h => ⟨[], st, rfl, rfl, h⟩
  | a :: S1, S2, st, h => by
    obtain ⟨u, t', rfl, q1, q2⟩ := h
    obtain ⟨t1, t2, rfl, q3, q4⟩ := xRS_split q2
    exact ⟨u :: t1, t2, rfl, ⟨u, t1, rfl, q1, q3⟩, q4⟩
def xRE (sz b : Nat) (tys : List (ClassId × FieldType)) (e : xE) (u : va_E) : Prop := match e with
  | .inl (t, n, d, us) => ∃ (cA : ClassId) (ty : FieldType), tys[t]? = some (cA, ty) ∧ n < 2147483648 ∧ ((t < 3 ∧ ∃ f : Nat → Int32, u = .inl (cA, n, .inl f) ∧ ∀ j, j < n → xRI (xlk us d j) (f j)) ∨ (t = 3 ∧ ∃ f : Nat → Int64, u = .inl (cA, n, .inr (.inl f)) ∧ ∀ j, j < n → xRQ (xlk us d j) (f j)))
  | .inr (.inl (t, n, us)) => ∃ (cA : ClassId) (ty : FieldType), tys[t]? = some (cA, ty) ∧ n < 2147483648 ∧ t = 4 ∧ ∃ f : Nat → Option Nat, u = .inl (cA, n, .inr (.inr (.inr (.inr f)))) ∧ ∀ j, j < n → f j = (xlq us j).map (fun k => sz + k)
  | .inr (.inr (ci, fs)) => ∃ vs : List Value, u = .inr (ci, vs) ∧ xRS sz b fs vs
def xRW (sz b : Nat) (tys : List (ClassId × FieldType)) (w : xW) (ws : va_W) : Prop :=
  ws.length = w.2.1 ∧ (∀ (k : Nat) (e : xE), xwg w k = some e → ∃ u : va_E, ws[k]? = some (sz + k, u) ∧ xRE sz b tys e u) ∧ ∀ (k : Nat) (q : Nat × va_E), ws[k]? = some q → q.1 = sz + k
theorem xRW_D {sz b : Nat} {tys : List (ClassId × FieldType)} {w : xW} {ws : va_W} (h : xRW sz b tys w ws) : va_D (fun q => sz ≤ q) ws :=
  ⟨fun i j p q hi hj he => by have h1 := h.2.2 i p hi; have h2 := h.2.2 j q hj; omega, fun k q hk => by have h1 := h.2.2 k q hk; show sz ≤ q.1; omega⟩
theorem xRW_set {sz b k : Nat} {tys : List (ClassId × FieldType)} {w : xW} {ws : va_W} {e0 e : xE} {u : va_E} (h : xRW sz b tys w ws) (hk : xwg w k = some e0) (hu : xRE sz b tys e u) : xRW sz b tys (xws w k e) (ws.set k (sz + k, u)) := by
  have hn := xws_nums w k e
  obtain ⟨u0, h0, -⟩ := h.2.1 k e0 hk
  have hl : k < ws.length := (List.getElem?_eq_some_iff.mp h0).1
  refine ⟨by rw [List.length_set, hn.2]; exact h.1, fun j e' hj => ?_, fun j q hj => ?_⟩
  · rw [xwg_set hk] at hj
    by_cases hjk : j = k
    · subst hjk
      rw [if_pos rfl] at hj
      cases hj
      exact ⟨u, List.getElem?_set_self hl, hu⟩
    · rw [if_neg hjk] at hj
      rw [List.getElem?_set_ne (Ne.symm hjk)]
      exact h.2.1 j e' hj
  · by_cases hjk : j = k
    · subst hjk
      rw [List.getElem?_set_self hl] at hj
      cases hj
      rfl
    · rw [List.getElem?_set_ne (Ne.symm hjk)] at hj
      exact h.2.2 j q hj
theorem xRW_push {sz b n : Nat} {tys : List (ClassId × FieldType)} {w w' : xW} {ws : va_W} {e : xE} {u : va_E} (h : xRW sz b tys w ws) (hk : xwp w e n = some w') (hu : xRE sz b tys e u) : xRW sz b tys w' (ws ++ [(sz + w.2.1, u)]) := by
  have hl := h.1
  refine ⟨by rw [List.length_append, (xwg_push (j := 0) hk).2.1, hl]; rfl, fun j e' hj => ?_, fun j q hj => ?_⟩
  · rw [(xwg_push (j := j) hk).2.2] at hj
    by_cases hjk : j = w.2.1
    · subst hjk
      rw [if_pos rfl] at hj
      cases hj
      refine ⟨u, ?_, hu⟩
      rw [List.getElem?_append_right (by omega), hl, Nat.sub_self]
      rfl
    · rw [if_neg hjk] at hj
      obtain ⟨u', h1, h2⟩ := h.2.1 j e' hj
      refine ⟨u', ?_, h2⟩
      rw [List.getElem?_append_left (List.getElem?_eq_some_iff.mp h1).1]
      exact h1
  · by_cases hjl : j < ws.length
    · rw [List.getElem?_append_left hjl] at hj
      exact h.2.2 j q hj
    · rw [List.getElem?_append_right (by omega)] at hj
      have hz : j - ws.length < 1 := (List.getElem?_eq_some_iff.mp hj).1
      rw [show j - ws.length = 0 by omega] at hj
      cases hj
      show sz + w.2.1 = sz + j
      omega
/-- the links to private members of nest mates -/
def xNT : List (String × Nat × MethodName × String) := [("CapitalCase$Parser", 20, ⟨"CapitalCase$Tokens", "<init>", "()V"⟩, "CapitalCase"), ("CapitalCase", 38, ⟨"CapitalCase$Town", "<init>", "()V"⟩, "CapitalCase"), ("CapitalCase", 48, ⟨"CapitalCase$History", "<init>", "()V"⟩, "CapitalCase"), ("CapitalCase", 63, ⟨"CapitalCase$Prints", "<init>", "()V"⟩, "CapitalCase"), ("CapitalCase$TwoDays", 11, ⟨"CapitalCase$Town", "<init>", "()V"⟩, "CapitalCase"), ("CapitalCase$History", 19, ⟨"CapitalCase$Town", "<init>", "()V"⟩, "CapitalCase")]
def xN (s : State) : Prop := (∀ q ∈ xNT, va_Nw (.methodLinkNest q.1 q.2.1 q.2.2.1 q.2.2.2) s) ∧ va_AO "CapitalCase$Town" s
theorem xN_warm {s U : State} (hW : s.WarmedH U.vm) (h : xN s) : xN U := ⟨fun q hq => va_Nw.warmM hW (h.1 q hq), va_AO.moved hW.alike h.2⟩
theorem xN_same {s U : State} (hv : s.vm = U.vm) (h : xN s) : xN U := ⟨fun q hq => va_Nw.same rfl hv (h.1 q hq), va_AO.moved (by rw [← hv]; exact Vm.Alike.refl s.vm) h.2⟩
/-! the walk of a method -/
def xCtx (p : Program) (s : State) (m : MethodId) (args : Array Value) (meth : Method) (c : Code) (cc : ByteArray) (own : String) (ini : Bool) (nL : Nat) (D : va_G) (tys : List (ClassId × FieldType)) : Prop :=
  p.tables.exec = Jvm.exec ∧ c.code = cc ∧ c.maxLocals = nL ∧ s.vm.findClass own = some m.cls ∧ (∀ w ∈ xTB, w.before args s = true) ∧ va_K D vwCl tys s ∧ tys.map Prod.snd = xTys ∧ (ini = true → meth.name = "<init>") ∧ xN s
def xMem (D : va_G) (tys : List (ClassId × FieldType)) (sz b : Nat) (s : State) (c0 s0 : Nat) (w : xW) (H : Heap) (locs : List Loc) (cells slots : Nat) : Prop :=
  (∃ ws : va_W, xRW sz b tys w ws ∧ va_P D vwCl ws H) ∧ H.size = sz + w.2.1 ∧ va_S (fun q => sz ≤ q) s.heap H locs ∧ c0 + cells = w.2.1 ∧ s0 + slots = w.1 ∧ s.heap.size = sz + c0
def xRL (sz b : Nat) (L : List (Option xV)) (ls : Array Slot) (nL : Nat) : Prop :=
  L.length = nL ∧ ∃ lv : List (Nat × Value), lv_has ls nL lv ∧ ∀ (i : Nat) (v : xV), xget L i = some (some v) → ∃ u : Value, (i, u) ∈ lv ∧ xRV sz b v u
def xReach (G : State → Nat → Nat → Prop) (cc : ByteArray) (own : String) (ini : Bool) (pc d : Nat) (L : List (Option xV)) (S : List xV) (w : xW) (pc' : Nat) (L' : List (Option xV)) (S' : List xV) (w' : xW) : Prop :=
  ∀ (p : Program) (l : Launch) (e : Env) (R : Room) (s : State) (m : MethodId) (args : Array Value) (below : List Frame) (meth : Method) (c : Code) (Q : State → Prop) (nL : Nat) (D : va_G) (tys : List (ClassId × FieldType)) (sz b c0 s0 : Nat),
    xCtx p s m args meth c cc own ini nL D tys → G s sz b → d + 1 ≤ R.frames → 64 * (d + 1) ≤ R.locals → w'.2.1 ≤ c0 + R.cells → w'.1 ≤ s0 + R.slots →
    ∀ (ls : Array Slot) (st : List Value) (H : Heap) (locs : List Loc) (cells slots : Nat), xMem D tys sz b s c0 s0 w H locs cells slots → xRL sz b L ls nL → xRS sz b S st →
    (∀ (ls' : Array Slot) (st' : List Value) (H' : Heap) (locs' : List Loc) (cells' slots' : Nat), xMem D tys sz b s c0 s0 w' H' locs' cells' slots' → xRL sz b L' ls' nL → xRS sz b S' st' → W p l e R s m args below meth c H' locs' cells' slots' Q (F0 m pc' ls' st')) →
    W p l e R s m args below meth c H locs cells slots Q (F0 m pc ls st)
def xLe (w w' : xW) : Prop := w.2.1 ≤ w'.2.1 ∧ w.1 ≤ w'.1
theorem xLe_rf {w : xW} : xLe w w := ⟨Nat.le_refl _, Nat.le_refl _⟩
/-! contracts of calls -/
def xPc (D : va_G) (tys : List (ClassId × FieldType)) (sz b : Nat) (as : List xV) (w : xW) : Array Value → State → Prop := fun v U =>
  ∃ us : List Value, v = us.toArray ∧ xRS sz b as us ∧ (∃ ws : va_W, xRW sz b tys w ws ∧ va_P D vwCl ws U.heap) ∧ U.heap.size = sz + w.2.1 ∧ va_K D vwCl tys U ∧ tys.map Prod.snd = xTys ∧ xN U
def xRO (sz b : Nat) (r : Option xV) (v : Option Value) : Prop := match r with
  | none => v = none
  | some a => ∃ u, v = some u ∧ xRV sz b a u
def xQc (D : va_G) (tys : List (ClassId × FieldType)) (sz b : Nat) (r : Option xV) (w' : xW) : Array Value → State → Outcome → State → Prop := fun _ st o t =>
  ∃ v : Option Value, o = .returned v ∧ xRO sz b r v ∧ (∃ ws : va_W, xRW sz b tys w' ws ∧ va_P D vwCl ws t.heap) ∧ t.heap.size = sz + w'.2.1 ∧ va_F (fun q => sz ≤ q) st t
def xRm (d mc ms : Nat) : Room := { frames := d, cells := mc, slots := ms, locals := 64 * d }
abbrev xP : Type := MethodName × ByteArray × Nat × Option FieldType
def xMet (q : xP) (d : Nat) (as : List xV) (w : xW) (r : Option xV) (w' : xW) : Prop :=
  ∀ (l : Launch) (D : va_G) (tys : List (ClassId × FieldType)) (sz b : Nat), Met l q.1 (.code q.1 q.2.1 q.2.2.1 q.2.2.2 :: xTB) (xRm d (w'.2.1 - w.2.1) (w'.1 - w.1)) (xPc D tys sz b as w) (xQc D tys sz b r w') (w'.2.1 - w.2.1) (w'.1 - w.1) (fun a => sz ≤ a)
/-- the methods by number -/
abbrev xPX : Type := Nat → Option xP
def xCalls (PX : xPX) (d : Nat) (call : xC) : Prop := ∀ (j : Nat) (as : List xV) (w : xW) (r : Option xV) (w' : xW), call j as w = some (r, w') → xLe w w' ∧ ∀ q : xP, PX j = some q → xMet q d as w r w'
def xSound (PX : xPX) (G : State → Nat → Nat → Prop) (cc : ByteArray) (own : String) (ini : Bool) (pc : Nat) (f : xF) : Prop :=
  ∀ (call : xC) (d : Nat), xCalls PX d call → ∀ (L : List (Option xV)) (S : List xV) (w : xW) (pc' : Nat) (L' : List (Option xV)) (S' : List xV) (w' : xW), f call L S w = some (pc', L', S', w') → xLe w w' ∧ xReach G cc own ini pc d L S w pc' L' S' w'
/-! the instructions that leave the world alone -/
def x_const (k n : Nat) : xF := fun _ L S w => some (n, L, .inl (k, k) :: S, w)
def x_lconst (k n : Nat) : xF := fun _ L S w => some (n, L, .inr (.inr (k + 2)) :: S, w)
noncomputable def x_iload (i n : Nat) : xF := fun _ L S w => match xget L i with
  | some (some (.inl a)) => some (n, L, .inl a :: S, w)
  | _ => none
noncomputable def x_aload (i n : Nat) : xF := fun _ L S w => match xget L i with
  | some (some (.inr (.inl (some k)))) => some (n, L, .inr (.inl (some k)) :: S, w)
  | _ => none
noncomputable def x_sload (i n : Nat) : xF := fun _ L S w => match xget L i with
  | some (some (.inr (.inr 0))) => some (n, L, .inr (.inr 0) :: S, w)
  | _ => none
noncomputable def x_lload (i n : Nat) : xF := fun _ L S w => match xget L i with
  | some (some (.inr (.inr (k + 1)))) => some (n, L, .inr (.inr (k + 1)) :: S, w)
  | _ => none
def xlg (o : Option (Option xV)) : Bool := match o with
  | some (some (.inr (.inr (_ + 1)))) => true
  | _ => false
noncomputable def xst (L : List (Option xV)) (i : Nat) (v : xV) : Option (List (Option xV)) := match xget L i with
  | none => none
  | some _ => bif xlg (xget L (i - 1)) then none else some (xset (some v) L i)
noncomputable def x_istore (i n : Nat) : xF := fun _ L S w => match S with
  | .inl a :: S => (match xst L i (.inl a) with
    | some L' => some (n, L', S, w)
    | none => none)
  | _ => none
noncomputable def x_astore (i n : Nat) : xF := fun _ L S w => match S with
  | .inr (.inl r) :: S => (match xst L i (.inr (.inl r)) with
    | some L' => some (n, L', S, w)
    | none => none)
  | _ => none
noncomputable def x_iinc (i k n : Nat) : xF := fun _ L S w => match xget L i with
  | some (some (.inl a)) => (match xst L i (.inl (xbin xfadd a (k, k))) with
    | some L' => some (n, L', S, w)
    | none => none)
  | _ => none
def x_bin (f : Nat → Nat → Nat) (n : Nat) : xF := fun _ L S w => match S with
  | .inl b :: .inl a :: S => some (n, L, .inl (xbin f a b) :: S, w)
  | _ => none
def x_un (f : Nat → Nat) (n : Nat) : xF := fun _ L S w => match S with
  | .inl a :: S => some (n, L, .inl (xun f a) :: S, w)
  | _ => none
/-- a remainder of what is not below 0 -/
def x_rem (n : Nat) : xF := fun _ L S w => match S with
  | .inl b :: .inl a :: S => bif Nat.beq a.1 a.2 && (Nat.beq b.1 b.2 && (Nat.ble 2147483648 a.1 && Nat.blt 2147483648 b.1)) then some (n, L, .inl (2147483648 + (a.1 - 2147483648) % (b.1 - 2147483648), 2147483648 + (a.1 - 2147483648) % (b.1 - 2147483648)) :: S, w) else none
  | _ => none
noncomputable def x_i2l (n : Nat) : xF := fun _ L S w => match S with
  | .inl a :: S => some (n, L, .inr (.inr (xil a + 1)) :: S, w)
  | _ => none
noncomputable def x_lbin (f : Nat → Nat → Nat) (n : Nat) : xF := fun _ L S w => match S with
  | .inr (.inr (j + 1)) :: .inr (.inr (i + 1)) :: S => some (n, L, .inr (.inr (xlb f i j + 1)) :: S, w)
  | _ => none
def x1 (v : xV) : Bool := match v with
  | .inr (.inr (_ + 1)) => false
  | _ => true
def x_dup (n : Nat) : xF := fun _ L S w => match S with
  | v :: S => bif x1 v then some (n, L, v :: v :: S, w) else none
  | _ => none
def x_dup2 (n : Nat) : xF := fun _ L S w => match S with
  | v :: u :: S => bif x1 v && x1 u then some (n, L, v :: u :: v :: u :: S, w) else none
  | _ => none
def x_if (op t n : Nat) : xF := fun _ L S w => match S with
  | .inl a :: S => (match xcmp op a (2147483648, 2147483648) with
    | some true => some (t, L, S, w)
    | some false => some (n, L, S, w)
    | none => none)
  | _ => none
def x_icmp (op t n : Nat) : xF := fun _ L S w => match S with
  | .inl b :: .inl a :: S => (match xcmp op a b with
    | some true => some (t, L, S, w)
    | some false => some (n, L, S, w)
    | none => none)
  | _ => none
def x_goto (t : Nat) : xF := fun _ L S w => some (t, L, S, w)
def x_ifnonnull (t n : Nat) : xF := fun _ L S w => match S with
  | .inr (.inl none) :: S => some (n, L, S, w)
  | .inr (.inl (some _)) :: S => some (t, L, S, w)
  | _ => none
noncomputable def x_tsw (lo : Nat) (ts : List Nat) (df : Nat) : xF := fun _ L S w => match S with
  | .inl a :: S => bif Nat.blt a.2 lo || Nat.ble (lo + ts.length) a.1 then some (df, L, S, w) else bif Nat.beq a.1 a.2 then (match xget ts (a.1 - lo) with
    | some t => some (t, L, S, w)
    | none => none) else none
  | _ => none
section XS1
variable {PX : xPX} {G : State → Nat → Nat → Prop} {cc : ByteArray} {own : String} {ini : Bool} {pc : Nat}
theorem xRV1 {sz b : Nat} {v : xV} {u : Value} (h : xRV sz b v u) (h1 : x1 v = true) : u.category = 1 := by
  match v, h, h1 with
  | .inl a, h, _ => obtain ⟨x, rfl, -⟩ := h; rfl
  | .inr (.inl none), h, _ => cases h; rfl
  | .inr (.inl (some k)), h, _ => cases h; rfl
  | .inr (.inr 0), h, _ => cases h; rfl
  | .inr (.inr (k + 1)), _, h1 => cases h1
theorem s_iconst {n : Int} {k : Nat} (hd : decode cc pc = .ok (.iconst n, 1)) (hv : xo (Int32.ofInt n) = k) : xSound PX G cc own ini pc (x_const k (pc + 1)) := by
  intro call d hc L S w pc' L' S' w' h
  cases h
  refine ⟨xLe_rf, ?_⟩
  intro p l e R s m args below meth c Q nL D tys sz b c0 s0 C hG hf hlo h1 h2 ls st H locs cells slots hM hL hS kk
  exact lv_iconst C.1 C.2.1 hd rfl (kk _ _ _ _ _ _ hM hL ⟨_, _, rfl, ⟨_, rfl, hv ▸ xRI_c _⟩, hS⟩)
theorem s_bipush {n : Int} {k : Nat} (hd : decode cc pc = .ok (.bipush n, 2)) (hv : xo (Int8.ofInt n).toInt32 = k) : xSound PX G cc own ini pc (x_const k (pc + 2)) := by
  intro call d hc L S w pc' L' S' w' h
  cases h
  refine ⟨xLe_rf, ?_⟩
  intro p l e R s m args below meth c Q nL D tys sz b c0 s0 C hG hf hlo h1 h2 ls st H locs cells slots hM hL hS kk
  exact lv_bipush C.1 C.2.1 hd rfl (kk _ _ _ _ _ _ hM hL ⟨_, _, rfl, ⟨_, rfl, hv ▸ xRI_c _⟩, hS⟩)
theorem s_sipush {n : Int} {k : Nat} (hd : decode cc pc = .ok (.sipush n, 3)) (hv : xo (Int16.ofInt n).toInt32 = k) : xSound PX G cc own ini pc (x_const k (pc + 3)) := by
  intro call d hc L S w pc' L' S' w' h
  cases h
  refine ⟨xLe_rf, ?_⟩
  intro p l e R s m args below meth c Q nL D tys sz b c0 s0 C hG hf hlo h1 h2 ls st H locs cells slots hM hL hS kk
  exact lv_sipush C.1 C.2.1 hd rfl (kk _ _ _ _ _ _ hM hL ⟨_, _, rfl, ⟨_, rfl, hv ▸ xRI_c _⟩, hS⟩)
theorem s_ldc {index : Nat} {v : Int32} {k : Nat} (hd : decode cc pc = .ok (.ldc index, 2)) (hw : Cond.constant own index v ∈ xTB) (hv : xo v = k) : xSound PX G cc own ini pc (x_const k (pc + 2)) := by
  intro call d hc L S w pc' L' S' w' h
  cases h
  refine ⟨xLe_rf, ?_⟩
  intro p l e R s m args below meth c Q nL D tys sz b c0 s0 C hG hf hlo h1 h2 ls st H locs cells slots hM hL hS kk
  exact lv_ldc C.1 C.2.1 C.2.2.2.1 (C.2.2.2.2.1 _ hw) hd (kk _ _ _ _ _ _ hM hL ⟨_, _, rfl, ⟨_, rfl, hv ▸ xRI_c _⟩, hS⟩)
theorem s_ldcw {index : Nat} {v : Int32} {k : Nat} (hd : decode cc pc = .ok (.ldc_w index, 3)) (hw : Cond.constant own index v ∈ xTB) (hv : xo v = k) : xSound PX G cc own ini pc (x_const k (pc + 3)) := by
  intro call d hc L S w pc' L' S' w' h
  cases h
  refine ⟨xLe_rf, ?_⟩
  intro p l e R s m args below meth c Q nL D tys sz b c0 s0 C hG hf hlo h1 h2 ls st H locs cells slots hM hL hS kk
  exact lv_ldcw C.1 C.2.1 C.2.2.2.1 (C.2.2.2.2.1 _ hw) hd (kk _ _ _ _ _ _ hM hL ⟨_, _, rfl, ⟨_, rfl, hv ▸ xRI_c _⟩, hS⟩)
theorem s_ldc2 {index : Nat} {v : Int64} {k : Nat} (hd : decode cc pc = .ok (.ldc2_w index, 3)) (hw : Cond.constantLong own index v ∈ xTB) (hv : v.toInt = (k : Int)) : xSound PX G cc own ini pc (x_lconst k (pc + 3)) := by
  intro call d hc L S w pc' L' S' w' h
  cases h
  refine ⟨xLe_rf, ?_⟩
  intro p l e R s m args below meth c Q nL D tys sz b c0 s0 C hG hf hlo h1 h2 ls st H locs cells slots hM hL hS kk
  exact lv_ldc2 C.1 C.2.1 C.2.2.2.1 (C.2.2.2.2.1 _ hw) hd (kk _ _ _ _ _ _ hM hL ⟨_, _, rfl, ⟨_, rfl, hv⟩, hS⟩)
theorem s_lconst {n : Fin 2} {k : Nat} (hd : decode cc pc = .ok (.lconst n, 1)) (hv : (Int64.ofNat (n : Nat)).toInt = (k : Int)) : xSound PX G cc own ini pc (x_lconst k (pc + 1)) := by
  intro call d hc L S w pc' L' S' w' h
  cases h
  refine ⟨xLe_rf, ?_⟩
  intro p l e R s m args below meth c Q nL D tys sz b c0 s0 C hG hf hlo h1 h2 ls st H locs cells slots hM hL hS kk
  exact lv_lconst C.1 C.2.1 hd rfl (kk _ _ _ _ _ _ hM hL ⟨_, _, rfl, ⟨_, rfl, hv⟩, hS⟩)
theorem xRL_at {sz b nL i : Nat} {L : List (Option xV)} {ls : Array Slot} {v : xV} (h : xRL sz b L ls nL) (hi : xget L i = some (some v)) : ∃ u, ls[i]? = some (.val u) ∧ xRV sz b v u := by
  obtain ⟨-, lv, h1, h2⟩ := h
  obtain ⟨u, h3, h4⟩ := h2 i v hi
  exact ⟨u, h1.2.2 (i, u) h3, h4⟩
theorem x_iload_eq {i n : Nat} {call : xC} {L : List (Option xV)} {S : List xV} {w : xW} {r : xS} (h : x_iload i n call L S w = some r) : ∃ a, xget L i = some (some (.inl a)) ∧ r = (n, L, .inl a :: S, w) := by
  unfold x_iload at h
  split at h
  · rename_i a ha
    exact ⟨a, ha, (Option.some.inj h).symm⟩
  · cases h
theorem s_iload_n {k : Fin 4} (hd : decode cc pc = .ok (.iload_n k, 1)) : xSound PX G cc own ini pc (x_iload k (pc + 1)) := by
  intro call d hc L S w pc' L' S' w' h
  obtain ⟨a, ha, hr⟩ := x_iload_eq h
  cases hr
  refine ⟨xLe_rf, ?_⟩
  intro p l e R s m args below meth c Q nL D tys sz b c0 s0 C hG hf hlo h1 h2 ls st H locs cells slots hM hL hS kk
  obtain ⟨u, hu, x, rfl, hx⟩ := xRL_at hL ha
  exact lv_iload_n C.1 C.2.1 hd rfl hu (kk _ _ _ _ _ _ hM hL ⟨_, _, rfl, ⟨_, rfl, hx⟩, hS⟩)
theorem s_iload {i : Nat} (hd : decode cc pc = .ok (.iload i, 2)) : xSound PX G cc own ini pc (x_iload i (pc + 2)) := by
  intro call d hc L S w pc' L' S' w' h
  obtain ⟨a, ha, hr⟩ := x_iload_eq h
  cases hr
  refine ⟨xLe_rf, ?_⟩
  intro p l e R s m args below meth c Q nL D tys sz b c0 s0 C hG hf hlo h1 h2 ls st H locs cells slots hM hL hS kk
  obtain ⟨u, hu, x, rfl, hx⟩ := xRL_at hL ha
  exact lv_iload C.1 C.2.1 hd hu (kk _ _ _ _ _ _ hM hL ⟨_, _, rfl, ⟨_, rfl, hx⟩, hS⟩)
theorem x_aload_eq {i n : Nat} {call : xC} {L : List (Option xV)} {S : List xV} {w : xW} {r : xS} (h : x_aload i n call L S w = some r) : ∃ k, xget L i = some (some (.inr (.inl (some k)))) ∧ r = (n, L, .inr (.inl (some k)) :: S, w) := by
  unfold x_aload at h
  split at h
  · rename_i a ha
    exact ⟨a, ha, (Option.some.inj h).symm⟩
  · cases h
theorem s_aload_n {k : Fin 4} (hd : decode cc pc = .ok (.aload_n k, 1)) : xSound PX G cc own ini pc (x_aload k (pc + 1)) := by
  intro call d hc L S w pc' L' S' w' h
  obtain ⟨a, ha, hr⟩ := x_aload_eq h
  cases hr
  refine ⟨xLe_rf, ?_⟩
  intro p l e R s m args below meth c Q nL D tys sz b c0 s0 C hG hf hlo h1 h2 ls st H locs cells slots hM hL hS kk
  obtain ⟨u, hu, rfl⟩ := xRL_at hL ha
  exact lv_aload_n C.1 C.2.1 hd rfl hu (kk _ _ _ _ _ _ hM hL ⟨_, _, rfl, rfl, hS⟩)
theorem s_aload {i : Nat} (hd : decode cc pc = .ok (.aload i, 2)) : xSound PX G cc own ini pc (x_aload i (pc + 2)) := by
  intro call d hc L S w pc' L' S' w' h
  obtain ⟨a, ha, hr⟩ := x_aload_eq h
  cases hr
  refine ⟨xLe_rf, ?_⟩
  intro p l e R s m args below meth c Q nL D tys sz b c0 s0 C hG hf hlo h1 h2 ls st H locs cells slots hM hL hS kk
  obtain ⟨u, hu, rfl⟩ := xRL_at hL ha
  exact lv_aload C.1 C.2.1 hd hu (kk _ _ _ _ _ _ hM hL ⟨_, _, rfl, rfl, hS⟩)
theorem s_sload_n {k : Fin 4} (hd : decode cc pc = .ok (.aload_n k, 1)) : xSound PX G cc own ini pc (x_sload k (pc + 1)) := by
  intro call d hc L S w pc' L' S' w' h
  unfold x_sload at h
  split at h
  · rename_i ha
    cases h
    refine ⟨xLe_rf, ?_⟩
    intro p l e R s m args below meth c Q nL D tys sz b c0 s0 C hG hf hlo h1 h2 ls st H locs cells slots hM hL hS kk
    obtain ⟨u, hu, rfl⟩ := xRL_at hL ha
    exact lv_aload_n C.1 C.2.1 hd rfl hu (kk _ _ _ _ _ _ hM hL ⟨_, _, rfl, rfl, hS⟩)
  · cases h
theorem x_lload_eq {i n : Nat} {call : xC} {L : List (Option xV)} {S : List xV} {w : xW} {r : xS} (h : x_lload i n call L S w = some r) : ∃ k, xget L i = some (some (.inr (.inr (k + 1)))) ∧ r = (n, L, .inr (.inr (k + 1)) :: S, w) := by
  unfold x_lload at h
  split at h
  · rename_i k ha
    exact ⟨k, ha, (Option.some.inj h).symm⟩
  · cases h
theorem s_lload_n {k : Fin 4} (hd : decode cc pc = .ok (.lload_n k, 1)) : xSound PX G cc own ini pc (x_lload k (pc + 1)) := by
  intro call d hc L S w pc' L' S' w' h
  obtain ⟨k9, ha, hr⟩ := x_lload_eq h
  cases hr
  refine ⟨xLe_rf, ?_⟩
  intro p l e R s m args below meth c Q nL D tys sz b c0 s0 C hG hf hlo h1 h2 ls st H locs cells slots hM hL hS kk
  obtain ⟨u, hu, x, rfl, hx⟩ := xRL_at hL ha
  exact lv_lload_n C.1 C.2.1 hd rfl hu (kk _ _ _ _ _ _ hM hL ⟨_, _, rfl, ⟨_, rfl, hx⟩, hS⟩)
theorem s_lload {i : Nat} (hd : decode cc pc = .ok (.lload i, 2)) : xSound PX G cc own ini pc (x_lload i (pc + 2)) := by
  intro call d hc L S w pc' L' S' w' h
  obtain ⟨k9, ha, hr⟩ := x_lload_eq h
  cases hr
  refine ⟨xLe_rf, ?_⟩
  intro p l e R s m args below meth c Q nL D tys sz b c0 s0 C hG hf hlo h1 h2 ls st H locs cells slots hM hL hS kk
  obtain ⟨u, hu, x, rfl, hx⟩ := xRL_at hL ha
  exact lv_lload C.1 C.2.1 hd hu (kk _ _ _ _ _ _ hM hL ⟨_, _, rfl, ⟨_, rfl, hx⟩, hS⟩)
end XS1
