/-! ===== EXACT RUNS, FORWARD: from here the method returns r with the memory μ' in at most n steps ===== -/
theorem zFg_rf : ∀ {L : zL}, zFg L L
  | [] => trivial
  | none :: t => zFg_rf (L := t)
  | some v :: t => ⟨rfl, zFg_rf (L := t)⟩
theorem zFg_tr : ∀ {L1 L2 L3 : zL}, zFg L1 L2 → zFg L2 L3 → zFg L1 L3
  | [], [], [], _, _ => trivial
  | none :: t1, none :: t2, _ :: t3, h1, h2 => zFg_tr (L1 := t1) (L2 := t2) (L3 := t3) h1 h2
  | none :: t1, some v :: t2, _ :: t3, h1, h2 => zFg_tr (L1 := t1) (L2 := t2) (L3 := t3) h1 h2.2
  | some v :: t1, o2 :: t2, o3 :: t3, h1, h2 => by
    obtain ⟨rfl, h1⟩ := h1
    obtain ⟨rfl, h2⟩ := h2
    exact ⟨rfl, zFg_tr (L1 := t1) (L2 := t2) (L3 := t3) h1 h2⟩
  | [], [], _ :: _, _, h2 => h2.elim
  | [], _ :: _, _, h1, _ => h1.elim
  | none :: _, [], _, h1, _ => h1.elim
  | some _ :: _, [], _, h1, _ => h1.elim
  | none :: _, none :: _, [], _, h2 => h2.elim
  | none :: _, some _ :: _, [], _, h2 => h2.elim
  | some _ :: _, none :: _, [], h1, _ => by cases h1.1
  | some _ :: _, some _ :: _, [], _, h2 => h2.elim
theorem zFg_set : ∀ {L1 L2 : zL} (i : Nat) (o : Option zV), zFg L1 L2 → zFg (L1.set i o) (L2.set i o)
  | [], [], i, o, h => trivial
  | x :: t1, y :: t2, 0, o, h => by
    have ht : zFg t1 t2 := by
      cases x with
      | none => exact h
      | some v => exact h.2
    cases o with
    | none => exact ht
    | some v => exact ⟨rfl, ht⟩
  | none :: t1, y :: t2, i + 1, o, h => zFg_set (L1 := t1) (L2 := t2) i o h
  | some v :: t1, y :: t2, i + 1, o, h => ⟨h.1, zFg_set (L1 := t1) (L2 := t2) i o h.2⟩
  | [], _ :: _, _, _, h => h.elim
  | none :: _, [], _, _, h => h.elim
  | some _ :: _, [], _, _, h => h.elim
theorem zFg_at {L1 L2 : zL} {i : Nat} {v w : zV} (h : zFg L1 L2) (h1 : L1[i]? = some (some v)) (h2 : L2[i]? = some (some w)) : v = w := by
  have h3 := (zFg_ok h).2 i v h1
  cases h3.symm.trans h2
  rfl
/-- the exact run's tables -/
noncomputable abbrev gx : zKd := zk zG0
def eT (q : xP) (n pc : Nat) (L : zL) (S : List zV) (μ : xM) (r : Option zV) (μ' : xM) : Prop := ∃ (L0 : zL) (k pf : Nat) (Lf : zL) (Sf : List zV), zFg L0 L ∧ k ≤ n ∧ eN gx (Ex gx) q.2.1 q.1.cls k (pc, L0, S, μ) (pf, Lf, Sf, μ') ∧ xRt q.2.1 pf Sf r
def xnr : Instr → Bool
  | .ireturn => false
  | .lreturn => false
  | .return_ => false
  | _ => true
section TX
variable {q : xP} {n pc : Nat} {L : zL} {S : List zV} {μ μ' : xM} {r : Option zV}
theorem txs {i : Instr} {len : Nat} (h : eT q n pc L S μ r μ') (hd : decode q.2.1 pc = .ok (i, len)) (hn : xnr i = true) : ∃ m, n = m + 1 ∧ ∃ (L0 : zL) (b : eS), zFg L0 L ∧ xIns gx (Ex gx) q.1.cls i pc len L0 S μ b ∧ eT q m b.1 b.2.1 b.2.2.1 b.2.2.2 r μ' := by
  obtain ⟨L0, k, pf, Lf, Sf, h1, h2, h3, h4⟩ := h
  induction k generalizing L0 with
  | zero =>
    cases h3
    exfalso
    rcases h4 with ⟨e, -⟩ | ⟨e, -⟩ | ⟨e, -⟩ <;> cases hd.symm.trans e <;> cases hn
  | succ k ih =>
    obtain ⟨c, hs, h3⟩ := h3
    rcases hs with ⟨i', n', e, hi⟩ | ⟨e1, e2, e3⟩
    · cases hd.symm.trans e
      refine ⟨n - 1, by omega, L0, c, h1, hi, c.2.1, k, pf, Lf, Sf, zFg_rf, by omega, h3, h4⟩
    · obtain ⟨c1, c2, c3, c4⟩ := c
      cases e1
      cases e3
      exact ih c2 (zFg_tr e2 h1) (by omega) h3
theorem eT_mono {m : Nat} {b : eS} (h : m ≤ n) (hx : eT q m b.1 b.2.1 b.2.2.1 b.2.2.2 r μ') : eT q n b.1 b.2.1 b.2.2.1 b.2.2.2 r μ' := by
  obtain ⟨L0, k, pf, Lf, Sf, h1, h2, h3⟩ := hx
  exact ⟨L0, k, pf, Lf, Sf, h1, by omega, h3⟩
theorem tx {i : Instr} {len : Nat} (h : eT q n pc L S μ r μ') (hd : decode q.2.1 pc = .ok (i, len)) (hn : xnr i = true) : ∃ (L0 : zL) (b : eS), zFg L0 L ∧ xIns gx (Ex gx) q.1.cls i pc len L0 S μ b ∧ eT q n b.1 b.2.1 b.2.2.1 b.2.2.2 r μ' := by
  obtain ⟨m, e, L0, b, h1, h2, h3⟩ := txs h hd hn
  exact ⟨L0, b, h1, h2, eT_mono (by omega) h3⟩
theorem eT_fg {pc : Nat} {L' : zL} (h : zFg L' L) (hx : eT q n pc L' S μ r μ') : eT q n pc L S μ r μ' := by
  obtain ⟨L0, k, pf, Lf, Sf, h1, h2⟩ := hx
  exact ⟨L0, k, pf, Lf, Sf, zFg_tr h1 h, h2⟩
theorem tx_iconst {k : Int} {v : Int32} (h : eT q n pc L S μ r μ') (hd : decode q.2.1 pc = .ok (.iconst k, 1)) (hv : Int32.ofInt k = v) {p' : Nat} (hp : pc + 1 = p') : eT q n p' L (.inl v :: S) μ r μ' := by
  subst hp
  obtain ⟨L0, b, hf, hi, h⟩ := tx h hd rfl
  obtain ⟨w, e1, rfl⟩ := hi
  cases e1.symm.trans hv
  exact eT_fg hf h
theorem tx_bipush {k : Int} {v : Int32} (h : eT q n pc L S μ r μ') (hd : decode q.2.1 pc = .ok (.bipush k, 2)) (hv : (Int8.ofInt k).toInt32 = v) {p' : Nat} (hp : pc + 2 = p') : eT q n p' L (.inl v :: S) μ r μ' := by
  subst hp
  obtain ⟨L0, b, hf, hi, h⟩ := tx h hd rfl
  obtain ⟨w, e1, rfl⟩ := hi
  cases e1.symm.trans hv
  exact eT_fg hf h
theorem tx_sipush {k : Int} {v : Int32} (h : eT q n pc L S μ r μ') (hd : decode q.2.1 pc = .ok (.sipush k, 3)) (hv : (Int16.ofInt k).toInt32 = v) {p' : Nat} (hp : pc + 3 = p') : eT q n p' L (.inl v :: S) μ r μ' := by
  subst hp
  obtain ⟨L0, b, hf, hi, h⟩ := tx h hd rfl
  obtain ⟨w, e1, rfl⟩ := hi
  cases e1.symm.trans hv
  exact eT_fg hf h
theorem tx_lconst {k : Fin 2} {v : Int64} (h : eT q n pc L S μ r μ') (hd : decode q.2.1 pc = .ok (.lconst k, 1)) (hv : Int64.ofNat (k : Nat) = v) {p' : Nat} (hp : pc + 1 = p') : eT q n p' L (.inr (.inr v) :: S) μ r μ' := by
  subst hp
  obtain ⟨L0, b, hf, hi, h⟩ := tx h hd rfl
  obtain ⟨w, e1, rfl⟩ := hi
  cases e1.symm.trans hv
  exact eT_fg hf h
theorem tx_ldc {x : Nat} {v : Int32} (h : eT q n pc L S μ r μ') (hd : decode q.2.1 pc = .ok (.ldc x, 2)) (hv : xTb q.1.cls x = (2, 0, v.toInt)) (hx : x ≠ 39 ∧ x ≠ 51) {p' : Nat} (hp : pc + 2 = p') : eT q n p' L (.inl v :: S) μ r μ' := by
  subst hp
  obtain ⟨L0, b, hf, hi, h⟩ := tx h hd rfl
  rcases hi with ⟨w, e1, rfl⟩ | ⟨e1, -⟩ | ⟨e1, -⟩
  · have e2 : w.toInt = v.toInt := congrArg (fun t => t.2.2) (e1.symm.trans hv)
    cases Int32.toInt_inj.mp e2
    exact eT_fg hf h
  · exact absurd e1 hx.1
  · exact absurd e1 hx.2
theorem tx_ldc2 {x : Nat} {v : Int64} (h : eT q n pc L S μ r μ') (hd : decode q.2.1 pc = .ok (.ldc2_w x, 3)) (hv : xTb q.1.cls x = (3, 0, v.toInt)) {p' : Nat} (hp : pc + 3 = p') : eT q n p' L (.inr (.inr v) :: S) μ r μ' := by
  subst hp
  obtain ⟨L0, b, hf, hi, h⟩ := tx h hd rfl
  obtain ⟨w, e1, rfl⟩ := hi
  have e2 : w.toInt = v.toInt := congrArg (fun t => t.2.2) (e1.symm.trans hv)
  cases Int64.toInt_inj.mp e2
  exact eT_fg hf h
theorem tx_ixof {c : Int32} (h : eT q n pc L S μ r μ') (hd : decode q.2.1 pc = .ok (.ldc 39, 2)) (hl : L[3]? = some (some (.inl c))) (hv : ¬ (xTb q.1.cls 39).1 = 2) {p' : Nat} (hp : pc + 7 = p') : ∃ z : Int32, S = [] ∧ xIx c z ∧ eT q n p' L [.inl z] μ r μ' := by
  subst hp
  obtain ⟨L0, b, hf, hi, h⟩ := tx h hd rfl
  rcases hi with ⟨w, e1, rfl⟩ | ⟨-, c2, z, e1, e2, e3, rfl⟩ | ⟨e1, -⟩
  · rw [e1] at hv
    exact absurd rfl hv
  · cases zFg_at hf e1 hl
    exact ⟨z, e2, e3, eT_fg hf h⟩
  · cases e1
theorem tx_chat {w i : Int32} (h : eT q n pc L S μ r μ') (hd : decode q.2.1 pc = .ok (.ldc 51, 2)) (hl : L[0]? = some (some (.inl w))) (hl2 : L[4]? = some (some (.inl i))) (hv : ¬ (xTb q.1.cls 51).1 = 2) {p' : Nat} (hp : pc + 12 = p') : ∃ z : Int32, S = [] ∧ xW1[(w.toInt * 8 + i.toInt).toNat]? = some z ∧ eT q n p' L [.inl z] μ r μ' := by
  subst hp
  obtain ⟨L0, b, hf, hi, h⟩ := tx h hd rfl
  rcases hi with ⟨w, e1, rfl⟩ | ⟨e1, -⟩ | ⟨-, w2, i2, z, e1, e2, e3, e4, rfl⟩
  · rw [e1] at hv
    exact absurd rfl hv
  · cases e1
  · cases zFg_at hf e1 hl
    cases zFg_at hf e2 hl2
    exact ⟨z, e3, e4, eT_fg hf h⟩
theorem tx_iload {k : Nat} {v : zV} (h : eT q n pc L S μ r μ') (hd : decode q.2.1 pc = .ok (.iload k, 2)) (hl : L[(k : Nat)]? = some (some v)) {p' : Nat} (hp : pc + 2 = p') : eT q n p' L (v :: S) μ r μ' := by
  subst hp
  obtain ⟨L0, b, hf, hi, h⟩ := tx h hd rfl
  obtain ⟨w, e1, rfl⟩ := hi
  cases zFg_at hf e1 hl
  exact eT_fg hf h
theorem tx_iload_n {k : Fin 4} {v : zV} (h : eT q n pc L S μ r μ') (hd : decode q.2.1 pc = .ok (.iload_n k, 1)) (hl : L[(k : Nat)]? = some (some v)) {p' : Nat} (hp : pc + 1 = p') : eT q n p' L (v :: S) μ r μ' := by
  subst hp
  obtain ⟨L0, b, hf, hi, h⟩ := tx h hd rfl
  obtain ⟨w, e1, rfl⟩ := hi
  cases zFg_at hf e1 hl
  exact eT_fg hf h
theorem tx_istore {k : Nat} {v : zV} (h : eT q n pc L (v :: S) μ r μ') (hd : decode q.2.1 pc = .ok (.istore k, 2)) {p' : Nat} (hp : pc + 2 = p') : eT q n p' (L.set (k : Nat) (some v)) S μ r μ' := by
  subst hp
  obtain ⟨L0, b, hf, hi, h⟩ := tx h hd rfl
  obtain ⟨w, S0, e1, rfl⟩ := hi
  cases e1
  exact eT_fg (zFg_set _ _ hf) h
theorem tx_istore_n {k : Fin 4} {v : zV} (h : eT q n pc L (v :: S) μ r μ') (hd : decode q.2.1 pc = .ok (.istore_n k, 1)) {p' : Nat} (hp : pc + 1 = p') : eT q n p' (L.set (k : Nat) (some v)) S μ r μ' := by
  subst hp
  obtain ⟨L0, b, hf, hi, h⟩ := tx h hd rfl
  obtain ⟨w, S0, e1, rfl⟩ := hi
  cases e1
  exact eT_fg (zFg_set _ _ hf) h
theorem tx_aload {k : Nat} {v : zV} (h : eT q n pc L S μ r μ') (hd : decode q.2.1 pc = .ok (.aload k, 2)) (hl : L[(k : Nat)]? = some (some v)) {p' : Nat} (hp : pc + 2 = p') : eT q n p' L (v :: S) μ r μ' := by
  subst hp
  obtain ⟨L0, b, hf, hi, h⟩ := tx h hd rfl
  obtain ⟨w, e1, rfl⟩ := hi
  cases zFg_at hf e1 hl
  exact eT_fg hf h
theorem tx_aload_n {k : Fin 4} {v : zV} (h : eT q n pc L S μ r μ') (hd : decode q.2.1 pc = .ok (.aload_n k, 1)) (hl : L[(k : Nat)]? = some (some v)) {p' : Nat} (hp : pc + 1 = p') : eT q n p' L (v :: S) μ r μ' := by
  subst hp
  obtain ⟨L0, b, hf, hi, h⟩ := tx h hd rfl
  obtain ⟨w, e1, rfl⟩ := hi
  cases zFg_at hf e1 hl
  exact eT_fg hf h
theorem tx_astore {k : Nat} {v : zV} (h : eT q n pc L (v :: S) μ r μ') (hd : decode q.2.1 pc = .ok (.astore k, 2)) {p' : Nat} (hp : pc + 2 = p') : eT q n p' (L.set (k : Nat) (some v)) S μ r μ' := by
  subst hp
  obtain ⟨L0, b, hf, hi, h⟩ := tx h hd rfl
  obtain ⟨w, S0, e1, rfl⟩ := hi
  cases e1
  exact eT_fg (zFg_set _ _ hf) h
theorem tx_astore_n {k : Fin 4} {v : zV} (h : eT q n pc L (v :: S) μ r μ') (hd : decode q.2.1 pc = .ok (.astore_n k, 1)) {p' : Nat} (hp : pc + 1 = p') : eT q n p' (L.set (k : Nat) (some v)) S μ r μ' := by
  subst hp
  obtain ⟨L0, b, hf, hi, h⟩ := tx h hd rfl
  obtain ⟨w, S0, e1, rfl⟩ := hi
  cases e1
  exact eT_fg (zFg_set _ _ hf) h
theorem tx_lload {k : Nat} {v : zV} (h : eT q n pc L S μ r μ') (hd : decode q.2.1 pc = .ok (.lload k, 2)) (hl : L[(k : Nat)]? = some (some v)) {p' : Nat} (hp : pc + 2 = p') : eT q n p' L (v :: S) μ r μ' := by
  subst hp
  obtain ⟨L0, b, hf, hi, h⟩ := tx h hd rfl
  obtain ⟨w, e1, rfl⟩ := hi
  cases zFg_at hf e1 hl
  exact eT_fg hf h
theorem tx_lload_n {k : Fin 4} {v : zV} (h : eT q n pc L S μ r μ') (hd : decode q.2.1 pc = .ok (.lload_n k, 1)) (hl : L[(k : Nat)]? = some (some v)) {p' : Nat} (hp : pc + 1 = p') : eT q n p' L (v :: S) μ r μ' := by
  subst hp
  obtain ⟨L0, b, hf, hi, h⟩ := tx h hd rfl
  obtain ⟨w, e1, rfl⟩ := hi
  cases zFg_at hf e1 hl
  exact eT_fg hf h
theorem tx_lstore {k : Nat} {v : zV} (h : eT q n pc L (v :: S) μ r μ') (hd : decode q.2.1 pc = .ok (.lstore k, 2)) {p' : Nat} (hp : pc + 2 = p') : eT q n p' ((L.set (k : Nat) (some v)).set ((k : Nat) + 1) none) S μ r μ' := by
  subst hp
  obtain ⟨L0, b, hf, hi, h⟩ := tx h hd rfl
  obtain ⟨w, S0, e1, rfl⟩ := hi
  cases e1
  exact eT_fg (zFg_set _ _ (zFg_set _ _ hf)) h
theorem tx_lstore_n {k : Fin 4} {v : zV} (h : eT q n pc L (v :: S) μ r μ') (hd : decode q.2.1 pc = .ok (.lstore_n k, 1)) {p' : Nat} (hp : pc + 1 = p') : eT q n p' ((L.set (k : Nat) (some v)).set ((k : Nat) + 1) none) S μ r μ' := by
  subst hp
  obtain ⟨L0, b, hf, hi, h⟩ := tx h hd rfl
  obtain ⟨w, S0, e1, rfl⟩ := hi
  cases e1
  exact eT_fg (zFg_set _ _ (zFg_set _ _ hf)) h
theorem tx_iinc {k : Nat} {z : Int} {x v : Int32} (h : eT q n pc L S μ r μ') (hd : decode q.2.1 pc = .ok (.iinc k z, 3)) (hv : Int32.ofInt z = v) (hl : L[k]? = some (some (.inl x))) {p' : Nat} (hp : pc + 3 = p') : eT q n p' (L.set k (some (.inl (x + v)))) S μ r μ' := by
  subst hp
  obtain ⟨L0, b, hf, hi, h⟩ := tx h hd rfl
  obtain ⟨x2, v2, e1, e2, rfl⟩ := hi
  cases zFg_at hf e1 hl
  cases e2.symm.trans hv
  exact eT_fg (zFg_set _ _ hf) h
theorem tx_iadd {x y : Int32} (h : eT q n pc L (.inl y :: .inl x :: S) μ r μ') (hd : decode q.2.1 pc = .ok (.iadd, 1)) {p' : Nat} (hp : pc + 1 = p') : eT q n p' L (.inl (x + y) :: S) (μ) r μ' := by
  subst hp
  obtain ⟨L0, b, hf, hi, h⟩ := tx h hd rfl
  obtain ⟨a, c, S0, e1, rfl⟩ := hi
  cases e1
  exact eT_fg hf h
theorem tx_isub {x y : Int32} (h : eT q n pc L (.inl y :: .inl x :: S) μ r μ') (hd : decode q.2.1 pc = .ok (.isub, 1)) {p' : Nat} (hp : pc + 1 = p') : eT q n p' L (.inl (x - y) :: S) (μ) r μ' := by
  subst hp
  obtain ⟨L0, b, hf, hi, h⟩ := tx h hd rfl
  obtain ⟨a, c, S0, e1, rfl⟩ := hi
  cases e1
  exact eT_fg hf h
theorem tx_imul {x y : Int32} (h : eT q n pc L (.inl y :: .inl x :: S) μ r μ') (hd : decode q.2.1 pc = .ok (.imul, 1)) {p' : Nat} (hp : pc + 1 = p') : eT q n p' L (.inl (x * y) :: S) (μ) r μ' := by
  subst hp
  obtain ⟨L0, b, hf, hi, h⟩ := tx h hd rfl
  obtain ⟨a, c, S0, e1, rfl⟩ := hi
  cases e1
  exact eT_fg hf h
theorem tx_iand {x y : Int32} (h : eT q n pc L (.inl y :: .inl x :: S) μ r μ') (hd : decode q.2.1 pc = .ok (.iand, 1)) {p' : Nat} (hp : pc + 1 = p') : eT q n p' L (.inl (x &&& y) :: S) (μ) r μ' := by
  subst hp
  obtain ⟨L0, b, hf, hi, h⟩ := tx h hd rfl
  obtain ⟨a, c, S0, e1, rfl⟩ := hi
  cases e1
  exact eT_fg hf h
theorem tx_ior {x y : Int32} (h : eT q n pc L (.inl y :: .inl x :: S) μ r μ') (hd : decode q.2.1 pc = .ok (.ior, 1)) {p' : Nat} (hp : pc + 1 = p') : eT q n p' L (.inl (x ||| y) :: S) (μ) r μ' := by
  subst hp
  obtain ⟨L0, b, hf, hi, h⟩ := tx h hd rfl
  obtain ⟨a, c, S0, e1, rfl⟩ := hi
  cases e1
  exact eT_fg hf h
theorem tx_ixor {x y : Int32} (h : eT q n pc L (.inl y :: .inl x :: S) μ r μ') (hd : decode q.2.1 pc = .ok (.ixor, 1)) {p' : Nat} (hp : pc + 1 = p') : eT q n p' L (.inl (x ^^^ y) :: S) (μ) r μ' := by
  subst hp
  obtain ⟨L0, b, hf, hi, h⟩ := tx h hd rfl
  obtain ⟨a, c, S0, e1, rfl⟩ := hi
  cases e1
  exact eT_fg hf h
theorem tx_ishl {x y : Int32} (h : eT q n pc L (.inl y :: .inl x :: S) μ r μ') (hd : decode q.2.1 pc = .ok (.ishl, 1)) {p' : Nat} (hp : pc + 1 = p') : eT q n p' L (.inl (x <<< (y &&& 31)) :: S) (μ) r μ' := by
  subst hp
  obtain ⟨L0, b, hf, hi, h⟩ := tx h hd rfl
  obtain ⟨a, c, S0, e1, rfl⟩ := hi
  cases e1
  exact eT_fg hf h
theorem tx_ishr {x y : Int32} (h : eT q n pc L (.inl y :: .inl x :: S) μ r μ') (hd : decode q.2.1 pc = .ok (.ishr, 1)) {p' : Nat} (hp : pc + 1 = p') : eT q n p' L (.inl (x >>> (y &&& 31)) :: S) (μ) r μ' := by
  subst hp
  obtain ⟨L0, b, hf, hi, h⟩ := tx h hd rfl
  obtain ⟨a, c, S0, e1, rfl⟩ := hi
  cases e1
  exact eT_fg hf h
theorem tx_iushr {x y : Int32} (h : eT q n pc L (.inl y :: .inl x :: S) μ r μ') (hd : decode q.2.1 pc = .ok (.iushr, 1)) {p' : Nat} (hp : pc + 1 = p') : eT q n p' L (.inl ((x.toUInt32 >>> (y.toUInt32 &&& Int32.toUInt32 31)).toInt32) :: S) (μ) r μ' := by
  subst hp
  obtain ⟨L0, b, hf, hi, h⟩ := tx h hd rfl
  obtain ⟨a, c, S0, e1, rfl⟩ := hi
  cases e1
  exact eT_fg hf h
theorem tx_idiv {x y : Int32} (h : eT q n pc L (.inl y :: .inl x :: S) μ r μ') (hd : decode q.2.1 pc = .ok (.idiv, 1)) {p' : Nat} (hp : pc + 1 = p') : ¬ y = 0 ∧ eT q n p' L (.inl (x / y) :: S) μ r μ' := by
  subst hp
  obtain ⟨L0, b, hf, hi, h⟩ := tx h hd rfl
  obtain ⟨a, c, S0, e1, e2, rfl⟩ := hi
  cases e1
  exact ⟨e2, eT_fg hf h⟩
theorem tx_irem {x y : Int32} (h : eT q n pc L (.inl y :: .inl x :: S) μ r μ') (hd : decode q.2.1 pc = .ok (.irem, 1)) {p' : Nat} (hp : pc + 1 = p') : ¬ y = 0 ∧ eT q n p' L (.inl (x - x / y * y) :: S) μ r μ' := by
  subst hp
  obtain ⟨L0, b, hf, hi, h⟩ := tx h hd rfl
  obtain ⟨a, c, S0, e1, e2, rfl⟩ := hi
  cases e1
  exact ⟨e2, eT_fg hf h⟩
theorem tx_ladd {x y : Int64} (h : eT q n pc L (.inr (.inr y) :: .inr (.inr x) :: S) μ r μ') (hd : decode q.2.1 pc = .ok (.ladd, 1)) {p' : Nat} (hp : pc + 1 = p') : eT q n p' L (.inr (.inr (x + y)) :: S) (μ) r μ' := by
  subst hp
  obtain ⟨L0, b, hf, hi, h⟩ := tx h hd rfl
  obtain ⟨a, c, S0, e1, rfl⟩ := hi
  cases e1
  exact eT_fg hf h
theorem tx_lmul {x y : Int64} (h : eT q n pc L (.inr (.inr y) :: .inr (.inr x) :: S) μ r μ') (hd : decode q.2.1 pc = .ok (.lmul, 1)) {p' : Nat} (hp : pc + 1 = p') : eT q n p' L (.inr (.inr (x * y)) :: S) (μ) r μ' := by
  subst hp
  obtain ⟨L0, b, hf, hi, h⟩ := tx h hd rfl
  obtain ⟨a, c, S0, e1, rfl⟩ := hi
  cases e1
  exact eT_fg hf h
theorem tx_ldiv {x y : Int64} (h : eT q n pc L (.inr (.inr y) :: .inr (.inr x) :: S) μ r μ') (hd : decode q.2.1 pc = .ok (.ldiv, 1)) {p' : Nat} (hp : pc + 1 = p') : eT q n p' L (.inr (.inr (x / y)) :: S) (μ) r μ' := by
  subst hp
  obtain ⟨L0, b, hf, hi, h⟩ := tx h hd rfl
  obtain ⟨a, c, S0, e1, rfl⟩ := hi
  cases e1
  exact eT_fg hf h
theorem tx_lrem {x y : Int64} (h : eT q n pc L (.inr (.inr y) :: .inr (.inr x) :: S) μ r μ') (hd : decode q.2.1 pc = .ok (.lrem, 1)) {p' : Nat} (hp : pc + 1 = p') : eT q n p' L (.inr (.inr (x - x / y * y)) :: S) (μ) r μ' := by
  subst hp
  obtain ⟨L0, b, hf, hi, h⟩ := tx h hd rfl
  obtain ⟨a, c, S0, e1, rfl⟩ := hi
  cases e1
  exact eT_fg hf h
theorem tx_lcmp {x y : Int64} (h : eT q n pc L (.inr (.inr y) :: .inr (.inr x) :: S) μ r μ') (hd : decode q.2.1 pc = .ok (.lcmp, 1)) {p' : Nat} (hp : pc + 1 = p') : eT q n p' L (.inl (lg_cmp x y) :: S) (μ) r μ' := by
  subst hp
  obtain ⟨L0, b, hf, hi, h⟩ := tx h hd rfl
  obtain ⟨a, c, S0, e1, rfl⟩ := hi
  cases e1
  exact eT_fg hf h
theorem tx_i2b {x : Int32} (h : eT q n pc L (.inl x :: S) μ r μ') (hd : decode q.2.1 pc = .ok (.i2b, 1)) {p' : Nat} (hp : pc + 1 = p') : eT q n p' L (.inl (x.toInt8.toInt32) :: S) (μ) r μ' := by
  subst hp
  obtain ⟨L0, b, hf, hi, h⟩ := tx h hd rfl
  obtain ⟨a, S0, e1, rfl⟩ := hi
  cases e1
  exact eT_fg hf h
theorem tx_i2c {x : Int32} (h : eT q n pc L (.inl x :: S) μ r μ') (hd : decode q.2.1 pc = .ok (.i2c, 1)) {p' : Nat} (hp : pc + 1 = p') : eT q n p' L (.inl ((x.toUInt32 % 65536).toInt32) :: S) (μ) r μ' := by
  subst hp
  obtain ⟨L0, b, hf, hi, h⟩ := tx h hd rfl
  obtain ⟨a, S0, e1, rfl⟩ := hi
  cases e1
  exact eT_fg hf h
theorem tx_i2l {x : Int32} (h : eT q n pc L (.inl x :: S) μ r μ') (hd : decode q.2.1 pc = .ok (.i2l, 1)) {p' : Nat} (hp : pc + 1 = p') : eT q n p' L (.inr (.inr x.toInt64) :: S) (μ) r μ' := by
  subst hp
  obtain ⟨L0, b, hf, hi, h⟩ := tx h hd rfl
  obtain ⟨a, S0, e1, rfl⟩ := hi
  cases e1
  exact eT_fg hf h
theorem tx_l2i {x : Int64} (h : eT q n pc L (.inr (.inr x) :: S) μ r μ') (hd : decode q.2.1 pc = .ok (.l2i, 1)) {p' : Nat} (hp : pc + 1 = p') : eT q n p' L (.inl x.toInt32 :: S) (μ) r μ' := by
  subst hp
  obtain ⟨L0, b, hf, hi, h⟩ := tx h hd rfl
  obtain ⟨a, S0, e1, rfl⟩ := hi
  cases e1
  exact eT_fg hf h
theorem tx_dup {v : zV} (h : eT q n pc L (v :: S) μ r μ') (hd : decode q.2.1 pc = .ok (.dup, 1)) {p' : Nat} (hp : pc + 1 = p') : eT q n p' L (v :: v :: S) (μ) r μ' := by
  subst hp
  obtain ⟨L0, b, hf, hi, h⟩ := tx h hd rfl
  obtain ⟨a, S0, e1, rfl⟩ := hi
  cases e1
  exact eT_fg hf h
theorem tx_dup2 {v u : zV} (h : eT q n pc L (v :: u :: S) μ r μ') (hd : decode q.2.1 pc = .ok (.dup2, 1)) {p' : Nat} (hp : pc + 1 = p') : eT q n p' L (v :: u :: v :: u :: S) (μ) r μ' := by
  subst hp
  obtain ⟨L0, b, hf, hi, h⟩ := tx h hd rfl
  obtain ⟨a, c, S0, e1, rfl⟩ := hi
  cases e1
  exact eT_fg hf h
theorem tx_pop {v : zV} (h : eT q n pc L (v :: S) μ r μ') (hd : decode q.2.1 pc = .ok (.pop, 1)) {p' : Nat} (hp : pc + 1 = p') : eT q n p' L (S) (μ) r μ' := by
  subst hp
  obtain ⟨L0, b, hf, hi, h⟩ := tx h hd rfl
  obtain ⟨a, S0, e1, rfl⟩ := hi
  cases e1
  exact eT_fg hf h
theorem tx_goto {off : Int} {t : Nat} (h : eT q n pc L S μ r μ') (hd : decode q.2.1 pc = .ok (.goto off, 3)) (ht : (pc : Int) + off = (t : Int)) : eT q n t L S μ r μ' := by
  obtain ⟨L0, b, hf, hi, h⟩ := tx h hd rfl
  obtain ⟨t2, e1, rfl⟩ := hi
  have e2 : t2 = t := by omega
  subst e2
  exact eT_fg hf h
theorem tx_gotoS {off : Int} {t : Nat} (h : eT q n pc L S μ r μ') (hd : decode q.2.1 pc = .ok (.goto off, 3)) (ht : (pc : Int) + off = (t : Int)) : ∃ m, m < n ∧ eT q m t L S μ r μ' := by
  obtain ⟨m, e, L0, b, hf, hi, h⟩ := txs h hd rfl
  obtain ⟨t2, e1, rfl⟩ := hi
  have e2 : t2 = t := by omega
  subst e2
  exact ⟨m, by omega, eT_fg hf h⟩
theorem tx_if {x : Int32} {c : Jvm.ClassFile.Cond} {off : Int} {t : Nat} (h : eT q n pc L (.inl x :: S) μ r μ') (hd : decode q.2.1 pc = .ok (.ifCond c off, 3)) (ht : (pc : Int) + off = (t : Int)) {p' : Nat} (hp : pc + 3 = p') : ((xcmpI (xcn c) x.toInt 0 ∧ eT q n t L S μ r μ') ∨ (¬ xcmpI (xcn c) x.toInt 0 ∧ eT q n p' L S μ r μ')) := by
  subst hp
  obtain ⟨L0, b, hf, hi, h⟩ := tx h hd rfl
  obtain ⟨x2, S0, t2, e1, e2, hc⟩ := hi
  cases e1
  have e3 : t2 = t := by omega
  subst e3
  rcases hc with ⟨h1, rfl⟩ | ⟨h1, rfl⟩
  · exact Or.inl ⟨(xcmpI_eq _ x 0).mp h1, eT_fg hf h⟩
  · exact Or.inr ⟨fun h2 => h1 ((xcmpI_eq _ x 0).mpr h2), eT_fg hf h⟩
theorem tx_icmp {x y : Int32} {c : Jvm.ClassFile.Cond} {off : Int} {t : Nat} (h : eT q n pc L (.inl y :: .inl x :: S) μ r μ') (hd : decode q.2.1 pc = .ok (.if_icmp c off, 3)) (ht : (pc : Int) + off = (t : Int)) {p' : Nat} (hp : pc + 3 = p') : ((xcmpI (xcn c) x.toInt y.toInt ∧ eT q n t L S μ r μ') ∨ (¬ xcmpI (xcn c) x.toInt y.toInt ∧ eT q n p' L S μ r μ')) := by
  subst hp
  obtain ⟨L0, b, hf, hi, h⟩ := tx h hd rfl
  obtain ⟨x2, y2, S0, t2, e1, e2, hc⟩ := hi
  cases e1
  have e3 : t2 = t := by omega
  subst e3
  rcases hc with ⟨h1, rfl⟩ | ⟨h1, rfl⟩
  · exact Or.inl ⟨(xcmpI_eq _ x y).mp h1, eT_fg hf h⟩
  · exact Or.inr ⟨fun h2 => h1 ((xcmpI_eq _ x y).mpr h2), eT_fg hf h⟩
theorem tx_ifnonnull {x : Option Nat} {off : Int} {t : Nat} (h : eT q n pc L (.inr (.inl x) :: S) μ r μ') (hd : decode q.2.1 pc = .ok (.ifnonnull off, 3)) (ht : (pc : Int) + off = (t : Int)) {p' : Nat} (hp : pc + 3 = p') : ((x = none ∧ eT q n p' L S μ r μ') ∨ (¬ x = none ∧ eT q n t L S μ r μ')) := by
  subst hp
  obtain ⟨L0, b, hf, hi, h⟩ := tx h hd rfl
  obtain ⟨x2, S0, t2, e1, e2, hc⟩ := hi
  cases e1
  have e3 : t2 = t := by omega
  subst e3
  rcases hc with ⟨h1, rfl⟩ | ⟨h1, rfl⟩
  · exact Or.inl ⟨h1, eT_fg hf h⟩
  · exact Or.inr ⟨h1, eT_fg hf h⟩
theorem tx_tsw {x : Int32} {d lo hi : Int} {offs : Array Int} {len : Nat} (h : eT q n pc L (.inl x :: S) μ r μ') (hd : decode q.2.1 pc = .ok (.tableswitch d lo hi offs, len)) : ∃ t : Nat, ((∃ (k : Nat) (off : Int), offs[k]? = some off ∧ x.toInt = lo + (k : Int) ∧ (pc : Int) + off = (t : Int)) ∨ ((x.toInt < lo ∨ hi < x.toInt) ∧ (pc : Int) + d = (t : Int))) ∧ eT q n t L S μ r μ' := by
  obtain ⟨L0, b, hf, hi, h⟩ := tx h hd rfl
  obtain ⟨x2, S0, t, e1, rfl, hc⟩ := hi
  cases e1
  exact ⟨t, hc, eT_fg hf h⟩
theorem tx_lsw {x : Int32} {d : Int} {ps : Array (Int × Int)} {len : Nat} (h : eT q n pc L (.inl x :: S) μ r μ') (hd : decode q.2.1 pc = .ok (.lookupswitch d ps, len)) : ∃ t : Nat, (pc : Int) + Op.lookupswitch.offset ps.toList d x.toInt = (t : Int) ∧ eT q n t L S μ r μ' := by
  obtain ⟨L0, b, hf, hi, h⟩ := tx h hd rfl
  obtain ⟨x2, S0, t, e1, rfl, hc⟩ := hi
  cases e1
  exact ⟨t, hc, eT_fg hf h⟩
/-- an int field -/
theorem tx_getf {a x c j : Nat} {fts : List zT} {ft : zT} (h : eT q n pc L (.inr (.inl (some a)) :: S) μ r μ') (hd : decode q.2.1 pc = .ok (.getfield x, 3)) (hx : xTb q.1.cls x = (0, c, (j : Int))) (hg : zG0.2.1 (zG0.1 a) = .inl (c, fts)) (hj : fts[j]? = some ft) (ht : ft.1 < 2) {p' : Nat} (hp : pc + 3 = p') : eT q n p' L (.inl (μ.1 a j) :: S) μ r μ' := by
  subst hp
  obtain ⟨L0, b, hf, hi, h⟩ := tx h hd rfl
  obtain ⟨a2, c2, j2, S0, fts2, ft2, v, e1, e2, e3, e4, rfl, hc⟩ := hi
  cases e1
  have ej : j2 = j := by
    have := congrArg (fun t => t.2.2) (e2.symm.trans hx)
    have this : (j2 : Int) = (j : Int) := this
    omega
  subst ej
  cases (e3.symm.trans hg : (Sum.inl (c2, fts2) : zD) = .inl (c, fts))
  cases e4.symm.trans hj
  rcases hc with ⟨-, rfl⟩ | ⟨h1, -⟩ | ⟨h1, -⟩
  · exact eT_fg hf h
  · omega
  · omega
/-- a field that is one cell -/
theorem tx_getc {a x c j : Nat} {fts : List zT} {k : Nat} (h : eT q n pc L (.inr (.inl (some a)) :: S) μ r μ') (hd : decode q.2.1 pc = .ok (.getfield x, 3)) (hx : xTb q.1.cls x = (0, c, (j : Int))) (hg : zG0.2.1 (zG0.1 a) = .inl (c, fts)) (hj : fts[j]? = some (2, k)) {p' : Nat} (hp : pc + 3 = p') : eT q n p' L (.inr (.inl (some k)) :: S) μ r μ' := by
  subst hp
  obtain ⟨L0, b, hf, hi, h⟩ := tx h hd rfl
  obtain ⟨a2, c2, j2, S0, fts2, ft2, v, e1, e2, e3, e4, rfl, hc⟩ := hi
  cases e1
  have ej : j2 = j := by
    have := congrArg (fun t => t.2.2) (e2.symm.trans hx)
    have this : (j2 : Int) = (j : Int) := this
    omega
  subst ej
  cases (e3.symm.trans hg : (Sum.inl (c2, fts2) : zD) = .inl (c, fts))
  cases e4.symm.trans hj
  rcases hc with ⟨h1, -⟩ | ⟨-, rfl⟩ | ⟨h1, -⟩
  · exact absurd (show 2 < 2 from h1) (by decide)
  · exact eT_fg hf h
  · exact absurd (show 2 = 3 from h1) (by decide)
/-- a field that is some cell of a kind -/
theorem tx_getk {a x c j : Nat} {fts : List zT} {k : Nat} (h : eT q n pc L (.inr (.inl (some a)) :: S) μ r μ') (hd : decode q.2.1 pc = .ok (.getfield x, 3)) (hx : xTb q.1.cls x = (0, c, (j : Int))) (hg : zG0.2.1 (zG0.1 a) = .inl (c, fts)) (hj : fts[j]? = some (3, k)) {p' : Nat} (hp : pc + 3 = p') : ∃ b : Nat, zG0.1 b = k ∧ μ.2.2.1 a j = some b ∧ eT q n p' L (.inr (.inl (some b)) :: S) μ r μ' := by
  subst hp
  obtain ⟨L0, b, hf, hi, h⟩ := tx h hd rfl
  obtain ⟨a2, c2, j2, S0, fts2, ft2, v, e1, e2, e3, e4, rfl, hc⟩ := hi
  cases e1
  have ej : j2 = j := by
    have := congrArg (fun t => t.2.2) (e2.symm.trans hx)
    have this : (j2 : Int) = (j : Int) := this
    omega
  subst ej
  cases (e3.symm.trans hg : (Sum.inl (c2, fts2) : zD) = .inl (c, fts))
  cases e4.symm.trans hj
  rcases hc with ⟨h1, -⟩ | ⟨h1, -⟩ | ⟨-, b, h1, h2, rfl⟩
  · exact absurd (show 3 < 2 from h1) (by decide)
  · exact absurd (show 3 = 2 from h1) (by decide)
  · exact ⟨b, h1, h2, eT_fg hf h⟩
theorem tx_putf {a x c j : Nat} {v : Int32} (h : eT q n pc L (.inl v :: .inr (.inl (some a)) :: S) μ r μ') (hd : decode q.2.1 pc = .ok (.putfield x, 3)) (hx : xTb q.1.cls x = (0, c, (j : Int))) {p' : Nat} (hp : pc + 3 = p') : eT q n p' L S (xpi μ a j v) r μ' := by
  subst hp
  obtain ⟨L0, b, hf, hi, h⟩ := tx h hd rfl
  obtain ⟨a2, c2, j2, S0, fts2, v2, e1, e2, e3, rfl⟩ := hi
  cases e1
  have ej : j2 = j := by
    have := congrArg (fun t => t.2.2) (e2.symm.trans hx)
    have this : (j2 : Int) = (j : Int) := this
    omega
  subst ej
  exact eT_fg hf h
/-- the place is within the array -/
theorem vpi {k : Int32} {len : Nat} (h : vp_in k len) : 0 ≤ k.toInt ∧ k.toInt < (len : Int) ∧ k.toNatClampNeg = k.toInt.toNat := by
  have h0 : ¬ k < 0 := fun q => h (Or.inl q)
  have h1 : ¬ len ≤ k.toNatClampNeg := fun q => h (Or.inr q)
  have e0 : (0 : Int32).toInt = 0 := rfl
  have h2 : 0 ≤ k.toInt := by
    have := Int32.not_lt.mp h0
    have := Int32.le_iff_toInt_le.mp this
    omega
  have h3 : k.toNatClampNeg = k.toInt.toNat := rfl
  exact ⟨h2, by omega, h3⟩
theorem tx_iald {k : Int32} {a len : Nat} (h : eT q n pc L (.inl k :: .inr (.inl (some a)) :: S) μ r μ') (hd : decode q.2.1 pc = .ok (.iaload, 1)) (hg : zG0.2.1 (zG0.1 a) = .inr (0, len)) {p' : Nat} (hp : pc + 1 = p') : (0 ≤ k.toInt ∧ k.toInt < (len : Int)) ∧ eT q n p' L (.inl (μ.1 a k.toInt.toNat) :: S) μ r μ' := by
  subst hp
  obtain ⟨L0, b, hf, hi, h⟩ := tx h hd rfl
  obtain ⟨k2, a2, l2, S0, v, e1, e2, e3, rfl, rfl⟩ := hi
  cases e1
  cases (e2.symm.trans hg : (Sum.inr (0, l2) : zD) = .inr (0, len))
  obtain ⟨g1, g2, g3⟩ := vpi e3
  exact ⟨⟨g1, g2⟩, by rw [g3] at h; exact eT_fg hf h⟩
theorem tx_lald {k : Int32} {a len : Nat} (h : eT q n pc L (.inl k :: .inr (.inl (some a)) :: S) μ r μ') (hd : decode q.2.1 pc = .ok (.laload, 1)) (hg : zG0.2.1 (zG0.1 a) = .inr (3, len)) {p' : Nat} (hp : pc + 1 = p') : (0 ≤ k.toInt ∧ k.toInt < (len : Int)) ∧ eT q n p' L (.inr (.inr (μ.2.1 a k.toInt.toNat)) :: S) μ r μ' := by
  subst hp
  obtain ⟨L0, b, hf, hi, h⟩ := tx h hd rfl
  obtain ⟨k2, a2, l2, S0, v, e1, e2, e3, rfl, rfl⟩ := hi
  cases e1
  cases (e2.symm.trans hg : (Sum.inr (3, l2) : zD) = .inr (3, len))
  obtain ⟨g1, g2, g3⟩ := vpi e3
  exact ⟨⟨g1, g2⟩, by rw [g3] at h; exact eT_fg hf h⟩
theorem tx_aald {k : Int32} {a len : Nat} (h : eT q n pc L (.inl k :: .inr (.inl (some a)) :: S) μ r μ') (hd : decode q.2.1 pc = .ok (.aaload, 1)) (hg : zG0.2.1 (zG0.1 a) = .inr (4, len)) {p' : Nat} (hp : pc + 1 = p') : (0 ≤ k.toInt ∧ k.toInt < (len : Int)) ∧ eT q n p' L (.inr (.inl (μ.2.2.1 a k.toInt.toNat)) :: S) μ r μ' := by
  subst hp
  obtain ⟨L0, b, hf, hi, h⟩ := tx h hd rfl
  obtain ⟨k2, a2, l2, S0, v, e1, e2, e3, rfl, rfl⟩ := hi
  cases e1
  cases (e2.symm.trans hg : (Sum.inr (4, l2) : zD) = .inr (4, len))
  obtain ⟨g1, g2, g3⟩ := vpi e3
  exact ⟨⟨g1, g2⟩, by rw [g3] at h; exact eT_fg hf h⟩
theorem tx_bald {k : Int32} {a t len : Nat} (h : eT q n pc L (.inl k :: .inr (.inl (some a)) :: S) μ r μ') (hd : decode q.2.1 pc = .ok (.baload, 1)) (hg : zG0.2.1 (zG0.1 a) = .inr (t, len)) {p' : Nat} (hp : pc + 1 = p') : (0 ≤ k.toInt ∧ k.toInt < (len : Int)) ∧ eT q n p' L (.inl (μ.1 a k.toInt.toNat) :: S) μ r μ' := by
  subst hp
  obtain ⟨L0, b, hf, hi, h⟩ := tx h hd rfl
  obtain ⟨k2, a2, t2, l2, S0, v, e1, -, e2, e3, rfl, rfl⟩ := hi
  cases e1
  cases (e2.symm.trans hg : (Sum.inr (t2, l2) : zD) = .inr (t, len))
  obtain ⟨g1, g2, g3⟩ := vpi e3
  exact ⟨⟨g1, g2⟩, by rw [g3] at h; exact eT_fg hf h⟩
theorem tx_iast {v k : Int32} {a len : Nat} (h : eT q n pc L (.inl v :: .inl k :: .inr (.inl (some a)) :: S) μ r μ') (hd : decode q.2.1 pc = .ok (.iastore, 1)) (hg : zG0.2.1 (zG0.1 a) = .inr (0, len)) {p' : Nat} (hp : pc + 1 = p') : (0 ≤ k.toInt ∧ k.toInt < (len : Int)) ∧ eT q n p' L S (xpi μ a k.toInt.toNat v) r μ' := by
  subst hp
  obtain ⟨L0, b, hf, hi, h⟩ := tx h hd rfl
  obtain ⟨v2, k2, a2, l2, S0, e1, e2, e3, rfl⟩ := hi
  cases e1
  cases (e2.symm.trans hg : (Sum.inr (0, l2) : zD) = .inr (0, len))
  obtain ⟨g1, g2, g3⟩ := vpi e3
  exact ⟨⟨g1, g2⟩, by rw [g3] at h; exact eT_fg hf h⟩
theorem tx_bast {v k : Int32} {a t len : Nat} (h : eT q n pc L (.inl v :: .inl k :: .inr (.inl (some a)) :: S) μ r μ') (hd : decode q.2.1 pc = .ok (.bastore, 1)) (hg : zG0.2.1 (zG0.1 a) = .inr (t, len)) {p' : Nat} (hp : pc + 1 = p') : (0 ≤ k.toInt ∧ k.toInt < (len : Int)) ∧ eT q n p' L S (xpi μ a k.toInt.toNat v.toInt8.toInt32) r μ' := by
  subst hp
  obtain ⟨L0, b, hf, hi, h⟩ := tx h hd rfl
  obtain ⟨v2, k2, a2, t2, l2, S0, e1, -, e2, e3, rfl⟩ := hi
  cases e1
  cases (e2.symm.trans hg : (Sum.inr (t2, l2) : zD) = .inr (t, len))
  obtain ⟨g1, g2, g3⟩ := vpi e3
  exact ⟨⟨g1, g2⟩, by rw [g3] at h; exact eT_fg hf h⟩
theorem tx_last {v : Int64} {k : Int32} {a len : Nat} (h : eT q n pc L (.inr (.inr v) :: .inl k :: .inr (.inl (some a)) :: S) μ r μ') (hd : decode q.2.1 pc = .ok (.lastore, 1)) (hg : zG0.2.1 (zG0.1 a) = .inr (3, len)) {p' : Nat} (hp : pc + 1 = p') : (0 ≤ k.toInt ∧ k.toInt < (len : Int)) ∧ eT q n p' L S (xpl μ a k.toInt.toNat v) r μ' := by
  subst hp
  obtain ⟨L0, b, hf, hi, h⟩ := tx h hd rfl
  obtain ⟨v2, k2, a2, l2, S0, e1, e2, e3, rfl⟩ := hi
  cases e1
  cases (e2.symm.trans hg : (Sum.inr (3, l2) : zD) = .inr (3, len))
  obtain ⟨g1, g2, g3⟩ := vpi e3
  exact ⟨⟨g1, g2⟩, by rw [g3] at h; exact eT_fg hf h⟩
theorem tx_aast {v : Nat} {k : Int32} {a len : Nat} (h : eT q n pc L (.inr (.inl (some v)) :: .inl k :: .inr (.inl (some a)) :: S) μ r μ') (hd : decode q.2.1 pc = .ok (.aastore, 1)) (hg : zG0.2.1 (zG0.1 a) = .inr (4, len)) {p' : Nat} (hp : pc + 1 = p') : (0 ≤ k.toInt ∧ k.toInt < (len : Int)) ∧ eT q n p' L S (xpr μ a k.toInt.toNat (some v)) r μ' := by
  subst hp
  obtain ⟨L0, b, hf, hi, h⟩ := tx h hd rfl
  obtain ⟨v2, k2, a2, l2, S0, e1, e2, e3, rfl⟩ := hi
  cases e1
  cases (e2.symm.trans hg : (Sum.inr (4, l2) : zD) = .inr (4, len))
  obtain ⟨g1, g2, g3⟩ := vpi e3
  exact ⟨⟨g1, g2⟩, by rw [g3] at h; exact eT_fg hf h⟩
theorem tx_alen {a t len : Nat} (h : eT q n pc L (.inr (.inl (some a)) :: S) μ r μ') (hd : decode q.2.1 pc = .ok (.arraylength, 1)) (hg : zG0.2.1 (zG0.1 a) = .inr (t, len)) {p' : Nat} (hp : pc + 1 = p') : eT q n p' L (.inl (Int32.ofNat len) :: S) μ r μ' := by
  subst hp
  obtain ⟨L0, b, hf, hi, h⟩ := tx h hd rfl
  obtain ⟨a2, t2, l2, S0, e1, e2, rfl⟩ := hi
  cases e1
  cases (e2.symm.trans hg : (Sum.inr (t2, l2) : zD) = .inr (t, len))
  exact eT_fg hf h
theorem tx_invV {x na mn : Nat} {p : xP} {as rest : List zV} (h : eT q n pc L S μ r μ') (hd : decode q.2.1 pc = .ok (.invokevirtual x, 3)) (hx : xTb q.1.cls x = (4, na, (mn : Int))) (hm : xMB mn = some p) (hp : zpop na [] S = some (as, rest)) {p' : Nat} (hp : pc + 3 = p') : ∃ (r1 : Option zV) (μ1 : xM), Ex gx p as μ r1 μ1 ∧ eT q n p' L (zpush r1 rest) μ1 r μ' := by
  subst hp
  obtain ⟨L0, b, hf, hi, h⟩ := tx h hd rfl
  obtain ⟨na2, mn2, e1, p2, as2, rest2, r1, μ1, e2, e3, e4, rfl⟩ := hi
  have g1 : na2 = na := congrArg (fun t => t.2.1) (e1.symm.trans hx)
  have g2 : (mn2 : Int) = (mn : Int) := congrArg (fun t => t.2.2) (e1.symm.trans hx)
  have g3 : mn2 = mn := by omega
  subst g1
  subst g3
  cases e3.symm.trans hm
  cases e2.symm.trans hp
  exact ⟨r1, μ1, e4, eT_fg hf h⟩
theorem tx_invS {x na mn : Nat} {p : xP} {as rest : List zV} (h : eT q n pc L S μ r μ') (hd : decode q.2.1 pc = .ok (.invokestatic x, 3)) (hx : xTb q.1.cls x = (4, na, (mn : Int))) (hm : xMB mn = some p) (hp : zpop na [] S = some (as, rest)) {p' : Nat} (hp : pc + 3 = p') : ∃ (r1 : Option zV) (μ1 : xM), Ex gx p as μ r1 μ1 ∧ eT q n p' L (zpush r1 rest) μ1 r μ' := by
  subst hp
  obtain ⟨L0, b, hf, hi, h⟩ := tx h hd rfl
  have no : ∀ k : Nat, xTb q.1.cls x = (k, 0, 0) → k = 4 := fun k e1 => congrArg (fun t => t.1) (e1.symm.trans hx)
  rcases hi with ⟨na2, mn2, e1, p2, as2, rest2, r1, μ1, e2, e3, e4, rfl⟩ | ⟨e1, -⟩ | ⟨e1, -⟩ | ⟨e1, -⟩
  · have g1 : na2 = na := congrArg (fun t => t.2.1) (e1.symm.trans hx)
    have g2 : (mn2 : Int) = (mn : Int) := congrArg (fun t => t.2.2) (e1.symm.trans hx)
    have g3 : mn2 = mn := by omega
    subst g1
    subst g3
    cases e3.symm.trans hm
    cases e2.symm.trans hp
    exact ⟨r1, μ1, e4, eT_fg hf h⟩
  · exact absurd (no 5 e1) (by decide)
  · exact absurd (no 6 e1) (by decide)
  · exact absurd (no 7 e1) (by decide)
theorem tx_ireturn {x : Int32} (h : eT q n pc L (.inl x :: S) μ r μ') (hd : decode q.2.1 pc = .ok (.ireturn, 1)) : r = some (.inl x) ∧ μ' = μ := by
  obtain ⟨L0, k, pf, Lf, Sf, h1, h2, h3, h4⟩ := h
  induction k generalizing L0 with
  | zero =>
    cases h3
    rcases h4 with ⟨-, y, e1, e2⟩ | ⟨e, -⟩ | ⟨e, -⟩
    · cases e1
      exact ⟨e2, rfl⟩
    · cases hd.symm.trans e
    · cases hd.symm.trans e
  | succ k ih =>
    obtain ⟨c, hs, h3⟩ := h3
    rcases hs with ⟨i', n', e, hi⟩ | ⟨e1, e2, e3⟩
    · cases hd.symm.trans e
      exact hi.elim
    · obtain ⟨c1, c2, c3, c4⟩ := c
      cases e1
      cases e3
      exact ih c2 (zFg_tr e2 h1) (by omega) h3
theorem tx_return (h : eT q n pc L S μ r μ') (hd : decode q.2.1 pc = .ok (.return_, 1)) : r = none ∧ μ' = μ := by
  obtain ⟨L0, k, pf, Lf, Sf, h1, h2, h3, h4⟩ := h
  induction k generalizing L0 with
  | zero =>
    cases h3
    rcases h4 with ⟨e, -⟩ | ⟨-, e1, e2⟩ | ⟨e, -⟩
    · cases hd.symm.trans e
    · exact ⟨e2, rfl⟩
    · cases hd.symm.trans e
  | succ k ih =>
    obtain ⟨c, hs, h3⟩ := h3
    rcases hs with ⟨i', n', e, hi⟩ | ⟨e1, e2, e3⟩
    · cases hd.symm.trans e
      exact hi.elim
    · obtain ⟨c1, c2, c3, c4⟩ := c
      cases e1
      cases e3
      exact ih c2 (zFg_tr e2 h1) (by omega) h3
theorem tx_lreturn {x : Int64} (h : eT q n pc L (.inr (.inr x) :: S) μ r μ') (hd : decode q.2.1 pc = .ok (.lreturn, 1)) : r = some (.inr (.inr x)) ∧ μ' = μ := by
  obtain ⟨L0, k, pf, Lf, Sf, h1, h2, h3, h4⟩ := h
  induction k generalizing L0 with
  | zero =>
    cases h3
    rcases h4 with ⟨e, -⟩ | ⟨e, -⟩ | ⟨-, y, e1, e2⟩
    · cases hd.symm.trans e
    · cases hd.symm.trans e
    · cases e1
      exact ⟨e2, rfl⟩
  | succ k ih =>
    obtain ⟨c, hs, h3⟩ := h3
    rcases hs with ⟨i', n', e, hi⟩ | ⟨e1, e2, e3⟩
    · cases hd.symm.trans e
      exact hi.elim
    · obtain ⟨c1, c2, c3, c4⟩ := c
      cases e1
      cases e3
      exact ih c2 (zFg_tr e2 h1) (by omega) h3
/-- a method's run begins -/
theorem tx_in {as : List zV} {L : zL} (h : Ex gx q as μ r μ') (hL : zloc q.2.2.1 as = L) : ∃ n, eT q n 0 L [] μ r μ' := by
  obtain ⟨n, pc, Lf, S, h1, h2⟩ := Ex_out h
  subst hL
  exact ⟨n, _, n, pc, Lf, S, zFg_rf, Nat.le_refl _, h1, h2⟩
end TX
