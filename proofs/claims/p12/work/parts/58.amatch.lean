/-! ===== BOXES: cuts with a measure ===== -/
/-- a cut: its place, the state there, where its own symbols stand ((0, i) a local, (1, id) a field), the measure -/
abbrev aCut : Type := Nat × aS × List (Nat × Nat) × Int × List Int
noncomputable def asub (n0 : Nat) (df : List aN) (a : aN) : aN := bif Nat.blt a.1 n0 then a else match xget df (a.1 - n0) with
  | some b => (b.1, b.2 + a.2)
  | none => a
noncomputable def adef (A : aS) (p : Nat × Nat) : Option aN := match p.1 with
  | 0 => (match xget A.2.2.1 p.2 with
    | some (some (.inl a)) => some a
    | _ => none)
  | _ + 1 => afind A.2.2.2.2.1 p.2
noncomputable def adefs (A : aS) : List (Nat × Nat) → Option (List aN)
  | [] => some []
  | p :: l => match adef A p with
    | none => none
    | some a => match adefs A l with
      | none => none
      | some l' => some (a :: l')
noncomputable def amv (g : zG) (n0 nt : Nat) (df : List aN) (v v' : aV) : Bool := match v, v' with
  | .inl a, .inl a' => Nat.blt a.1 nt && aNeq (asub n0 df a) a'
  | .inr (.inl (0, r)), .inr (.inl (0, r')) => Nat.beq r r'
  | .inr (.inl (_ + 1, kd)), .inr (.inl q) => Nat.beq (akd g q) kd
  | .inr (.inr _), .inr (.inr _) => true
  | _, _ => false
noncomputable def amloc (g : zG) (n0 nt : Nat) (df : List aN) : List (Option aV) → List (Option aV) → Bool
  | [], [] => true
  | none :: t, o :: t' => !aisLo (some o) && amloc g n0 nt df t t'
  | some v :: t, some v' :: t' => amv g n0 nt df v v' && amloc g n0 nt df t t'
  | _, _ => false
noncomputable def amfi (n0 nt : Nat) (df : List aN) : List (Nat × aN) → List (Nat × aN) → Bool
  | [], [] => true
  | q :: t, q' :: t' => (Nat.beq q.1 q'.1 && (Nat.blt q.2.1 nt && aNeq (asub n0 df q.2) q'.2)) && amfi n0 nt df t t'
  | _, _ => false
noncomputable def amenv (n0 : Nat) (df : List aN) (en : List aQ) : Nat → List aQ → Bool
  | _, [] => true
  | k, q :: t => (ile q.1 (aiv en (asub n0 df (k, 0))).1 && ile (aiv en (asub n0 df (k, 0))).2 q.2) && amenv n0 df en (k + 1) t
noncomputable def amatch (g : zG) (n0 : Nat) (c : aCut) (A : aS) : Option (List aN) := match adefs A c.2.2.1 with
  | none => none
  | some df => bif Nat.beq c.2.1.1.length (n0 + df.length) && (amloc g n0 c.2.1.1.length df c.2.1.2.2.1 A.2.2.1 && (amfi n0 c.2.1.1.length df c.2.1.2.2.2.2.1 A.2.2.2.2.1 && (amenv n0 df A.1 0 c.2.1.1 && (c.2.1.2.1.isEmpty && (c.2.1.2.2.2.1.isEmpty && (A.2.2.2.1.isEmpty && (Nat.beq c.2.1.2.2.2.2.2.1 A.2.2.2.2.2.1 && Nat.beq c.2.1.2.2.2.2.2.2 A.2.2.2.2.2.2))))))) then some df else none
noncomputable def asb (n0 : Nat) (df : List aN) (ρ : Nat → Int) : Nat → Int := fun s => ρ (asub n0 df (s, 0)).1 + (asub n0 df (s, 0)).2
section A9
variable {g : zG} {T : aT} {Inv : zI → Prop} {fl : Bool × Bool} {I0 : zI}
theorem asub_val {n0 : Nat} {df : List aN} {ρ : Nat → Int} (a : aN) : ρ (asub n0 df a).1 + (asub n0 df a).2 = asb n0 df ρ a.1 + a.2 := by
  unfold asb asub
  show _ = (ρ (bif Nat.blt a.1 n0 then (a.1, 0) else match xget df (a.1 - n0) with
  | some b => (b.1, b.2 + 0)
  | none => (a.1, 0)).1 + (bif Nat.blt a.1 n0 then (a.1, (0 : Int)) else match xget df (a.1 - n0) with
  | some b => (b.1, b.2 + 0)
  | none => (a.1, 0)).2) + a.2
  cases Nat.blt a.1 n0 with
  | true => show ρ a.1 + a.2 = ρ a.1 + 0 + a.2; omega
  | false =>
    cases xget df (a.1 - n0) with
    | none => show ρ a.1 + a.2 = ρ a.1 + 0 + a.2; omega
    | some b => show ρ b.1 + (b.2 + a.2) = ρ b.1 + (b.2 + 0) + a.2; omega
theorem asb_lo {n0 : Nat} {df : List aN} {ρ : Nat → Int} : aAg ρ (asb n0 df ρ) n0 := by
  intro s hs
  unfold asb asub
  have e : Nat.blt s n0 = true := by
    show Nat.ble (s + 1) n0 = true
    exact Nat.ble_eq_true_of_le hs
  simp only [e, cond_true]
  omega
theorem adef_ok {ρ : Nat → Int} {A : aS} {L : zL} {S : List zV} {I : zI} {B : Nat × Nat} (h : aG g T Inv fl I0 ρ A L S I B) {p : Nat × Nat} {a : aN} (hp : adef A p = some a) : a.1 < A.1.length := by
  unfold adef at hp
  split at hp
  · rw [xget_eq] at hp
    split at hp
    · rename_i b hb
      cases hp
      obtain ⟨z, -, h2, -⟩ := (h.2.2.1.2 p.2).1 _ hb
      exact h2
    · cases hp
  · exact (h.2.2.2.2.1 _ (afind_mem hp)).1
theorem adefs_ok {ρ : Nat → Int} {A : aS} {L : zL} {S : List zV} {I : zI} {B : Nat × Nat} (h : aG g T Inv fl I0 ρ A L S I B) : ∀ {l : List (Nat × Nat)} {df : List aN}, adefs A l = some df → ∀ a ∈ df, a.1 < A.1.length
  | [], df, hd, a, ha => by cases hd; cases ha
  | p :: l, df, hd, a, ha => by
    have hd : (match adef A p with
    | none => none
    | some a => match adefs A l with
      | none => none
      | some l' => some (a :: l')) = some df := hd
    split at hd
    · cases hd
    · rename_i b hb
      split at hd
      · cases hd
      · rename_i l' hl'
        cases hd
        rcases List.mem_cons.mp ha with rfl | ha
        · exact adef_ok h hb
        · exact adefs_ok h hl' a ha
theorem asub_lt {n0 n : Nat} {df : List aN} (hn : n0 ≤ n) (hd : ∀ a ∈ df, a.1 < n) {k : Nat} (hk : k < n0 + df.length) : (asub n0 df (k, 0)).1 < n := by
  unfold asub
  cases hc : Nat.blt k n0 with
  | true =>
    have := xblt hc
    show k < n
    omega
  | false =>
    have hge : n0 ≤ k := by
      apply Classical.byContradiction
      intro hlt
      have e : Nat.blt k n0 = true := by
        show Nat.ble (k + 1) n0 = true
        exact Nat.ble_eq_true_of_le (by omega)
      rw [e] at hc
      cases hc
    have hl : k - n0 < df.length := by omega
    show (match xget df (k - n0) with
    | some b => (b.1, b.2 + 0)
    | none => (k, 0)).1 < n
    rw [xget_eq, List.getElem?_eq_getElem hl]
    exact hd (df[k - n0]) (List.getElem_mem hl)
theorem aiv_in {ρ : Nat → Int} {en : List aQ} (h : aEnOk ρ en) {a : aN} (ha : a.1 < en.length) : (aiv en a).1 ≤ ρ a.1 + a.2 ∧ ρ a.1 + a.2 ≤ (aiv en a).2 := by
  obtain ⟨q, h1, h2, h3⟩ := aEnOk_lt h ha
  unfold aiv
  rw [xget_eq, h1]
  show q.1 + a.2 ≤ _ ∧ _ ≤ q.2 + a.2
  omega
theorem amenv_ok {n0 : Nat} {df : List aN} {en : List aQ} {ρ : Nat → Int} (he : aEnOk ρ en) {m : Nat} (hs : ∀ k, k < m → (asub n0 df (k, 0)).1 < en.length) : ∀ {t : List aQ} {k : Nat}, k + t.length ≤ m → amenv n0 df en k t = true → ∀ (i : Nat) (q : aQ), t[i]? = some q → q.1 ≤ asb n0 df ρ (k + i) ∧ asb n0 df ρ (k + i) ≤ q.2
  | [], k, _, _, i, q, hi => by simp at hi
  | q0 :: t, k, hm, h, i, q, hi => by
    have h : ((ile q0.1 (aiv en (asub n0 df (k, 0))).1 && ile (aiv en (asub n0 df (k, 0))).2 q0.2) && amenv n0 df en (k + 1) t) = true := h
    rw [Bool.and_eq_true, Bool.and_eq_true] at h
    simp only [List.length_cons] at hm
    cases i with
    | zero =>
      cases hi
      have h1 := aiv_in he (hs k (by omega))
      have h2 := ile_ok h.1.1
      have h3 := ile_ok h.1.2
      show q0.1 ≤ asb n0 df ρ k ∧ asb n0 df ρ k ≤ q0.2
      unfold asb
      omega
    | succ i =>
      have := amenv_ok he hs (t := t) (k := k + 1) (by omega) h.2 i q hi
      rw [show k + (i + 1) = k + 1 + i by omega]
      exact this
theorem amv_ok {n0 nt n : Nat} {df : List aN} {ρ : Nat → Int} {v v' : aV} {z : zV} (h : amv g n0 nt df v v' = true) (hz : aVOk g ρ n v' z) : aVOk g (asb n0 df ρ) nt v z := by
  unfold amv at h
  split at h
  · rename_i a a'
    rw [Bool.and_eq_true] at h
    obtain ⟨h1, x, h2, h3⟩ := hz
    refine ⟨xblt h.1, x, h2, ?_⟩
    rw [h3, ← aNeq_ok h.2]
    exact asub_val a
  · have := Nat.eq_of_beq_eq_true h
    subst this
    exact hz
  · obtain ⟨r, h1, h2⟩ := akd_ok hz
    exact ⟨r, h1, by rw [h2]; exact Nat.eq_of_beq_eq_true h⟩
  · exact hz
  · cases h
theorem amloc_ok {n0 nt n : Nat} {df : List aN} {ρ : Nat → Int} : ∀ {t t' : List (Option aV)} {L : zL}, amloc g n0 nt df t t' = true → aLOk g ρ n t' L → aLOk g (asb n0 df ρ) nt t L
  | [], [], L, _, hL => ⟨hL.1, fun i => ⟨fun v hv => by simp at hv, fun hv => by simp at hv⟩⟩
  | none :: t, o :: t', L, h, hL => by
    have h : (!aisLo (some o) && amloc g n0 nt df t t') = true := h
    rw [Bool.and_eq_true] at h
    have h1 : aisLo (some o) = false := by simpa using h.1
    cases L with
    | nil => have := hL.1; simp at this
    | cons z L =>
      have hL2 : aLOk g ρ n t' L := ⟨by have := hL.1; simpa using this, fun i => by have := hL.2 (i + 1); simpa using this⟩
      have ih := amloc_ok h.2 hL2
      refine ⟨by simp [ih.1], fun i => ?_⟩
      cases i with
      | zero =>
        refine ⟨fun v hv => by simp at hv, fun _ => ?_⟩
        exact azlg (AL := o :: t') hL (i := 0) h1
      | succ i => simpa using ih.2 i
  | some v :: t, some v' :: t', L, h, hL => by
    have h : (amv g n0 nt df v v' && amloc g n0 nt df t t') = true := h
    rw [Bool.and_eq_true] at h
    cases L with
    | nil => have := hL.1; simp at this
    | cons z L =>
      have hL2 : aLOk g ρ n t' L := ⟨by have := hL.1; simpa using this, fun i => by have := hL.2 (i + 1); simpa using this⟩
      have ih := amloc_ok h.2 hL2
      refine ⟨by simp [ih.1], fun i => ?_⟩
      cases i with
      | zero =>
        refine ⟨fun w hw => ?_, fun hw => by simp at hw⟩
        simp only [List.getElem?_cons_zero, Option.some.injEq] at hw
        cases hw
        obtain ⟨z', h1, h2⟩ := (hL.2 0).1 v' rfl
        exact ⟨z', h1, amv_ok h.1 h2⟩
      | succ i => simpa using ih.2 i
  | some v :: t, none :: t', L, h, hL => by cases h
  | [], _ :: _, L, h, hL => by cases h
  | none :: _, [], L, h, hL => by cases h
  | some _ :: _, [], L, h, hL => by cases h
theorem amfi_ok {n0 nt n : Nat} {df : List aN} {ρ : Nat → Int} {I : zI} : ∀ {t t' : List (Nat × aN)}, amfi n0 nt df t t' = true → aFOk ρ n t' I → aFOk (asb n0 df ρ) nt t I ∧ ∀ id, (∀ a, (id, a) ∉ t) → ∀ a, (id, a) ∉ t'
  | [], [], _, _ => ⟨fun q hq => absurd hq List.not_mem_nil, fun _ h => h⟩
  | q :: t, q' :: t', h, hF => by
    have h : ((Nat.beq q.1 q'.1 && (Nat.blt q.2.1 nt && aNeq (asub n0 df q.2) q'.2)) && amfi n0 nt df t t') = true := h
    simp only [Bool.and_eq_true] at h
    obtain ⟨⟨h1, h2, h3⟩, h4⟩ := h
    have e1 := Nat.eq_of_beq_eq_true h1
    have e3 := aNeq_ok h3
    obtain ⟨i1, i2⟩ := amfi_ok h4 (fun q hq => hF q (List.mem_cons_of_mem _ hq))
    refine ⟨fun p hp => ?_, fun id hid a ha => ?_⟩
    · rcases List.mem_cons.mp hp with rfl | hp
      · have := hF q' List.mem_cons_self
        refine ⟨xblt h2, ?_⟩
        rw [e1, this.2, ← e3]
        exact asub_val p.2
      · exact i1 p hp
    · rcases List.mem_cons.mp ha with ha | ha
      · refine hid q.2 ?_
        have : id = q'.1 := by rw [← ha]
        rw [this, ← e1]
        exact List.mem_cons_self
      · exact i2 id (fun a' ha' => hid a' (List.mem_cons_of_mem _ ha')) a ha
  | [], _ :: _, h, _ => by cases h
  | _ :: _, [], h, _ => by cases h
theorem amatch_ok {n0 : Nat} {c : aCut} {A : aS} {df : List aN} (h : amatch g n0 c A = some df) {ρ : Nat → Int} {L : zL} {S : List zV} {I : zI} {B : Nat × Nat} (h0 : 0 < n0) (hn : n0 ≤ A.1.length) (hA : aG g T Inv fl I0 ρ A L S I B) : aG g T Inv fl I0 (asb n0 df ρ) c.2.1 L S I B ∧ c.2.1.1.length = n0 + df.length ∧ ∀ k, k < n0 + df.length → (asub n0 df (k, 0)).1 < A.1.length := by
  unfold amatch at h
  split at h
  · cases h
  · rename_i df' hdf
    cases hc : Nat.beq c.2.1.1.length (n0 + df'.length) && (amloc g n0 c.2.1.1.length df' c.2.1.2.2.1 A.2.2.1 && (amfi n0 c.2.1.1.length df' c.2.1.2.2.2.2.1 A.2.2.2.2.1 && (amenv n0 df' A.1 0 c.2.1.1 && (c.2.1.2.1.isEmpty && (c.2.1.2.2.2.1.isEmpty && (A.2.2.2.1.isEmpty && (Nat.beq c.2.1.2.2.2.2.2.1 A.2.2.2.2.2.1 && Nat.beq c.2.1.2.2.2.2.2.2 A.2.2.2.2.2.2))))))) with
    | false => rw [hc] at h; cases h
    | true =>
      rw [hc] at h
      cases h
      simp only [Bool.and_eq_true] at hc
      obtain ⟨c1, c2, c3, c4, c5, c6, c7, c8, c9⟩ := hc
      obtain ⟨e1, e2, e3, e4, e5, e6, e7, e8, e9⟩ := id hA
      have hl := Nat.eq_of_beq_eq_true c1
      have hd := adefs_ok hA hdf
      have hs : ∀ k, k < n0 + df.length → (asub n0 df (k, 0)).1 < A.1.length := fun k hk => asub_lt hn hd hk
      have c5 := List.isEmpty_iff.mp c5
      have c6 := List.isEmpty_iff.mp c6
      have c7 := List.isEmpty_iff.mp c7
      obtain ⟨f1, f2⟩ := amfi_ok c3 e5
      refine ⟨⟨⟨?_, fun s q hs2 => ?_⟩, ?_, amloc_ok c2 e3, ?_, f1, ?_, e7, fun id hid hno => e8 id hid (f2 id hno), e9⟩, hl, hs⟩
      · rw [asb_lo 0 h0]
        exact e1.1
      · have := amenv_ok (ρ := ρ) e1 hs (t := c.2.1.1) (k := 0) (by omega) c4 s q hs2
        rw [Nat.zero_add] at this
        exact this
      · rw [c5]
        exact fun q hq => absurd hq List.not_mem_nil
      · rw [c6]
        rw [c7] at e4
        exact e4
      · rw [e6]
        exact Prod.ext (Nat.eq_of_beq_eq_true c8).symm (Nat.eq_of_beq_eq_true c9).symm
end A9
/-! measures -/
def adot (ρ : Nat → Int) : Nat → List Int → Int
  | _, [] => 0
  | k, c :: t => c * ρ k + adot ρ (k + 1) t
def alow : List Int → List aQ → Option Int
  | [], _ => some 0
  | _ :: _, [] => none
  | c :: t, q :: e => match alow t e with
    | none => none
    | some x => some ((bif ile 0 c then c * q.1 else c * q.2) + x)
def aadd : List Int → Nat → Int → List Int
  | [], 0, c => [c]
  | [], s + 1, c => 0 :: aadd [] s c
  | x :: t, 0, c => (x + c) :: t
  | x :: t, s + 1, c => x :: aadd t s c
theorem alow_ok {ρ : Nat → Int} : ∀ {D : List Int} {e : List aQ} {k : Nat} {x : Int}, (∀ i q, e[i]? = some q → q.1 ≤ ρ (k + i) ∧ ρ (k + i) ≤ q.2) → alow D e = some x → x ≤ adot ρ k D
  | [], _, k, x, _, h => by cases h; exact Int.le_refl 0
  | c :: t, [], k, x, _, h => by cases h
  | c :: t, q :: e, k, x, he, h => by
    have h : (match alow t e with
    | none => none
    | some x => some ((bif ile 0 c then c * q.1 else c * q.2) + x)) = some x := h
    split at h
    · cases h
    · rename_i y hy
      cases h
      have ih := alow_ok (k := k + 1) (fun i q hi => by have := he (i + 1) q hi; rw [show k + (i + 1) = k + 1 + i by omega] at this; exact this) hy
      have hq := he 0 q rfl
      rw [show k + 0 = k by omega] at hq
      show _ ≤ c * ρ k + adot ρ (k + 1) t
      cases hc : ile 0 c with
      | true =>
        have hc := ile_ok hc
        have : c * q.1 ≤ c * ρ k := Int.mul_le_mul_of_nonneg_left hq.1 hc
        show c * q.1 + y ≤ _
        omega
      | false =>
        have hc := ile_no hc
        have : c * q.2 ≤ c * ρ k := Int.mul_le_mul_of_nonpos_left (by omega) hq.2
        show c * q.2 + y ≤ _
        omega
theorem aadd_ok {ρ : Nat → Int} {c : Int} : ∀ {D : List Int} {s k : Nat}, adot ρ k (aadd D s c) = adot ρ k D + c * ρ (k + s)
  | [], 0, k => by show c * ρ k + 0 = 0 + c * ρ k; omega
  | [], s + 1, k => by
    show 0 * ρ k + adot ρ (k + 1) (aadd [] s c) = 0 + c * ρ (k + (s + 1))
    rw [aadd_ok (D := []) (s := s) (k := k + 1), show k + 1 + s = k + (s + 1) by omega]
    show 0 * ρ k + (0 + _) = _
    omega
  | x :: t, 0, k => by
    show (x + c) * ρ k + adot ρ (k + 1) t = x * ρ k + adot ρ (k + 1) t + c * ρ k
    rw [Int.add_mul]
    omega
  | x :: t, s + 1, k => by
    show x * ρ k + adot ρ (k + 1) (aadd t s c) = x * ρ k + adot ρ (k + 1) t + c * ρ (k + (s + 1))
    rw [aadd_ok (D := t) (s := s) (k := k + 1), show k + 1 + s = k + (s + 1) by omega]
    omega
/-- the source's measure less the target's -/
noncomputable def adiff (n0 : Nat) (df : List aN) : Nat → List Int → List Int × Int → List Int × Int
  | _, [], D => D
  | k, c :: t, D => adiff n0 df (k + 1) t (aadd D.1 (asub n0 df (k, 0)).1 (-c), D.2 - c * (asub n0 df (k, 0)).2)
theorem adiff_ok {n0 : Nat} {df : List aN} {ρ : Nat → Int} : ∀ {t : List Int} {k : Nat} {D : List Int × Int}, (adiff n0 df k t D).2 + adot ρ 0 (adiff n0 df k t D).1 = D.2 + adot ρ 0 D.1 - adot (asb n0 df ρ) k t
  | [], k, D => by show D.2 + adot ρ 0 D.1 = D.2 + adot ρ 0 D.1 - 0; omega
  | c :: t, k, D => by
    show (adiff n0 df (k + 1) t (aadd D.1 (asub n0 df (k, 0)).1 (-c), D.2 - c * (asub n0 df (k, 0)).2)).2 + adot ρ 0 (adiff n0 df (k + 1) t (aadd D.1 (asub n0 df (k, 0)).1 (-c), D.2 - c * (asub n0 df (k, 0)).2)).1 = _
    rw [adiff_ok (t := t) (k := k + 1)]
    show D.2 - c * (asub n0 df (k, 0)).2 + adot ρ 0 (aadd D.1 (asub n0 df (k, 0)).1 (-c)) - _ = D.2 + adot ρ 0 D.1 - (c * asb n0 df ρ k + adot (asb n0 df ρ) (k + 1) t)
    rw [aadd_ok, Nat.zero_add]
    unfold asb
    rw [Int.mul_add, Int.neg_mul]
    omega
