theorem jd_p1 {p : Int32} (h : 0 ≤ p.toInt) (h4 : p.toInt ≤ 408) : (p + 1).toInt = p.toInt + 1 := by
  have e1 : (1 : Int32).toInt = 1 := by decide
  rw [an_add (by rw [e1]; omega) (by rw [e1]; omega), e1]
theorem jAt_e {ω0 ω : xM} {p : Nat} {C : List kOp} (h : jAt ω0 p C) (hE : jE ω0 ω) : jAt ω p C := fun i hi => by
  rw [hE.1 10 _ (by decide), hE.1 11 _ (by decide)]
  exact h i hi
/-- one operation: goes on, or answers 0 -/
theorem jd_one {n : Nat} {l p t : Int32} {o4 o5 : Option zV} {ω0 ω μ' : xM} {r : Option zV} {st : List Int32} {o : kOp} (h : eT xq_3 n 12 [some (.inr (.inl (some 48))), some (.inl l), some (.inl p), some (.inl t), o4, o5] [] ω r μ') (hK : jK ω0 ω st t) (hq : 0 ≤ p.toInt) (hp : p.toInt < (ω0.1 2 14).toInt) (h4 : (ω0.1 2 14).toInt ≤ 408) (ho : oOp o) (hA : (ω0.1 10 p.toInt.toNat).toInt = o.1 ∧ (ω0.1 11 p.toInt.toNat).toInt = o.2) : (∃ st' n' t' o4' o5' ω', opL (fun i => ω0.1 49 i) o st = some st' ∧ eT xq_3 n' 12 [some (.inr (.inl (some 48))), some (.inl l), some (.inl (p + 1)), some (.inl t'), o4', o5'] [] ω' r μ' ∧ jK ω0 ω' st' t') ∨ (opL (fun i => ω0.1 49 i) o st = none ∧ r = some (.inl 0) ∧ jE ω0 μ') := by
  obtain ⟨hE, hT, h16, hS⟩ := hK
  have hK : jK ω0 ω st t := ⟨hE, hT, h16, hS⟩
  have e2 : ω.1 2 14 = ω0.1 2 14 := hE.1 2 14 (by decide)
  have e10 : (ω.1 10 p.toInt.toNat).toInt = o.1 := by rw [hE.1 10 _ (by decide)]; exact hA.1
  have e11 : ω.1 11 p.toInt.toNat = ω0.1 11 p.toInt.toNat := hE.1 11 _ (by decide)
  have hp' : p.toInt < (ω.1 2 14).toInt := by rw [e2]; exact hp
  have ht1 : (t + 1).toInt = t.toInt + 1 := jd_p1 (by omega) (by omega)
  unfold opL
  by_cases c01 : o.1 = 0 ∨ o.1 = 1
  · by_cases c16 : 16 ≤ st.length
    · rw [if_pos ⟨c01, c16⟩]
      rcases c01 with c0 | c0
      · obtain ⟨g1, g2⟩ := jd_full0 h hp' hq (by omega) (by omega)
        exact Or.inr ⟨rfl, g1, by rw [g2]; exact hE⟩
      · obtain ⟨g1, g2⟩ := jd_full1 h hp' hq (by omega) (by omega)
        exact Or.inr ⟨rfl, g1, by rw [g2]; exact hE⟩
    · rw [if_neg (fun q => c16 q.2)]
      rcases c01 with c0 | c0
      · obtain ⟨n', o4', o5', g⟩ := jd_push0 h hp' hq (by omega) (by omega)
        refine Or.inl ⟨_, n', _, o4', o5', _, ?_, g, jK_push hK (by omega) ht1⟩
        unfold opV
        rw [if_pos c0, e11, ← hA.2, Int32.ofInt_toInt]
      · obtain ⟨n', o4', o5', g⟩ := jd_push1 h hp' hq (by omega) (by omega)
        refine Or.inl ⟨_, n', _, o4', o5', _, ?_, g, jK_push hK (by omega) ht1⟩
        unfold opV
        rw [if_neg (by omega), if_pos c0, e11, ← hA.2, hE.1 49 _ (by decide)]
  · rw [if_neg (fun q => c01 q.1)]
    have c25 : 2 ≤ o.1 ∧ o.1 ≤ 5 := by rcases ho with q | q | q <;> omega
    unfold opV
    rw [if_neg (by omega), if_neg (by omega)]
    match st, hK, hT, h16, hS with
    | [], hK, hT, h16, hS =>
      obtain ⟨g1, g2⟩ := jd_few h hp' hq (by omega) (by rw [hT]; decide)
      exact Or.inr ⟨rfl, g1, by rw [g2]; exact hE⟩
    | [x], hK, hT, h16, hS =>
      obtain ⟨g1, g2⟩ := jd_few h hp' hq (by omega) (by rw [hT]; show ((1 : Nat) : Int) < 2; decide)
      exact Or.inr ⟨rfl, g1, by rw [g2]; exact hE⟩
    | b :: a :: st, hK, hT, h16, hS =>
      rw [List.length_cons, List.length_cons] at hT h16
      have hb : ω.1 50 (t.toInt - 1).toNat = b := by
        have q := jK_0 hK
        rw [List.length_cons] at q
        rw [show (t.toInt - 1).toNat = st.length + 1 by omega]; exact q
      have ha : ω.1 50 (t.toInt - 2).toNat = a := by
        have q := hS 1 (by rw [List.length_cons, List.length_cons]; omega)
        rw [List.length_cons, List.length_cons] at q
        rw [show (t.toInt - 2).toNat = st.length + 1 + 1 - 1 - 1 by omega]; exact q
      have hK2 : ∀ (v : Int32) (t1 : Int32), t1.toInt = t.toInt - 1 → jK ω0 (xpi ω 50 (t.toInt - 2).toNat v) (v :: st) t1 := fun v t1 e => by
        refine ⟨jE_i hE, by rw [e, List.length_cons]; omega, by rw [List.length_cons]; omega, fun i hi => ?_⟩
        rw [List.length_cons] at hi ⊢
        cases i with
        | zero => rw [show st.length + 1 - 1 - 0 = (t.toInt - 2).toNat by omega, xpi_at]; rfl
        | succ i =>
          have q := hS (i + 1 + 1) (by rw [List.length_cons, List.length_cons]; omega)
          rw [List.length_cons, List.length_cons, show st.length + 1 + 1 - 1 - (i + 1 + 1) = st.length + 1 - 1 - (i + 1) by omega] at q
          rw [xpi_ne (fun z => by omega)]
          exact q
      show (∃ st' n' t' o4' o5' ω', (if o.1 = 5 ∧ b = 0 then none else some ((if o.1 = 2 then a + b else if o.1 = 3 then a - b else if o.1 = 4 then a * b else a / b) :: st)) = some st' ∧ _ ∧ _) ∨ ((if o.1 = 5 ∧ b = 0 then none else some ((if o.1 = 2 then a + b else if o.1 = 3 then a - b else if o.1 = 4 then a * b else a / b) :: st)) = none ∧ _ ∧ _)
      have h4c : o.1 = 2 ∨ o.1 = 3 ∨ o.1 = 4 ∨ o.1 = 5 := by omega
      rcases h4c with c | c | c | c
      · obtain ⟨n', o4', o5', t1, e1, g⟩ := jd_op2 h hp' hq (by omega) (by omega) (by omega)
        rw [ha, hb] at g
        exact Or.inl ⟨_, n', t1, o4', o5', _, by rw [if_neg (fun q => by omega), if_pos c], g, hK2 _ _ e1⟩
      · obtain ⟨n', o4', o5', t1, e1, g⟩ := jd_op3 h hp' hq (by omega) (by omega) (by omega)
        rw [ha, hb] at g
        exact Or.inl ⟨_, n', t1, o4', o5', _, by rw [if_neg (fun q => by omega), if_neg (by omega), if_pos c], g, hK2 _ _ e1⟩
      · obtain ⟨n', o4', o5', t1, e1, g⟩ := jd_op4 h hp' hq (by omega) (by omega) (by omega)
        rw [ha, hb] at g
        exact Or.inl ⟨_, n', t1, o4', o5', _, by rw [if_neg (fun q => by omega), if_neg (by omega), if_neg (by omega), if_pos c], g, hK2 _ _ e1⟩
      · by_cases hz : b = 0
        · obtain ⟨g1, g2⟩ := jd_div0 h hp' hq (by omega) (by omega) (by rw [hb]; exact hz)
          exact Or.inr ⟨by rw [if_pos ⟨c, hz⟩], g1, by rw [g2]; exact hE⟩
        · obtain ⟨n', o4', o5', t1, e1, g⟩ := jd_op5 h hp' hq (by omega) (by omega) (by omega) (by rw [hb]; exact hz)
          rw [ha, hb] at g
          exact Or.inl ⟨_, n', t1, o4', o5', _, by rw [if_neg (fun q => hz q.2), if_neg (by omega), if_neg (by omega), if_neg (by omega)], g, hK2 _ _ e1⟩
/-- a stretch of operations -/
theorem jd_seg {l : Int32} {ω0 μ' : xM} {r : Option zV} (h4 : (ω0.1 2 14).toInt ≤ 408) : ∀ (C : List kOp) (n : Nat) (p t : Int32) (o4 o5 : Option zV) (ω : xM) (st : List Int32), eT xq_3 n 12 [some (.inr (.inl (some 48))), some (.inl l), some (.inl p), some (.inl t), o4, o5] [] ω r μ' → jK ω0 ω st t → 0 ≤ p.toInt → oLs C → jAt ω0 p.toInt.toNat C → p.toInt + C.length ≤ (ω0.1 2 14).toInt → (∃ st' n' p' t' o4' o5' ω', runL (fun i => ω0.1 49 i) C st = some st' ∧ p'.toInt = p.toInt + C.length ∧ eT xq_3 n' 12 [some (.inr (.inl (some 48))), some (.inl l), some (.inl p'), some (.inl t'), o4', o5'] [] ω' r μ' ∧ jK ω0 ω' st' t') ∨ (runL (fun i => ω0.1 49 i) C st = none ∧ r = some (.inl 0) ∧ jE ω0 μ')
  | [], n, p, t, o4, o5, ω, st, h, hK, hq, _, _, _ => Or.inl ⟨st, n, p, t, o4, o5, ω, rfl, (Int.add_zero _).symm, h, hK⟩
  | o :: C, n, p, t, o4, o5, ω, st, h, hK, hq, ho, hA, hl => by
    rw [List.length_cons] at hl
    have hp1 := jd_p1 hq (by omega)
    show (∃ st' n' p' t' o4' o5' ω', ((opL (fun i => ω0.1 49 i) o st).bind (runL (fun i => ω0.1 49 i) C)) = some st' ∧ _ ∧ _ ∧ _) ∨ (((opL (fun i => ω0.1 49 i) o st).bind (runL (fun i => ω0.1 49 i) C)) = none ∧ _ ∧ _)
    rcases jd_one h hK hq (by omega) h4 (ho o List.mem_cons_self) (jAt_h hA) with ⟨st1, n1, t1, a4, a5, ω1, e1, g1, k1⟩ | ⟨e1, e2, e3⟩
    · rw [e1]
      have hA1 : jAt ω0 (p + 1).toInt.toNat C := by
        rw [show (p + 1).toInt.toNat = p.toInt.toNat + 1 by omega]
        exact jAt_t hA
      rcases jd_seg h4 C n1 (p + 1) t1 a4 a5 ω1 st1 g1 k1 (by omega) (fun x hx => ho x (List.mem_cons_of_mem _ hx)) hA1 (by omega) with ⟨st2, n2, p2, t2, b4, b5, ω2, f1, f2, f3, f4⟩ | ⟨f1, f2, f3⟩
      · exact Or.inl ⟨st2, n2, p2, t2, b4, b5, ω2, f1, by rw [f2, hp1, List.length_cons]; omega, f3, f4⟩
      · exact Or.inr ⟨f1, f2, f3⟩
    · rw [e1]
      exact Or.inr ⟨rfl, e2, e3⟩
theorem lay_c {s : Nat} {X : List kOp × List kOp × List kOp} {t : List (List kOp × List kOp × List kOp)} {D : List kOp} : lay s (X :: t, D) = layX s X ++ lay (s + (layX s X).length) (t, D) := by
  show (layX s X ++ layB (s + (layX s X).length) t) ++ (D ++ [(7, 0)]) = layX s X ++ (layB (s + (layX s X).length) t ++ (D ++ [(7, 0)]))
  rw [List.append_assoc]
/-- an expression from an empty stack, then an answer -/
theorem jd_tail {l : Int32} {ω0 μ' : xM} {r : Option zV} (h4 : (ω0.1 2 14).toInt ≤ 408) {D : List kOp} {x : Int} {n : Nat} {p t : Int32} {o4 o5 : Option zV} {ω : xM} (h : eT xq_3 n 12 [some (.inr (.inl (some 48))), some (.inl l), some (.inl p), some (.inl t), o4, o5] [] ω r μ') (hK : jK ω0 ω [] t) (hq : 0 ≤ p.toInt) (ho : oLs D) (hD : eOk 15 D) (hA : jAt ω0 p.toInt.toNat (D ++ [(7, x)])) (hl : p.toInt + D.length + 1 ≤ (ω0.1 2 14).toInt) : r = some (.inl ((ev (fun i => ω0.1 49 i) D).getD 0)) ∧ jE ω0 μ' := by
  have hr := (hD (fun i => ω0.1 49 i) []).2 (by decide)
  rcases jd_seg h4 D n p t o4 o5 ω [] h hK hq ho (jAt_l hA) (by omega) with ⟨st1, n1, p1, t1, a4, a5, ω1, e1, e2, e3, e4⟩ | ⟨e1, e2, e3⟩
  · rw [hr] at e1
    cases hv : ev (fun i => ω0.1 49 i) D with
    | none => rw [hv] at e1; cases e1
    | some w =>
      rw [hv] at e1
      have e1 : [w] = st1 := Option.some.inj e1
      subst e1
      have hA7 := jAt_h (jAt_e (jAt_r hA) e4.1)
      rw [show p.toInt.toNat + D.length = p1.toInt.toNat by omega] at hA7
      have ht1 : t1.toInt = 1 := e4.2.1
      obtain ⟨g1, g2⟩ := jd_ans e3 (by rw [e4.1.1 2 14 (by decide)]; omega) (by omega) hA7.1 (by omega)
      refine ⟨?_, by rw [g2]; exact e4.1⟩
      have q := jK_0 e4
      rw [g1, show (t1.toInt - 1).toNat = ([] : List Int32).length by rw [ht1]; rfl, q]
      rfl
  · rw [hr] at e1
    cases hv : ev (fun i => ω0.1 49 i) D with
    | none => exact ⟨e2, e3⟩
    | some w => rw [hv] at e1; cases e1
/-- a law -/
theorem jd_law {l : Int32} {ω0 μ' : xM} {r : Option zV} (h4 : (ω0.1 2 14).toInt ≤ 408) {D : List kOp} (hoD : oLs D) (hkD : eOk 15 D) : ∀ (B : List (List kOp × List kOp × List kOp)) (n : Nat) (p t : Int32) (o4 o5 : Option zV) (ω : xM), eT xq_3 n 12 [some (.inr (.inl (some 48))), some (.inl l), some (.inl p), some (.inl t), o4, o5] [] ω r μ' → jK ω0 ω [] t → 0 ≤ p.toInt → (∀ X, X ∈ B → oLs X.1 ∧ oLs X.2.1 ∧ oLs X.2.2) → (∀ X, X ∈ B → eOk 15 X.1 ∧ eOk 15 X.2.1 ∧ eOk 15 X.2.2) → jAt ω0 p.toInt.toNat (lay p.toInt.toNat (B, D)) → p.toInt + (lay p.toInt.toNat (B, D)).length ≤ (ω0.1 2 14).toInt → r = some (.inl (evL (fun i => ω0.1 49 i) B D)) ∧ jE ω0 μ'
  | [], n, p, t, o4, o5, ω, h, hK, hq, _, _, hA, hl => by
    have e : lay p.toInt.toNat ([], D) = D ++ [(7, 0)] := rfl
    rw [e] at hA hl
    rw [List.length_append] at hl
    have hl : p.toInt + ((D.length + 1 : Nat) : Int) ≤ (ω0.1 2 14).toInt := hl
    exact jd_tail h4 h hK hq hoD hkD hA (by omega)
  | X :: B, n, p, t, o4, o5, ω, h, hK, hq, hoB, hkB, hA, hl => by
    obtain ⟨A, B1, C⟩ := X
    obtain ⟨oA, oB, oC⟩ := hoB _ List.mem_cons_self
    obtain ⟨kA, kB', kC⟩ := hkB _ List.mem_cons_self
    have oA : oLs A := oA
    have oB : oLs B1 := oB
    have oC : oLs C := oC
    have kA : eOk 15 A := kA
    have kB' : eOk 15 B1 := kB'
    have kC : eOk 15 C := kC
    rw [lay_c] at hA hl
    rw [List.length_append] at hl
    have hXl : (layX p.toInt.toNat (A, B1, C)).length = A.length + B1.length + 1 + C.length + 1 := layX_l _ _
    have hX := jAt_l hA
    have hN := jAt_r hA
    unfold layX at hX
    have hA1 : jAt ω0 p.toInt.toNat A := jAt_l hX
    have hX2 := jAt_r hX
    have hB1 : jAt ω0 (p.toInt.toNat + A.length) B1 := jAt_l hX2
    have hX3 := jAt_r hX2
    have h6 := jAt_h hX3
    have hC1 := jAt_t hX3
    have rA := (kA (fun i => ω0.1 49 i) []).2 (by decide)
    have red : evL (fun i => ω0.1 49 i) ((A, B1, C) :: B) D = (match ev (fun i => ω0.1 49 i) A, ev (fun i => ω0.1 49 i) B1 with
      | some u, some v => if u < v then (ev (fun i => ω0.1 49 i) C).getD 0 else evL (fun i => ω0.1 49 i) B D
      | _, _ => 0) := rfl
    rw [red]
    rcases jd_seg h4 A n p t o4 o5 ω [] h hK hq oA hA1 (by omega) with ⟨st1, n1, p1, t1, a4, a5, ω1, e1, e2, e3, e4⟩ | ⟨e1, e2, e3⟩
    rotate_left
    · rw [rA] at e1
      cases hv : ev (fun i => ω0.1 49 i) A with
      | none => exact ⟨e2, e3⟩
      | some w => rw [hv] at e1; cases e1
    rw [rA] at e1
    cases hv : ev (fun i => ω0.1 49 i) A with
    | none => rw [hv] at e1; cases e1
    | some u =>
      rw [hv] at e1
      have e1 : [u] = st1 := Option.some.inj e1
      subst e1
      have rB := (kB' (fun i => ω0.1 49 i) [u]).2 (by show 1 + 15 ≤ 16; decide)
      rw [show p.toInt.toNat + A.length = p1.toInt.toNat by omega] at hB1
      rcases jd_seg h4 B1 n1 p1 t1 a4 a5 ω1 [u] e3 e4 (by omega) oB hB1 (by omega) with ⟨st2, n2, p2, t2, b4, b5, ω2, f1, f2, f3, f4⟩ | ⟨f1, f2, f3⟩
      rotate_left
      · rw [rB] at f1
        cases hw : ev (fun i => ω0.1 49 i) B1 with
        | none => exact ⟨f2, f3⟩
        | some w => rw [hw] at f1; cases f1
      rw [rB] at f1
      cases hw : ev (fun i => ω0.1 49 i) B1 with
      | none => rw [hw] at f1; cases f1
      | some v =>
        rw [hw] at f1
        have f1 : [v, u] = st2 := Option.some.inj f1
        subst f1
        have ht2 : t2.toInt = 2 := f4.2.1
        have hp2 : p2.toInt = p.toInt + A.length + B1.length := by omega
        have h6b : (ω2.1 10 p2.toInt.toNat).toInt = 6 ∧ (ω2.1 11 p2.toInt.toNat).toInt = ((p.toInt.toNat + A.length + B1.length + 1 + C.length + 1 : Nat) : Int) := by
          rw [f4.1.1 10 _ (by decide), f4.1.1 11 _ (by decide), show p2.toInt.toNat = p.toInt.toNat + A.length + B1.length by omega]
          exact h6
        have hb : ω2.1 50 (t2.toInt - 1).toNat = v := by
          have q := jK_0 f4
          rw [ht2]
          exact q
        have ha : ω2.1 50 (t2.toInt - 2).toNat = u := by
          have q := f4.2.2.2 1 (by show 1 < 2; decide)
          rw [ht2]
          exact q
        have hs2 : p2.toInt < (ω2.1 2 14).toInt := by rw [f4.1.1 2 14 (by decide)]; omega
        show r = some (.inl (if u < v then (ev (fun i => ω0.1 49 i) C).getD 0 else evL (fun i => ω0.1 49 i) B D)) ∧ jE ω0 μ'
        by_cases huv : u < v
        · rw [if_pos huv]
          obtain ⟨n3, c4, c5, t3, g1, g2⟩ := jd_skipy f3 hs2 (by omega) h6b.1 (by omega) (by omega) (by rw [ha, hb]; exact Int32.lt_iff_toInt_lt.mp huv)
          have hp3 := jd_p1 (p := p2) (by omega) (by omega)
          have hC2 : jAt ω0 (p2 + 1).toInt.toNat (C ++ [(7, 0)]) := by
            rw [show (p2 + 1).toInt.toNat = p.toInt.toNat + A.length + B1.length + 1 by omega]
            exact hC1
          exact jd_tail h4 g2 ⟨f4.1, by rw [g1, ht2]; rfl, by decide, fun i hi => absurd hi (Nat.not_lt_zero i)⟩ (by omega) oC kC hC2 (by omega)
        · rw [if_neg huv]
          obtain ⟨n3, c4, c5, t3, g1, g2⟩ := jd_skipn f3 hs2 (by omega) h6b.1 (by omega) (by omega) (by rw [ha, hb]; exact fun q => huv (Int32.lt_iff_toInt_lt.mpr q))
          have hp3 := jd_p1 (p := p2) (by omega) (by omega)
          have e11 := h6b.2
          generalize hpp : (if (p2 + 1) < (ω2.1 11 p2.toInt.toNat) then (ω2.1 11 p2.toInt.toNat) else (p2 + 1) : Int32) = pp at g2
          have hppv : pp.toInt = ((p.toInt.toNat + A.length + B1.length + 1 + C.length + 1 : Nat) : Int) := by
            rw [← hpp, an_max, hp3, e11]
            by_cases z : p2.toInt + 1 < ((p.toInt.toNat + A.length + B1.length + 1 + C.length + 1 : Nat) : Int)
            · rw [if_pos z]
            · rw [if_neg z]; omega
          have hnx : pp.toInt.toNat = p.toInt.toNat + (layX p.toInt.toNat (A, B1, C)).length := by
            rw [layX_l]
            show pp.toInt.toNat = p.toInt.toNat + (A.length + B1.length + 1 + C.length + 1)
            omega
          refine jd_law h4 hoD hkD B n3 pp t3 c4 c5 ω2 g2 ⟨f4.1, by rw [g1, ht2]; rfl, by decide, fun i hi => absurd hi (Nat.not_lt_zero i)⟩ (by omega) (fun X hX => hoB X (List.mem_cons_of_mem _ hX)) (fun X hX => hkB X (List.mem_cons_of_mem _ hX)) (by rw [hnx]; exact hN) ?_
          rw [hnx, hppv]
          omega
set_option maxRecDepth 10000 in
set_option maxHeartbeats 4000000 in
theorem ex_judge {l : Int32} {k : Nat} {L : kLw} {μ μ' : xM} {r : Option zV} (h0 : Ex gx xq_3 [.inr (.inl (some 48)), .inl l] μ r μ') (hL : lC1 2 k L μ) (hl : l.toInt = (k : Int)) (h4 : (μ.1 2 14).toInt ≤ 408) (ho : oLw L) (hk : kOkL L) : r = some (.inl (evL (fun i => μ.1 49 i) L.1 L.2)) ∧ jE μ μ' := by
  obtain ⟨n, h⟩ := tx_in (L := [some (.inr (.inl (some 48))), some (.inl l), none, none, none, none]) h0 rfl
  replace h := tx_aload_n (p' := 1) h em3_0 rfl rfl
  replace h := tx_getc (c := 1) (j := 0) (p' := 4) h em3_1 ((congrFun xo_2 18).trans rfl) rfl rfl rfl
  replace h := tx_getc (c := 6) (j := 11) (p' := 7) h em3_4 ((congrFun xo_2 75).trans rfl) rfl rfl rfl
  replace h := tx_iload_n (p' := 8) h em3_7 rfl rfl
  obtain ⟨hb8, h⟩ := tx_iald (len := 4) (p' := 9) h em3_8 rfl rfl
  replace hb8 : (0 : Int) ≤ l.toInt ∧ l.toInt < 4 := hb8
  replace h := tx_istore_n (p' := 10) h em3_9 rfl
  replace h : eT xq_3 _ 10 [some (.inr (.inl (some 48))), some (.inl l), some (.inl (μ.1 9 l.toInt.toNat)), none, none, none] [] μ r μ' := h
  replace h := tx_iconst (v := 0) (p' := 11) h em3_10 (by decide +kernel) rfl
  replace h := tx_istore_n (p' := 12) h em3_11 rfl
  replace h : eT xq_3 _ 12 [some (.inr (.inl (some 48))), some (.inl l), some (.inl (μ.1 9 l.toInt.toNat)), some (.inl (0 : Int32)), none, none] [] μ r μ' := h
  obtain ⟨s, b1, b2, b3⟩ := hL
  have hb1 : (μ.1 9 l.toInt.toNat).toInt = s := by rw [show l.toInt.toNat = k by omega]; exact b1
  have e0 : (0 : Int32).toInt = 0 := by decide
  have hs : (μ.1 9 l.toInt.toNat).toInt.toNat = s := by omega
  refine jd_law h4 ho.2 hk.2 L.1 _ _ _ _ _ _ h ⟨⟨fun _ _ _ => rfl, rfl⟩, e0, by decide, fun i hi => absurd hi (Nat.not_lt_zero i)⟩ (by omega) ho.1 hk.1 ?_ ?_
  · rw [hs]
    exact fun i hi => b3 i hi
  · rw [hs, hb1]
    exact b2
