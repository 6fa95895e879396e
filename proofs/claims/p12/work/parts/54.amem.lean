/-! abstract steps on the memory -/
def akd (g : zG) (q : Nat × Nat) : Nat := match q with
  | (0, r) => g.1 r
  | (_ + 1, kd) => kd
noncomputable def afind (FI : List (Nat × aN)) (id : Nat) : Option aN := List.rec none (fun q _ ih => bif Nat.beq q.1 id then some q.2 else ih) FI
def aput (FI : List (Nat × aN)) (id : Nat) (a : aN) : List (Nat × aN) := match FI with
  | [] => []
  | q :: FI => (bif Nat.beq q.1 id then (id, a) else q) :: aput FI id a
theorem afind_mem {id : Nat} {a : aN} : ∀ {FI : List (Nat × aN)}, afind FI id = some a → (id, a) ∈ FI
  | [], h => by cases h
  | q :: FI, h => by
    have h : (bif Nat.beq q.1 id then some q.2 else afind FI id) = some a := h
    cases hc : Nat.beq q.1 id with
    | true =>
      rw [hc] at h
      have e := Nat.eq_of_beq_eq_true hc
      cases h
      rw [← e]
      exact List.mem_cons_self
    | false =>
      rw [hc] at h
      exact List.mem_cons_of_mem _ (afind_mem h)
theorem aput_mem {id : Nat} {a : aN} : ∀ {FI : List (Nat × aN)} {q : Nat × aN}, q ∈ aput FI id a → q = (id, a) ∨ (q ∈ FI ∧ q.1 ≠ id)
  | [], q, h => by cases h
  | q0 :: FI, q, h => by
    rcases List.mem_cons.mp h with h | h
    · cases hc : Nat.beq q0.1 id with
      | true => rw [hc] at h; exact Or.inl h
      | false =>
        rw [hc] at h
        refine Or.inr ⟨?_, ?_⟩
        · rw [h]; exact List.mem_cons_self
        · rw [h]
          intro e
          have : Nat.beq q0.1 id = true := by rw [show q0.1 = id from e]; exact Nat.beq_refl id
          rw [this] at hc
          cases hc
    · rcases aput_mem h with h | ⟨h1, h2⟩
      · exact Or.inl h
      · exact Or.inr ⟨List.mem_cons_of_mem _ h1, h2⟩
theorem aput_key {id : Nat} {a : aN} : ∀ {FI : List (Nat × aN)} {i : Nat}, (∀ b, (i, b) ∉ aput FI id a) → ∀ b, (i, b) ∉ FI
  | [], i, _, b, hb => by cases hb
  | q0 :: FI, i, h, b, hb => by
    rcases List.mem_cons.mp hb with hb | hb
    · cases hc : Nat.beq q0.1 id with
      | true =>
        have e := Nat.eq_of_beq_eq_true hc
        have e2 : q0.1 = i := by rw [← hb]
        refine h a ?_
        show (i, a) ∈ (bif Nat.beq q0.1 id then (id, a) else q0) :: aput FI id a
        rw [hc, ← e2, e]
        exact List.mem_cons_self
      | false =>
        refine h b ?_
        show (i, b) ∈ (bif Nat.beq q0.1 id then (id, a) else q0) :: aput FI id a
        rw [hc, hb]
        exact List.mem_cons_self
    · exact aput_key (FI := FI) (fun b' hb' => h b' (List.mem_cons_of_mem _ hb')) b hb
/-- bounds of the elements between two places -/
def aeiv (l : List (Nat × Nat × Int × Int)) (x y : Int) : aQ := match l with
  | [] => (-2147483648, 2147483647)
  | q :: l => bif ile q.1 x && ile y q.2.1 then (imax (aeiv l x y).1 q.2.2.1, imin (aeiv l x y).2 q.2.2.2) else aeiv l x y
theorem aeiv_ok {x y : Int} {i : Nat} {v : Int32} (h1 : x ≤ (i : Int)) (h2 : (i : Int) ≤ y) : ∀ {l : List (Nat × Nat × Int × Int)}, (∀ q ∈ l, q.1 ≤ i → i ≤ q.2.1 → q.2.2.1 ≤ v.toInt ∧ v.toInt ≤ q.2.2.2) → (aeiv l x y).1 ≤ v.toInt ∧ v.toInt ≤ (aeiv l x y).2
  | [], _ => ⟨an_lo v, an_hi v⟩
  | q :: l, h => by
    have ih := aeiv_ok h1 h2 (l := l) (fun q hq => h q (List.mem_cons_of_mem _ hq))
    show (bif ile q.1 x && ile y q.2.1 then (imax (aeiv l x y).1 q.2.2.1, imin (aeiv l x y).2 q.2.2.2) else aeiv l x y).1 ≤ _ ∧ _ ≤ (bif ile q.1 x && ile y q.2.1 then (imax (aeiv l x y).1 q.2.2.1, imin (aeiv l x y).2 q.2.2.2) else aeiv l x y).2
    cases hc : ile q.1 x && ile y q.2.1 with
    | false => exact ih
    | true =>
      rw [Bool.and_eq_true] at hc
      have c1 := ile_ok hc.1
      have c2 := ile_ok hc.2
      have hq := h q List.mem_cons_self (by omega) (by omega)
      exact ⟨imax_c ih.1 hq.1, imin_c ih.2 hq.2⟩
/-- whether a value of the bounds p may stand between two places -/
def aest (l : List (Nat × Nat × Int × Int)) (x y : Int) (p : aQ) : Bool := match l with
  | [] => true
  | q :: l => (ile (q.2.1 + 1) x || (ile (y + 1) q.1 || (ile q.2.2.1 p.1 && ile p.2 q.2.2.2))) && aest l x y p
theorem aest_ok {x y : Int} {p : aQ} {i : Nat} {v : Int} (h1 : x ≤ (i : Int)) (h2 : (i : Int) ≤ y) (h3 : p.1 ≤ v) (h4 : v ≤ p.2) : ∀ {l : List (Nat × Nat × Int × Int)}, aest l x y p = true → ∀ q ∈ l, q.1 ≤ i → i ≤ q.2.1 → q.2.2.1 ≤ v ∧ v ≤ q.2.2.2
  | [], _, q, hq, _, _ => by cases hq
  | q0 :: l, h, q, hq, g1, g2 => by
    have h : ((ile (q0.2.1 + 1) x || (ile (y + 1) q0.1 || (ile q0.2.2.1 p.1 && ile p.2 q0.2.2.2))) && aest l x y p) = true := h
    rw [Bool.and_eq_true] at h
    rcases List.mem_cons.mp hq with rfl | hq
    · have h5 := h.1
      simp only [Bool.or_eq_true, Bool.and_eq_true] at h5
      rcases h5 with h5 | h5 | ⟨h5, h6⟩
      · have := ile_ok h5; omega
      · have := ile_ok h5; omega
      · have := ile_ok h5; have := ile_ok h6; omega
    · exact aest_ok h1 h2 h3 h4 h.2 q hq g1 g2
def aNeq (a b : aN) : Bool := Nat.beq a.1 b.1 && ieq a.2 b.2
theorem aNeq_ok {a b : aN} (h : aNeq a b = true) : a = b := by
  unfold aNeq at h
  rw [Bool.and_eq_true] at h
  exact Prod.ext (Nat.eq_of_beq_eq_true h.1) (ieq_ok h.2)
def atagd (tg : List (Nat × Nat × aN)) (s t : Nat) (i : aN) : Bool := match tg with
  | [] => false
  | q :: tg => (Nat.beq q.1 s && (Nat.beq q.2.1 t && aNeq q.2.2 i)) || atagd tg s t i
theorem atagd_ok {s t : Nat} {i : aN} : ∀ {tg : List (Nat × Nat × aN)}, atagd tg s t i = true → (s, t, i) ∈ tg
  | [], h => by cases h
  | q :: tg, h => by
    have h : ((Nat.beq q.1 s && (Nat.beq q.2.1 t && aNeq q.2.2 i)) || atagd tg s t i) = true := h
    simp only [Bool.or_eq_true, Bool.and_eq_true] at h
    rcases h with ⟨h1, h2, h3⟩ | h
    · have e1 := Nat.eq_of_beq_eq_true h1
      have e2 := Nat.eq_of_beq_eq_true h2
      have e3 := aNeq_ok h3
      obtain ⟨q1, q2, q3⟩ := q
      cases e1
      cases e2
      cases e3
      exact List.mem_cons_self
    · exact List.mem_cons_of_mem _ (atagd_ok h)
noncomputable def a_getf (g : zG) (T : aT) (ci j n : Nat) : aF := fun A => match A.2.2.2.1 with
  | .inr (.inl q) :: S => (match g.2.1 (akd g q) with
    | .inl (c, fts) => bif Nat.beq c ci then (match xget fts j with
      | some (0, id) => (match afind A.2.2.2.2.1 id with
        | some a => some [(n, A.1, A.2.1, A.2.2.1, .inl a :: S, A.2.2.2.2)]
        | none => none)
      | some (1, iv) => some [(n, apsh A (.inr (T.2.2 iv)) S)]
      | some (2, r) => some [(n, A.1, A.2.1, A.2.2.1, .inr (.inl (0, r)) :: S, A.2.2.2.2)]
      | some (3, kd) => some [(n, A.1, A.2.1, A.2.2.1, .inr (.inl (1, kd)) :: S, A.2.2.2.2)]
      | _ => none) else none
    | .inr _ => none)
  | _ => none
noncomputable def a_puti (g : zG) (T : aT) (prot : Nat → Bool) (ci j kd n : Nat) : aF := fun A => match A.2.2.2.1 with
  | .inl v :: .inr (.inl q) :: S => (match g.2.1 (akd g q) with
    | .inl (c, fts) => bif Nat.beq c ci && (Nat.beq kd 0 || (ile 0 (aiv A.1 v).1 && ile (aiv A.1 v).2 1)) then (match xget fts j with
      | some (0, id) => (match afind A.2.2.2.2.1 id with
        | some _ => bif prot id then none else some [(n, A.1, A.2.1, A.2.2.1, S, aput A.2.2.2.2.1 id v, A.2.2.2.2.2)]
        | none => none)
      | some (1, iv) => bif ile (T.2.2 iv).1 (aiv A.1 v).1 && ile (aiv A.1 v).2 (T.2.2 iv).2 then some [(n, A.1, A.2.1, A.2.2.1, S, A.2.2.2.2)] else none
      | _ => none) else none
    | .inr _ => none)
  | _ => none
/-- the elements' table of an array, where the place is inside -/
noncomputable def aidx (g : zG) (T : aT) (fl : Bool × Bool) (A : aS) (q : Nat × Nat) (i : aN) (ts : Nat → Bool) : Option (Nat × aQ) := match g.2.1 (akd g q) with
  | .inr (t, len) => bif ts t && (ile 0 (aiv A.1 i).1 && (ile ((aiv A.1 i).2 + 1) len && (ile ((aiv A.1 i).2 + 1) (T.2.1 (T.1 (akd g q))).1 && (!g.2.2.2.2.2 (akd g q) || fl.1)))) then some (T.1 (akd g q), aeiv (T.2.1 (T.1 (akd g q))).2 (aiv A.1 i).1 (aiv A.1 i).2) else none
  | .inl _ => none
noncomputable def a_ald (g : zG) (T : aT) (fl : Bool × Bool) (ts : Nat → Bool) (n : Nat) : aF := fun A => match A.2.2.2.1 with
  | .inl i :: .inr (.inl q) :: S => (match aidx g T fl A q i ts with
    | some (tb, p) => some [(n, A.1 ++ [p], (A.1.length, tb, i) :: A.2.1, A.2.2.1, .inl (A.1.length, 0) :: S, A.2.2.2.2)]
    | none => none)
  | _ => none
/-- a store: nr what is kept of the value -/
noncomputable def a_ast (g : zG) (T : aT) (ts : Nat → Bool) (n : Nat) : aF := fun A => match A.2.2.2.1 with
  | .inl v :: .inl i :: .inr (.inl q) :: S => (match g.2.1 (akd g q) with
    | .inr (t, len) => bif ts t && (ile 0 (aiv A.1 i).1 && (ile ((aiv A.1 i).2 + 1) len && (ile ((aiv A.1 i).2 + 1) (T.2.1 (T.1 (akd g q))).1 && (!g.2.2.2.2.2 (akd g q) && ((Nat.beq t 0 || (Nat.beq t 1 || (ile 0 (aiv A.1 v).1 && ile (aiv A.1 v).2 1))) && ((Nat.beq t 0 && (ieq v.2 0 && atagd A.2.1 v.1 (T.1 (akd g q)) i)) || aest (T.2.1 (T.1 (akd g q))).2 (aiv A.1 i).1 (aiv A.1 i).2 (bif Nat.beq t 1 then (-128, 127) else aiv A.1 v))))))) then some [(n, A.1, A.2.1, A.2.2.1, S, A.2.2.2.2)] else none
    | .inl _ => none)
  | _ => none
noncomputable def a_alen (g : zG) (n : Nat) : aF := fun A => match A.2.2.2.1 with
  | .inr (.inl q) :: S => (match g.2.1 (akd g q) with
    | .inr (t, len) => bif Nat.blt t 3 && Nat.blt len 2147483648 then some [(n, A.1, A.2.1, A.2.2.1, .inl (0, (len : Int)) :: S, A.2.2.2.2)] else none
    | .inl _ => none)
  | _ => none
noncomputable def a_lald (g : zG) (n : Nat) : aF := fun A => match A.2.2.2.1 with
  | .inl i :: .inr (.inl q) :: S => (match g.2.1 (akd g q) with
    | .inr (t, len) => bif Nat.beq t 3 && (ile 0 (aiv A.1 i).1 && ile ((aiv A.1 i).2 + 1) len) then some [(n, A.1, A.2.1, A.2.2.1, .inr (.inr ()) :: S, A.2.2.2.2)] else none
    | .inl _ => none)
  | _ => none
section A4
variable {g : zG} {T : aT} {Inv : zI → Prop} {fl : Bool × Bool}
theorem akd_ok {ρ : Nat → Int} {n : Nat} {q : Nat × Nat} {z : zV} (h : aVOk g ρ n (.inr (.inl q)) z) : ∃ r, z = .inr (.inl (some r)) ∧ g.1 r = akd g q := by
  match q, h with
  | (0, r), h => exact ⟨r, h, rfl⟩
  | (_ + 1, kd), ⟨r, h, h2⟩ => exact ⟨r, h, h2⟩
theorem zget0 {I : zI} {id : Nat} {K : zV → Prop} (h : K (.inl (I id))) : zget g I (0, id) K := ⟨fun _ => h, fun q => absurd q (by simp), fun q => absurd q (by simp), fun q => absurd q (by simp)⟩
theorem zget1 {I : zI} {id : Nat} {K : zV → Prop} (h : ∀ v : Int32, g.2.2.2.1 id v → K (.inl v)) : zget g I (1, id) K := ⟨fun q => absurd q (by simp), fun _ => h, fun q => absurd q (by simp), fun q => absurd q (by simp)⟩
theorem zget2 {I : zI} {id : Nat} {K : zV → Prop} (h : K (.inr (.inl (some id)))) : zget g I (2, id) K := ⟨fun q => absurd q (by simp), fun q => absurd q (by simp), fun _ => h, fun q => absurd q (by simp)⟩
theorem zget3 {I : zI} {id : Nat} {K : zV → Prop} (h : ∀ r : Nat, g.1 r = id → K (.inr (.inl (some r)))) : zget g I (3, id) K := ⟨fun q => absurd q (by simp), fun q => absurd q (by simp), fun q => absurd q (by simp), fun _ => h⟩
theorem zput0 {I : zI} {kd id : Nat} {v : Int32} {K : zI → Prop} (h0 : kd = 1 → v = 0 ∨ v = 1) (h : K (zupd I id v)) : zput g I kd (0, id) v K := ⟨h0, Or.inl rfl, fun _ => h, fun q => absurd q (by simp)⟩
theorem zput1 {I : zI} {kd id : Nat} {v : Int32} {K : zI → Prop} (h0 : kd = 1 → v = 0 ∨ v = 1) (h1 : g.2.2.2.1 id v) (h : K I) : zput g I kd (1, id) v K := ⟨h0, Or.inr rfl, fun q => absurd q (by simp), fun _ => ⟨h1, h⟩⟩
theorem as_getf (hT : aTie g T) {ci j n : Nat} : aSnd g T Inv fl (z_getf g ci j n) (a_getf g T ci j n) := by
  intro I0 A outs h ρ L S I B h0 hA K hK
  unfold a_getf at h
  split at h
  · rename_i q S1 hS1
    have hS := hA.2.2.2.1
    rw [hS1] at hS
    obtain ⟨z, S', rfl, h3, h4⟩ := hS
    obtain ⟨r, rfl, hr⟩ := akd_ok h3
    unfold z_getf
    split at h
    · rename_i c fts hd
      simp only [hr, hd]
      cases hc : Nat.beq c ci with
      | false => rw [hc] at h; cases h
      | true =>
        rw [hc] at h
        refine ⟨Nat.eq_of_beq_eq_true hc, ?_⟩
        have h : (match xget fts j with
      | some (0, id) => (match afind A.2.2.2.2.1 id with
        | some a => some [(n, A.1, A.2.1, A.2.2.1, Sum.inl a :: S1, A.2.2.2.2)]
        | none => none)
      | some (1, iv) => some [(n, apsh A (.inr (T.2.2 iv)) S1)]
      | some (2, r) => some [(n, A.1, A.2.1, A.2.2.1, Sum.inr (.inl (0, r)) :: S1, A.2.2.2.2)]
      | some (3, kd) => some [(n, A.1, A.2.1, A.2.2.1, Sum.inr (.inl (1, kd)) :: S1, A.2.2.2.2)]
      | _ => none) = some outs := h
        rw [xget_eq] at h
        split at h
        · rename_i id hft
          rw [hft]
          split at h
          · rename_i a ha
            cases h
            have hm := hA.2.2.2.2.1 _ (afind_mem ha)
            refine zget0 (hK n _ List.mem_cons_self ρ _ _ _ _ aAg_rf (Nat.le_refl _) (aG_stk hA ⟨_, _, rfl, ⟨hm.1, _, rfl, hm.2⟩, h4⟩))
          · cases h
        · rename_i iv hft
          rw [hft]
          cases h
          refine zget1 (fun v hv => ?_)
          obtain ⟨ρ', q1, q2, q3⟩ := apsh_ok h0 hA h4 (r := .inr (T.2.2 iv)) (x := v) ((hT.2 iv v).mp hv)
          exact hK n _ List.mem_cons_self ρ' _ _ _ _ q1 q2 q3
        · rename_i r2 hft
          rw [hft]
          cases h
          refine zget2 ?_
          exact hK n _ List.mem_cons_self ρ _ _ _ _ aAg_rf (Nat.le_refl _) (aG_stk hA ⟨_, _, rfl, rfl, h4⟩)
        · rename_i kd hft
          rw [hft]
          cases h
          refine zget3 (fun r2 hr2 => ?_)
          exact hK n _ List.mem_cons_self ρ _ _ _ _ aAg_rf (Nat.le_refl _) (aG_stk hA ⟨_, _, rfl, ⟨r2, rfl, hr2⟩, h4⟩)
        · cases h
    · cases h
  · cases h
theorem aput_ok {ρ : Nat → Int} {n : Nat} {FI : List (Nat × aN)} {I : zI} {id : Nat} {a : aN} {x : Int32} (h : aFOk ρ n FI I) (h1 : a.1 < n) (h2 : x.toInt = ρ a.1 + a.2) : aFOk ρ n (aput FI id a) (zupd I id x) := by
  intro q hq
  rcases aput_mem hq with rfl | ⟨h3, h4⟩
  · exact ⟨h1, by simp only [zupd, if_pos]; exact h2⟩
  · exact ⟨(h q h3).1, by simp only [zupd, if_neg h4]; exact (h q h3).2⟩
theorem as_puti (hT : aTie g T) (hinj : zInj g) {prot : Nat → Bool} (hp : ∀ (I : zI) (id : Nat) (v : Int32), prot id = false → id < 4096 → Inv I → Inv (zupd I id v)) (hid : ∀ id, prot id = false → id < 4096) {ci j kd n : Nat} (hkd : kd = 0 ∨ kd = 1) : aSnd g T Inv fl (z_puti g ci j kd n) (a_puti g T prot ci j kd n) := by
  intro I0 A outs h ρ L S I B h0 hA K hK
  unfold a_puti at h
  split at h
  · rename_i v q S1 hS1
    have hS := hA.2.2.2.1
    rw [hS1] at hS
    obtain ⟨z, S', rfl, ⟨hv1, x, rfl, hv2⟩, z2, S2, rfl, h3, h4⟩ := hS
    obtain ⟨r, rfl, hr⟩ := akd_ok h3
    have hb := aiv_ok hA.1 hv2
    unfold z_puti
    split at h
    · rename_i c fts hd
      simp only [hr, hd]
      cases hc : Nat.beq c ci && (Nat.beq kd 0 || (ile 0 (aiv A.1 v).1 && ile (aiv A.1 v).2 1)) with
      | false => rw [hc] at h; cases h
      | true =>
        rw [hc] at h
        simp only [Bool.and_eq_true, Bool.or_eq_true] at hc
        obtain ⟨c1, c2⟩ := hc
        refine ⟨Nat.eq_of_beq_eq_true c1, ?_⟩
        have h01 : kd = 1 → x = 0 ∨ x = 1 := by
          intro e
          rcases c2 with c2 | ⟨c2, c3⟩
          · have := Nat.eq_of_beq_eq_true c2; omega
          · have c2 := ile_ok c2
            have c3 := ile_ok c3
            have e0 : (0 : Int32).toInt = 0 := by decide
            have e1 : (1 : Int32).toInt = 1 := by decide
            by_cases hx : x.toInt = 0
            · exact Or.inl (Int32.toInt_inj.mp (by omega))
            · exact Or.inr (Int32.toInt_inj.mp (by omega))
        have h : (match xget fts j with
      | some (0, id) => (match afind A.2.2.2.2.1 id with
        | some _ => bif prot id then none else some [(n, A.1, A.2.1, A.2.2.1, S1, aput A.2.2.2.2.1 id v, A.2.2.2.2.2)]
        | none => none)
      | some (1, iv) => bif ile (T.2.2 iv).1 (aiv A.1 v).1 && ile (aiv A.1 v).2 (T.2.2 iv).2 then some [(n, A.1, A.2.1, A.2.2.1, S1, A.2.2.2.2)] else none
      | _ => none) = some outs := h
        rw [xget_eq] at h
        split at h
        · rename_i id hft
          rw [hft]
          split at h
          · rename_i a ha
            cases hpr : prot id with
            | true => rw [hpr] at h; cases h
            | false =>
              rw [hpr] at h
              cases h
              refine zput0 h01 ?_
              obtain ⟨e1, e2, e3, e4, e5, e6, e7, e8, e9⟩ := hA
              refine hK n _ List.mem_cons_self ρ _ _ _ _ aAg_rf (Nat.le_refl _) ⟨e1, e2, e3, h4, aput_ok e5 hv1 hv2, e6, fun q => hp I id x hpr (hid id hpr) (e7 q), fun i hi hk => ?_, fun q i hi => ?_⟩
              · have hne : i ≠ id := by
                  intro e
                  subst e
                  exact aput_key hk _ (afind_mem ha)
                simp only [zupd, if_neg hne]
                exact e8 i hi (aput_key hk)
              · have := hid id hpr
                have hne : i ≠ id := by omega
                simp only [zupd, if_neg hne]
                exact e9 q i hi
          · cases h
        · rename_i iv hft
          rw [hft]
          cases hc2 : ile (T.2.2 iv).1 (aiv A.1 v).1 && ile (aiv A.1 v).2 (T.2.2 iv).2 with
          | false => rw [hc2] at h; cases h
          | true =>
            rw [hc2] at h
            cases h
            rw [Bool.and_eq_true] at hc2
            have d1 := ile_ok hc2.1
            have d2 := ile_ok hc2.2
            refine zput1 h01 ((hT.2 iv x).mpr ⟨by omega, by omega⟩) ?_
            exact hK n _ List.mem_cons_self ρ _ _ _ _ aAg_rf (Nat.le_refl _) (aG_stk hA h4)
        · cases h
    · cases h
  · cases h
end A4
