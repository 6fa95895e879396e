/-! ===== BOXES: contracts and calls ===== -/
/-- an argument: bounds, a cell (as in aV), a long -/
abbrev aAr : Type := aQ ⊕ ((Nat × Nat) ⊕ Unit)
/-- one of the ways back: what is returned, which fields change (by how much, bounds), bounds of arguments -/
abbrev aAl : Type := Option (aQ ⊕ Unit) × List (Nat × Option Int × aQ) × List (Nat × aQ)
/-- arguments, bounds of fields, ways back, flags (Inv, known arrays may change), depth -/
abbrev aC : Type := List aAr × List (Nat × aQ) × List aAl × (Bool × Bool) × Nat
def aArOk (g : zG) (s : aAr) (z : zV) : Prop := match s with
  | .inl q => ∃ x : Int32, z = .inl x ∧ q.1 ≤ x.toInt ∧ x.toInt ≤ q.2
  | .inr (.inl (0, r)) => z = .inr (.inl (some r))
  | .inr (.inl (_ + 1, kd)) => ∃ r, z = .inr (.inl (some r)) ∧ g.1 r = kd
  | .inr (.inr _) => ∃ x, z = .inr (.inr x)
def aArsOk (g : zG) : List aAr → List zV → Prop
  | [], as => as = []
  | s :: ss, as => ∃ z as', as = z :: as' ∧ aArOk g s z ∧ aArsOk g ss as'
def aPre (g : zG) (Inv : zI → Prop) (c : aC) (d : Nat) (as : List zV) (I : zI) : Prop := c.2.2.2.2 ≤ d ∧ aArsOk g c.1 as ∧ (∀ q ∈ c.2.1, q.2.1 ≤ (I q.1).toInt ∧ (I q.1).toInt ≤ q.2.2) ∧ (c.2.2.2.1.1 = true → Inv I)
def aRetOk (r : Option (aQ ⊕ Unit)) (z : Option zV) : Prop := match r with
  | none => z = none
  | some (.inl q) => ∃ x : Int32, z = some (.inl x) ∧ q.1 ≤ x.toInt ∧ x.toInt ≤ q.2
  | some (.inr _) => ∃ x : Int64, z = some (.inr (.inr x))
def aAlOk (al : aAl) (as : List zV) (I : zI) (r : Option zV) (I' : zI) : Prop := aRetOk al.1 r ∧ (∀ q ∈ al.2.1, (∀ k, q.2.1 = some k → (I' q.1).toInt = (I q.1).toInt + k) ∧ q.2.2.1 ≤ (I' q.1).toInt ∧ (I' q.1).toInt ≤ q.2.2.2) ∧ (∀ id, id < 4096 → (∀ a, (id, a) ∉ al.2.1) → I' id = I id) ∧ ∀ q ∈ al.2.2, ∃ x : Int32, as[q.1]? = some (.inl x) ∧ q.2.1 ≤ x.toInt ∧ x.toInt ≤ q.2.2
def aPost (Inv : zI → Prop) (c : aC) (as : List zV) (I : zI) (r : Option zV) (I' : zI) : Prop := (∃ al ∈ c.2.2.1, aAlOk al as I r I') ∧ (c.2.2.2.1.1 = true → Inv I') ∧ (c.2.2.2.1.2 = false → ∀ id, 4096 ≤ id → I' id = I id)
def apop : Nat → List aV → List aV → Option (List aV × List aV)
  | 0, acc, S => some (acc, S)
  | _ + 1, _, [] => none
  | k + 1, acc, v :: S => apop k (v :: acc) S
/-- whether a value is as the contract asks -/
noncomputable def aarg (g : zG) (en : List aQ) (v : aV) (s : aAr) : Bool := match s, v with
  | .inl q, .inl a => ile q.1 (aiv en a).1 && ile (aiv en a).2 q.2
  | .inr (.inl (0, r)), .inr (.inl (0, r')) => Nat.beq r r'
  | .inr (.inl (_ + 1, kd)), .inr (.inl q) => Nat.beq (akd g q) kd
  | .inr (.inr _), .inr (.inr _) => true
  | _, _ => false
noncomputable def aargs (g : zG) (en : List aQ) : List aV → List aAr → Bool
  | [], [] => true
  | v :: vs, s :: ss => aarg g en v s && aargs g en vs ss
  | _, _ => false
noncomputable def aflds (en : List aQ) (FI : List (Nat × aN)) : List (Nat × aQ) → Bool
  | [] => true
  | q :: l => (match afind FI q.1 with
    | some a => ile q.2.1 (aiv en a).1 && ile (aiv en a).2 q.2.2
    | none => false) && aflds en FI l
def akeys : List (Nat × aN) → Bool
  | [] => true
  | q :: l => Nat.blt q.1 4096 && akeys l
def anotin (id : Nat) : List (Nat × Option Int × aQ) → Bool
  | [] => true
  | q :: l => !Nat.beq q.1 id && anotin id l
def anodup : List (Nat × Option Int × aQ) → Bool
  | [] => true
  | q :: l => anotin q.1 l && anodup l
def anoprot (prot : Nat → Bool) : List (Nat × Option Int × aQ) → Bool
  | [] => true
  | q :: l => !prot q.1 && anoprot prot l
noncomputable def achg : List (Nat × Option Int × aQ) → List aQ → List (Nat × aN) → Option (List aQ × List (Nat × aN))
  | [], en, FI => some (en, FI)
  | q :: l, en, FI => match afind FI q.1 with
    | none => none
    | some a => match q.2.1 with
      | some k => achg l (amL (amU en a.1 (q.2.2.2 - (a.2 + k))) a.1 (q.2.2.1 - (a.2 + k))) (aput FI q.1 (a.1, a.2 + k))
      | none => achg l (en ++ [q.2.2]) (aput FI q.1 (en.length, 0))
/-- what a way back tells of the arguments -/
noncomputable def aarf (as : List aV) : List (Nat × aQ) → List aQ → List aQ
  | [], en => en
  | q :: l, en => aarf as l (match xget as q.1 with
    | some (.inl a) => amL (amU en a.1 (q.2.2 - a.2)) a.1 (q.2.1 - a.2)
    | _ => en)
def afall : List aQ → Bool
  | [] => true
  | q :: l => ile q.1 q.2 && afall l
noncomputable def aalt (A : aS) (as rest : List aV) (b : Nat × Nat) (n : Nat) (al : aAl) : Option (List (Nat × aS)) := match achg al.2.1 (aarf as al.2.2 A.1) A.2.2.2.2.1 with
  | none => none
  | some (en, FI) => bif afall en then some [(n, match al.1 with
    | none => (en, A.2.1, A.2.2.1, rest, FI, b)
    | some (.inl q) => apsh (en, A.2.1, A.2.2.1, rest, FI, b) (.inr q) rest
    | some (.inr _) => (en, A.2.1, A.2.2.1, .inr (.inr ()) :: rest, FI, b))] else some []
noncomputable def aalts (A : aS) (as rest : List aV) (b : Nat × Nat) (n : Nat) (prot : Nat → Bool) (need : Bool) : List aAl → Option (List (Nat × aS))
  | [] => some []
  | al :: l => bif anodup al.2.1 && (!need || anoprot prot al.2.1) then (match aalt A as rest b n al with
    | none => none
    | some o => match aalts A as rest b n prot need l with
      | none => none
      | some os => some (o ++ os)) else none
/-- b: the callee's bound of cells and slots -/
noncomputable def a_inv (g : zG) (prot : Nat → Bool) (fl : Bool × Bool) (c : aC) (b : Nat × Nat) (d : Nat × Nat × Nat) (na n : Nat) : aF := fun A => match apop na [] A.2.2.2.1 with
  | some (as, rest) => bif Nat.ble (acat rest) 8 && (Nat.ble c.2.2.2.2 d.1 && (aargs g A.1 as c.1 && (aflds A.1 A.2.2.2.2.1 c.2.1 && (akeys A.2.2.2.2.1 && ((!c.2.2.2.1.1 || fl.1) && ((!c.2.2.2.1.2 || fl.2) && (Nat.ble (A.2.2.2.2.2.1 + b.1) d.2.1 && Nat.ble (A.2.2.2.2.2.2 + b.2) d.2.2))))))) then aalts A as rest (A.2.2.2.2.2.1 + b.1, A.2.2.2.2.2.2 + b.2) n prot (fl.1 && !c.2.2.2.1.1) c.2.2.1 else none
  | none => none
def arecv (g : zG) (ci : Nat) (as : List aV) : Bool := match as with
  | .inr (.inl q) :: _ => (match g.2.1 (akd g q) with
    | .inl (c, _) => Nat.beq c ci
    | .inr _ => false)
  | _ => false
noncomputable def a_invV (g : zG) (prot : Nat → Bool) (fl : Bool × Bool) (c : aC) (b : Nat × Nat) (d : Nat × Nat × Nat) (ci na n : Nat) : aF := fun A => match apop na [] A.2.2.2.1 with
  | some (as, _) => bif arecv g ci as then a_inv g prot fl c b d na n A else none
  | none => none
section A6
variable {g : zG} {T : aT} {Inv : zI → Prop} {fl : Bool × Bool}
theorem aSOk_at {ρ : Nat → Int} {n : Nat} : ∀ {AS : List aV} {S : List zV} {i : Nat} {v : aV}, aSOk g ρ n AS S → AS[i]? = some v → ∃ z, S[i]? = some z ∧ aVOk g ρ n v z
  | [], S, i, v, h, hi => by simp at hi
  | v0 :: AS, S, i, v, h, hi => by
    obtain ⟨z, S', rfl, h1, h2⟩ := h
    cases i with
    | zero => cases hi; exact ⟨z, rfl, h1⟩
    | succ i =>
      obtain ⟨z2, e1, e2⟩ := aSOk_at (i := i) h2 (by simpa using hi)
      exact ⟨z2, by simpa using e1, e2⟩
theorem apop_ok {ρ : Nat → Int} {n : Nat} : ∀ (k : Nat) {acc AS as rest : List aV} {accz S : List zV}, apop k acc AS = some (as, rest) → aSOk g ρ n acc accz → aSOk g ρ n AS S → ∃ asz restz, zpop k accz S = some (asz, restz) ∧ aSOk g ρ n as asz ∧ aSOk g ρ n rest restz
  | 0, acc, AS, as, rest, accz, S, h, h1, h2 => by
    cases h
    exact ⟨accz, S, rfl, h1, h2⟩
  | k + 1, acc, [], as, rest, accz, S, h, h1, h2 => by cases h
  | k + 1, acc, v :: AS, as, rest, accz, S, h, h1, h2 => by
    obtain ⟨z, S', rfl, h3, h4⟩ := h2
    exact apop_ok k (accz := z :: accz) h ⟨z, accz, rfl, h3, h1⟩ h4
theorem aarg_ok {ρ : Nat → Int} {en : List aQ} {n : Nat} {v : aV} {s : aAr} {z : zV} (he : aEnOk ρ en) (hv : aVOk g ρ n v z) (h : aarg g en v s = true) : aArOk g s z := by
  unfold aarg at h
  split at h
  · rename_i q a
    obtain ⟨h1, x, rfl, h2⟩ := hv
    rw [Bool.and_eq_true] at h
    have h3 := aiv_ok he h2
    have h4 := ile_ok h.1
    have h5 := ile_ok h.2
    exact ⟨x, rfl, by omega, by omega⟩
  · have := Nat.eq_of_beq_eq_true h
    subst this
    exact hv
  · obtain ⟨r, rfl, hr⟩ := akd_ok hv
    exact ⟨r, rfl, by rw [hr]; exact Nat.eq_of_beq_eq_true h⟩
  · exact hv
  · cases h
theorem aargs_ok {ρ : Nat → Int} {en : List aQ} {n : Nat} (he : aEnOk ρ en) : ∀ {vs : List aV} {ss : List aAr} {zs : List zV}, aSOk g ρ n vs zs → aargs g en vs ss = true → aArsOk g ss zs
  | [], [], zs, h, _ => h
  | v :: vs, s :: ss, zs, h, hb => by
    obtain ⟨z, zs', rfl, h1, h2⟩ := h
    have hb : (aarg g en v s && aargs g en vs ss) = true := hb
    rw [Bool.and_eq_true] at hb
    exact ⟨z, zs', rfl, aarg_ok he h1 hb.1, aargs_ok he h2 hb.2⟩
  | [], _ :: _, _, _, hb => by cases hb
  | _ :: _, [], _, _, hb => by cases hb
theorem aflds_ok {ρ : Nat → Int} {en : List aQ} {n : Nat} {FI : List (Nat × aN)} {I : zI} (he : aEnOk ρ en) (hF : aFOk ρ n FI I) : ∀ {l : List (Nat × aQ)}, aflds en FI l = true → ∀ q ∈ l, q.2.1 ≤ (I q.1).toInt ∧ (I q.1).toInt ≤ q.2.2
  | [], _, q, hq => by cases hq
  | q0 :: l, h, q, hq => by
    have h : ((match afind FI q0.1 with
    | some a => ile q0.2.1 (aiv en a).1 && ile (aiv en a).2 q0.2.2
    | none => false) && aflds en FI l) = true := h
    rw [Bool.and_eq_true] at h
    rcases List.mem_cons.mp hq with rfl | hq
    · have h1 := h.1
      split at h1
      · rename_i a ha
        rw [Bool.and_eq_true] at h1
        have h2 : (I q.1).toInt = ρ a.1 + a.2 := (hF _ (afind_mem ha)).2
        have h3 := aiv_ok he h2
        have h4 := ile_ok h1.1
        have h5 := ile_ok h1.2
        omega
      · cases h1
    · exact aflds_ok he hF h.2 q hq
theorem akeys_ok : ∀ {FI : List (Nat × aN)}, akeys FI = true → ∀ q ∈ FI, q.1 < 4096
  | [], _, q, hq => by cases hq
  | q0 :: l, h, q, hq => by
    have h : (Nat.blt q0.1 4096 && akeys l) = true := h
    rw [Bool.and_eq_true] at h
    rcases List.mem_cons.mp hq with rfl | hq
    · exact xblt h.1
    · exact akeys_ok h.2 q hq
theorem anotin_ok {id : Nat} : ∀ {l : List (Nat × Option Int × aQ)}, anotin id l = true → ∀ q ∈ l, q.1 ≠ id
  | [], _, q, hq => by cases hq
  | q0 :: l, h, q, hq => by
    have h : (!Nat.beq q0.1 id && anotin id l) = true := h
    rw [Bool.and_eq_true] at h
    rcases List.mem_cons.mp hq with rfl | hq
    · intro e
      have h1 := h.1
      rw [e, Nat.beq_refl] at h1
      cases h1
    · exact anotin_ok h.2 q hq
theorem anoprot_ok {prot : Nat → Bool} : ∀ {l : List (Nat × Option Int × aQ)}, anoprot prot l = true → ∀ q ∈ l, prot q.1 = false
  | [], _, q, hq => by cases hq
  | q0 :: l, h, q, hq => by
    have h : (!prot q0.1 && anoprot prot l) = true := h
    rw [Bool.and_eq_true] at h
    rcases List.mem_cons.mp hq with rfl | hq
    · simpa using h.1
    · exact anoprot_ok h.2 q hq
/-- the fields behind a call -/
theorem achg_ok {I I' : zI} : ∀ {l : List (Nat × Option Int × aQ)} {en : List aQ} {FI : List (Nat × aN)} {en' : List aQ} {FI' : List (Nat × aN)} {ρ : Nat → Int} {J : zI}, achg l en FI = some (en', FI') → anodup l = true → 0 < en.length → aEnOk ρ en → aFOk ρ en.length FI J → (∀ q ∈ l, J q.1 = I q.1) →
    (∀ q ∈ l, (∀ k, q.2.1 = some k → (I' q.1).toInt = (I q.1).toInt + k) ∧ q.2.2.1 ≤ (I' q.1).toInt ∧ (I' q.1).toInt ≤ q.2.2.2) →
    ∃ (ρ' : Nat → Int) (J' : zI), aAg ρ ρ' en.length ∧ en.length ≤ en'.length ∧ aEnOk ρ' en' ∧ aFOk ρ' en'.length FI' J' ∧ (∀ q ∈ l, J' q.1 = I' q.1) ∧ (∀ id, (∀ a, (id, a) ∉ l) → J' id = J id) ∧ (∀ id, (∀ b, (id, b) ∉ FI') → ∀ b, (id, b) ∉ FI) ∧ (∀ q ∈ l, ∃ b, (q.1, b) ∈ FI)
  | [], en, FI, en', FI', ρ, J, h, _, h0, he, hF, _, _ => by
    cases h
    exact ⟨ρ, J, aAg_rf, Nat.le_refl _, he, hF, (fun q hq => absurd hq List.not_mem_nil), (fun _ _ => rfl), (fun _ h => h), (fun q hq => absurd hq List.not_mem_nil)⟩
  | q0 :: l, en, FI, en', FI', ρ, J, h, hnd, h0, he, hF, hJ, hc => by
    have hnd : (anotin q0.1 l && anodup l) = true := hnd
    rw [Bool.and_eq_true] at hnd
    have hni := anotin_ok hnd.1
    obtain ⟨c1, c2, c3⟩ := hc q0 List.mem_cons_self
    have h : (match afind FI q0.1 with
    | none => none
    | some a => match q0.2.1 with
      | some k => achg l (amL (amU en a.1 (q0.2.2.2 - (a.2 + k))) a.1 (q0.2.2.1 - (a.2 + k))) (aput FI q0.1 (a.1, a.2 + k))
      | none => achg l (en ++ [q0.2.2]) (aput FI q0.1 (en.length, 0))) = some (en', FI') := h
    split at h
    · cases h
    · rename_i a ha
      have hm := hF _ (afind_mem ha)
      have hm2 : (J q0.1).toInt = ρ a.1 + a.2 := hm.2
      rw [hJ q0 List.mem_cons_self] at hm2
      have hJ2 : ∀ q ∈ l, zupd J q0.1 (I' q0.1) q.1 = I q.1 := fun q hq => by
        simp only [zupd, if_neg (hni q hq)]
        exact hJ q (List.mem_cons_of_mem _ hq)
      have fin : ∀ (ρ' : Nat → Int) (J' : zI) (b : aN), (∀ q ∈ l, J' q.1 = I' q.1) → (∀ id, (∀ a, (id, a) ∉ l) → J' id = zupd J q0.1 (I' q0.1) id) → (∀ id, (∀ b, (id, b) ∉ FI') → ∀ b', (id, b') ∉ aput FI q0.1 b) → (∀ q ∈ l, ∃ b', (q.1, b') ∈ aput FI q0.1 b) →
          (∀ q ∈ q0 :: l, J' q.1 = I' q.1) ∧ (∀ id, (∀ a, (id, a) ∉ q0 :: l) → J' id = J id) ∧ (∀ id, (∀ b, (id, b) ∉ FI') → ∀ b, (id, b) ∉ FI) ∧ (∀ q ∈ q0 :: l, ∃ b, (q.1, b) ∈ FI) := by
        intro ρ' J' b f1 f2 f3 f4
        refine ⟨fun q hq => ?_, fun id hid => ?_, fun id hid => aput_key (f3 id hid), fun q hq => ?_⟩
        · rcases List.mem_cons.mp hq with rfl | hq
          · rw [f2 q.1 (fun a' ha' => hni _ ha' rfl)]
            simp [zupd]
          · exact f1 q hq
        · rw [f2 id (fun a' ha' => hid a' (List.mem_cons_of_mem _ ha'))]
          have hne : id ≠ q0.1 := fun e => hid q0.2 (by rw [e]; exact List.mem_cons_self)
          simp [zupd, hne]
        · rcases List.mem_cons.mp hq with rfl | hq
          · exact ⟨_, afind_mem ha⟩
          · obtain ⟨b', hb'⟩ := f4 q hq
            rcases aput_mem hb' with e | ⟨e, -⟩
            · exact absurd (congrArg Prod.fst e) (hni q hq)
            · exact ⟨b', e⟩
      split at h
      · rename_i k hk
        have hk2 := c1 k hk
        have e1 : (amL (amU en a.1 (q0.2.2.2 - (a.2 + k))) a.1 (q0.2.2.1 - (a.2 + k))).length = en.length := by rw [amL_len, amU_len]
        have he2 : aEnOk ρ (amL (amU en a.1 (q0.2.2.2 - (a.2 + k))) a.1 (q0.2.2.1 - (a.2 + k))) := amL_ok (amU_ok he (by omega)) (by omega)
        have hF2 : aFOk ρ en.length (aput FI q0.1 (a.1, a.2 + k)) (zupd J q0.1 (I' q0.1)) := aput_ok hF hm.1 (by show _ = ρ a.1 + (a.2 + k); omega)
        obtain ⟨ρ', J', r1, r2, r3, r4, r5, r6, r7, r8⟩ := achg_ok (I := I) (I' := I') (J := zupd J q0.1 (I' q0.1)) h hnd.2 (by rw [e1]; exact h0) he2 (by rw [e1]; exact hF2) hJ2 (fun q hq => hc q (List.mem_cons_of_mem _ hq))
        rw [e1] at r1 r2
        exact ⟨ρ', J', r1, r2, r3, r4, fin ρ' J' _ r5 r6 r7 r8⟩
      · have he2 := aEnOk_ext h0 he c2 c3
        have hn : en.length ≤ (en ++ [q0.2.2]).length := by simp
        have hF1 := aFOk_mono hn (aupd_ag (v := (I' q0.1).toInt)) hF
        have hF2 : aFOk (aupd ρ en.length (I' q0.1).toInt) (en ++ [q0.2.2]).length (aput FI q0.1 (en.length, 0)) (zupd J q0.1 (I' q0.1)) := aput_ok hF1 (by simp) (by show _ = aupd ρ en.length (I' q0.1).toInt en.length + 0; rw [aupd_at]; omega)
        obtain ⟨ρ', J', r1, r2, r3, r4, r5, r6, r7, r8⟩ := achg_ok (I := I) (I' := I') (J := zupd J q0.1 (I' q0.1)) h hnd.2 (by simp) he2 hF2 hJ2 (fun q hq => hc q (List.mem_cons_of_mem _ hq))
        exact ⟨ρ', J', aAg_tr hn aupd_ag r1, Nat.le_trans hn r2, r3, r4, fin ρ' J' _ r5 r6 r7 r8⟩
theorem aalts_mem {A : aS} {as rest : List aV} {b : Nat × Nat} {n : Nat} {prot : Nat → Bool} {need : Bool} : ∀ {l : List aAl} {outs : List (Nat × aS)}, aalts A as rest b n prot need l = some outs → ∀ al ∈ l, anodup al.2.1 = true ∧ (need = true → anoprot prot al.2.1 = true) ∧ ∃ o, aalt A as rest b n al = some o ∧ ∀ q ∈ o, q ∈ outs
  | [], outs, h, al, hal => by cases hal
  | al0 :: l, outs, h, al, hal => by
    have h : (bif anodup al0.2.1 && (!need || anoprot prot al0.2.1) then (match aalt A as rest b n al0 with
    | none => none
    | some o => match aalts A as rest b n prot need l with
      | none => none
      | some os => some (o ++ os)) else none) = some outs := h
    cases hc : anodup al0.2.1 && (!need || anoprot prot al0.2.1) with
    | false => rw [hc] at h; cases h
    | true =>
      rw [hc] at h
      rw [Bool.and_eq_true] at hc
      have h : (match aalt A as rest b n al0 with
    | none => none
    | some o => match aalts A as rest b n prot need l with
      | none => none
      | some os => some (o ++ os)) = some outs := h
      split at h
      · cases h
      · rename_i o ho
        split at h
        · cases h
        · rename_i os hos
          cases h
          rcases List.mem_cons.mp hal with rfl | hal
          · refine ⟨hc.1, fun hn => ?_, o, ho, fun q hq => List.mem_append_left _ hq⟩
            have := hc.2
            rw [hn] at this
            simpa using this
          · obtain ⟨h1, h2, o', h3, h4⟩ := aalts_mem hos al hal
            exact ⟨h1, h2, o', h3, fun q hq => List.mem_append_right _ (h4 q hq)⟩
/-- behind a call, by one of its ways back -/
theorem achg_keys : ∀ {l : List (Nat × Option Int × aQ)} {en : List aQ} {FI : List (Nat × aN)} {en' : List aQ} {FI' : List (Nat × aN)}, achg l en FI = some (en', FI') → ∀ q ∈ FI', ¬ ∀ b, (q.1, b) ∉ FI
  | [], en, FI, en', FI', h, q, hq, hn => by cases h; exact hn q.2 hq
  | q0 :: l, en, FI, en', FI', h, q, hq, hn => by
    have h : (match afind FI q0.1 with
    | none => none
    | some a => match q0.2.1 with
      | some k => achg l (amL (amU en a.1 (q0.2.2.2 - (a.2 + k))) a.1 (q0.2.2.1 - (a.2 + k))) (aput FI q0.1 (a.1, a.2 + k))
      | none => achg l (en ++ [q0.2.2]) (aput FI q0.1 (en.length, 0))) = some (en', FI') := h
    split at h
    · cases h
    · rename_i a ha
      have key : ∀ b0 : aN, ∀ b, (q.1, b) ∉ aput FI q0.1 b0 := fun b0 b hb => by
        rcases aput_mem hb with e | ⟨e, -⟩
        · exact hn a (by rw [congrArg Prod.fst e]; exact afind_mem ha)
        · exact hn b e
      split at h
      · exact achg_keys h q hq (key _)
      · exact achg_keys h q hq (key _)
theorem aarf_ok {ρ : Nat → Int} {n : Nat} {as : List aV} {asz : List zV} (hs : aSOk g ρ n as asz) : ∀ {l : List (Nat × aQ)} {en : List aQ}, (∀ q ∈ l, ∃ x : Int32, asz[q.1]? = some (.inl x) ∧ q.2.1 ≤ x.toInt ∧ x.toInt ≤ q.2.2) → aEnOk ρ en → aEnOk ρ (aarf as l en) ∧ (aarf as l en).length = en.length
  | [], en, _, he => ⟨he, rfl⟩
  | q :: l, en, h, he => by
    obtain ⟨x, h1, h2, h3⟩ := h q List.mem_cons_self
    have key : aEnOk ρ (match xget as q.1 with
    | some (.inl a) => amL (amU en a.1 (q.2.2 - a.2)) a.1 (q.2.1 - a.2)
    | _ => en) ∧ (match xget as q.1 with
    | some (.inl a) => amL (amU en a.1 (q.2.2 - a.2)) a.1 (q.2.1 - a.2)
    | _ => en).length = en.length := by
      split
      · rename_i a ha
        rw [xget_eq] at ha
        obtain ⟨z, e1, e2, x', rfl, e3⟩ := aSOk_at hs ha
        cases h1.symm.trans e1
        exact ⟨amL_ok (amU_ok he (by omega)) (by omega), by rw [amL_len, amU_len]⟩
      · exact ⟨he, rfl⟩
    have ih := aarf_ok hs (l := l) (fun q hq => h q (List.mem_cons_of_mem _ hq)) key.1
    exact ⟨ih.1, ih.2.trans key.2⟩
theorem afall_ok {ρ : Nat → Int} : ∀ {en : List aQ} {k : Nat}, (∀ (s : Nat) (q : aQ), en[s]? = some q → q.1 ≤ ρ (k + s) ∧ ρ (k + s) ≤ q.2) → afall en = true
  | [], _, _ => rfl
  | q :: l, k, h => by
    show (ile q.1 q.2 && afall l) = true
    rw [afall_ok (k := k + 1) (fun s q hs => by have := h (s + 1) q hs; rw [show k + (s + 1) = k + 1 + s by omega] at this; exact this)]
    have h0 := h 0 q rfl
    cases hi : ile q.1 q.2 with
    | true => rfl
    | false => have := ile_no hi; omega
theorem a_back {prot : Nat → Bool} (hext : ∀ I I' : zI, (∀ id, (4096 ≤ id ∨ prot id = true) → I' id = I id) → Inv I → Inv I') {c : aC} {A : aS} {as rest : List aV} {b : Nat × Nat} {n : Nat} {outs : List (Nat × aS)} {ρ : Nat → Int} {L : zL} {S restz asz : List zV} {I I0 : zI} {B : Nat × Nat} (h0 : 0 < A.1.length) (hA : aG g T Inv fl I0 ρ A L S I B) (hk : akeys A.2.2.2.2.1 = true) (hfl2 : c.2.2.2.1.2 = true → fl.2 = true) (hcv0 : c.2.2.2.1.1 = false → c.2.2.2.1.2 = false) (has : aSOk g ρ A.1.length as asz) (hr : aSOk g ρ A.1.length rest restz)
    (ho : aalts A as rest b n prot (fl.1 && !c.2.2.2.1.1) c.2.2.1 = some outs) {r : Option zV} {I' : zI} (hp : aPost Inv c asz I r I') : ∃ A' ρ', (n, A') ∈ outs ∧ aAg ρ ρ' A.1.length ∧ A.1.length ≤ A'.1.length ∧ aG g T Inv fl I0 ρ' A' L (zpush r restz) I' b := by
  obtain ⟨⟨al, hal, hret, hch, hfr, har⟩, hinv, hvis⟩ := hp
  obtain ⟨m1, m2, o, m3, m4⟩ := aalts_mem ho al hal
  unfold aalt at m3
  split at m3
  · cases m3
  · rename_i en FI hchg
    obtain ⟨e1, e2, e3, e4, e5, e6, e7, e8, e9⟩ := hA
    obtain ⟨k1, k2⟩ := aarf_ok has har e1
    obtain ⟨ρ', J', r1, r2, r3, r4, r5, r6, r7, r8⟩ := achg_ok (I := I) (I' := I') hchg m1 (by rw [k2]; exact h0) k1 (by rw [k2]; exact e5) (fun q hq => rfl) hch
    rw [k2] at r1 r2
    have hFI : aFOk ρ' en.length FI I' := by
      intro q hq
      refine ⟨(r4 q hq).1, ?_⟩
      rw [← (r4 q hq).2]
      by_cases hin : ∃ a, (q.1, a) ∈ al.2.1
      · obtain ⟨a, ha⟩ := hin
        rw [r5 _ ha]
      · have hni : ∀ a, (q.1, a) ∉ al.2.1 := fun a ha => hin ⟨a, ha⟩
        rw [r6 _ hni]
        have hkey : q.1 < 4096 := by
          have hin2 : ∃ b', (q.1, b') ∈ A.2.2.2.2.1 := by
            apply Classical.byContradiction
            intro hno
            exact achg_keys hchg q hq (fun b' hb' => hno ⟨b', hb'⟩)
          obtain ⟨b', hb'⟩ := hin2
          exact akeys_ok hk (q.1, b') hb'
        rw [hfr _ hkey hni]
    have hframe : ∀ id, id < 4096 → (∀ a, (id, a) ∉ FI) → I' id = I0 id := by
      intro id hid hno
      have h1 := r7 id hno
      have h2 : ∀ a, (id, a) ∉ al.2.1 := fun a ha => by
        obtain ⟨b', hb'⟩ := r8 _ ha
        exact h1 b' hb'
      rw [hfr id hid h2]
      exact e8 id hid h1
    have hv2 : fl.2 = false → ∀ id, 4096 ≤ id → I' id = I0 id := by
      intro hf id hid
      have hcf : c.2.2.2.1.2 = false := by
        cases hcc : c.2.2.2.1.2 with
        | false => rfl
        | true => rw [hfl2 hcc] at hf; cases hf
      rw [hvis hcf id hid]
      exact e9 hf id hid
    have hi2 : fl.1 = true → Inv I' := by
      intro hf
      cases hcc : c.2.2.2.1.1 with
      | true => exact hinv hcc
      | false =>
        have hnp := anoprot_ok (m2 (by rw [hf, hcc]; rfl))
        refine hext I I' (fun id hid => ?_) (e7 hf)
        by_cases hlt : id < 4096
        · have hp1 : prot id = true := by
            rcases hid with h | h
            · omega
            · exact h
          exact hfr id hlt (fun a ha => by have := hnp _ ha; rw [hp1] at this; cases this)
        · have hcv : c.2.2.2.1.2 = false := hcv0 hcc
          exact hvis hcv id (by omega)
    have base : ∀ (AS : List aV) (Sz : List zV), aSOk g ρ' en.length AS Sz → aG g T Inv fl I0 ρ' (en, A.2.1, A.2.2.1, AS, FI, b) L Sz I' b := fun AS Sz hs => ⟨r3, aTgOk_mono r2 r1 e2, aLOk_mono r2 r1 e3, hs, hFI, rfl, hi2, hframe, hv2⟩
    have hrest := aSOk_mono r2 r1 hr
    rw [afall_ok (k := 0) (fun s q hs => by rw [Nat.zero_add]; exact r3.2 s q hs)] at m3
    cases m3
    have m4 := m4 _ List.mem_cons_self
    unfold aRetOk at hret
    split at hret
    · rename_i e0
      subst hret
      rw [e0] at m4
      exact ⟨_, ρ', m4, r1, r2, base _ _ hrest⟩
    · rename_i q e0
      obtain ⟨x, rfl, hx⟩ := hret
      rw [e0] at m4
      obtain ⟨ρ2, p1, p2, p3⟩ := apsh_ok (A := (en, A.2.1, A.2.2.1, rest, FI, b)) (by show 0 < en.length; omega) (base _ _ hrest) hrest (r := .inr q) (x := x) hx
      exact ⟨_, ρ2, m4, aAg_tr r2 r1 p1, Nat.le_trans r2 p2, p3⟩
    · rename_i u e0
      obtain ⟨x, rfl⟩ := hret
      rw [e0] at m4
      exact ⟨_, ρ', m4, r1, r2, base _ _ ⟨_, _, rfl, ⟨x, rfl⟩, hrest⟩⟩
end A6
