/-! ===== BOXES: a method's contract, decided ===== -/
noncomputable def acutf (cuts : List aCut) (pc : Nat) : Option aCut := List.rec none (fun c _ ih => bif Nat.beq c.1 pc then some c else ih) cuts
theorem acutf_mem {pc : Nat} {c : aCut} : ∀ {cuts : List aCut}, acutf cuts pc = some c → c ∈ cuts ∧ c.1 = pc
  | [], h => by cases h
  | c0 :: cuts, h => by
    have h : (bif Nat.beq c0.1 pc then some c0 else acutf cuts pc) = some c := h
    cases hc : Nat.beq c0.1 pc with
    | true => rw [hc] at h; cases h; exact ⟨List.mem_cons_self, Nat.eq_of_beq_eq_true hc⟩
    | false => rw [hc] at h; exact ⟨List.mem_cons_of_mem _ (acutf_mem h).1, (acutf_mem h).2⟩
noncomputable def aisc (cuts : List aCut) (pc : Nat) : Bool := match acutf cuts pc with
  | some _ => true
  | none => false
/-- a way back is kept -/
noncomputable def arr (k : Nat) (en : List aQ) (S : List aV) (r : Option (aQ ⊕ Unit)) : Bool := match k, r, S with
  | 1, some (.inl q), [.inl a] => ile q.1 (aiv en a).1 && ile (aiv en a).2 q.2
  | 2, some (.inl q), [.inl a] => (ile q.1 (aiv en a).1 && ile (aiv en a).2 q.2) && (ile 0 (aiv en a).1 && ile (aiv en a).2 1)
  | 3, none, [] => true
  | 4, some (.inr _), [.inr (.inr _)] => true
  | _, _, _ => false
noncomputable def ach1 (en : List aQ) (FI FI0 : List (Nat × aN)) (q : Nat × Option Int × aQ) : Bool := match afind FI q.1 with
  | none => false
  | some a => (ile q.2.2.1 (aiv en a).1 && ile (aiv en a).2 q.2.2.2) && (match q.2.1 with
    | none => true
    | some k => match afind FI0 q.1 with
      | none => false
      | some b => aNeq a (b.1, b.2 + k))
noncomputable def aun1 (FI0 : List (Nat × aN)) (l : List (Nat × Option Int × aQ)) (q : Nat × aN) : Bool := !anotin q.1 l || (match afind FI0 q.1 with
  | none => false
  | some b => aNeq q.2 b)
/-- the int arguments' symbols -/
def aents : List aAr → Nat → List (Option aN)
  | [], _ => []
  | .inl _ :: ss, n => some (n, 0) :: aents ss (n + 1)
  | .inr _ :: ss, n => none :: aents ss n
noncomputable def aar1 (en : List aQ) (AR : List (Option aN)) (q : Nat × aQ) : Bool := match xget AR q.1 with
  | some (some a) => ile q.2.1 (aiv en a).1 && ile (aiv en a).2 q.2.2
  | _ => false
noncomputable def aal (k : Nat) (en : List aQ) (S : List aV) (FI FI0 : List (Nat × aN)) (AR : List (Option aN)) (al : aAl) : Bool := arr k en S al.1 && (al.2.1.all (ach1 en FI FI0) && (FI.all (aun1 FI0 al.2.1) && al.2.2.all (aar1 en AR)))
noncomputable def achk (g : zG) (n0 : Nat) (cuts : List aCut) (rets : List (Nat × Nat)) (c : aC) (FI0 : List (Nat × aN)) (b : Nat × Nat) (src : Option (Int × List Int)) (o : Nat × aS) : Bool := match acutf cuts o.1 with
  | some ct => (match amatch g n0 ct o.2 with
    | none => false
    | some df => match src with
      | none => true
      | some (k, co) => (match alow (adiff n0 df 0 ct.2.2.2.2 (co, k - ct.2.2.2.1)).1 o.2.1 with
        | none => false
        | some x => ile 1 ((adiff n0 df 0 ct.2.2.2.2 (co, k - ct.2.2.2.1)).2 + x)))
  | none => Nat.ble o.2.2.2.2.2.2.1 b.1 && (Nat.ble o.2.2.2.2.2.2.2 b.2 && c.2.2.1.any (aal (xrt rets o.1) o.2.1 o.2.2.2.2.1 o.2.2.2.2.2.1 FI0 (aents c.1 1)))
noncomputable def aruns (g : zG) (Tr : Nat → Option aF) (fuel n0 : Nat) (cuts : List aCut) (rets : List (Nat × Nat)) (c : aC) (FI0 : List (Nat × aN)) (b : Nat × Nat) (src : Option (Int × List Int)) (pc : Nat) (A : aS) : Bool := match aexec Tr (aisc cuts) fuel pc A with
  | none => false
  | some outs => outs.all (achk g n0 cuts rets c FI0 b src)
noncomputable def acut1 (g : zG) (Tr : Nat → Option aF) (fuel n0 : Nat) (cuts : List aCut) (rets : List (Nat × Nat)) (c : aC) (FI0 : List (Nat × aN)) (b : Nat × Nat) (ct : aCut) : Bool := Nat.ble n0 ct.2.1.1.length && ((match alow ct.2.2.2.2 ct.2.1.1 with
  | none => false
  | some x => ile 0 (ct.2.2.2.1 + x)) && aruns g Tr fuel n0 cuts rets c FI0 b (some (ct.2.2.2.1, ct.2.2.2.2)) ct.1 ct.2.1)
/-- the state at a method's entry -/
def aentA : List aAr → Nat → List aQ × List (Option aV)
  | [], _ => ([], [])
  | .inl q :: ss, n => (q :: (aentA ss (n + 1)).1, some (.inl (n, 0)) :: (aentA ss (n + 1)).2)
  | .inr (.inl r) :: ss, n => ((aentA ss n).1, some (.inr (.inl r)) :: (aentA ss n).2)
  | .inr (.inr _) :: ss, n => ((aentA ss n).1, some (.inr (.inr ())) :: none :: (aentA ss n).2)
def aentF : List (Nat × aQ) → Nat → List aQ × List (Nat × aN)
  | [], _ => ([], [])
  | q :: l, n => (q.2 :: (aentF l (n + 1)).1, (q.1, (n, 0)) :: (aentF l (n + 1)).2)
def aent (c : aC) (maxL : Nat) : aS := ((0, 0) :: ((aentA c.1 1).1 ++ (aentF c.2.1 (1 + (aentA c.1 1).1.length)).1), [], (aentA c.1 1).2 ++ List.replicate (maxL - (aentA c.1 1).2.length) none, [], (aentF c.2.1 (1 + (aentA c.1 1).1.length)).2, (0, 0))
noncomputable def amchk (g : zG) (Tr : Nat → Option aF) (fuel : Nat) (cuts : List aCut) (rets : List (Nat × Nat)) (c : aC) (b : Nat × Nat) (maxL : Nat) : Bool :=
  Nat.ble (aentA c.1 1).2.length maxL && (aruns g Tr fuel (aent c maxL).1.length cuts rets c (aent c maxL).2.2.2.2.1 b none 0 (aent c maxL) && cuts.all (acut1 g Tr fuel (aent c maxL).1.length cuts rets c (aent c maxL).2.2.2.2.1 b))
section A10
variable {g : zG} {T : aT} {Inv : zI → Prop} {fl : Bool × Bool} {PX : xPX} {bd : Nat → Nat × Nat} {pre : zPre} {post : zPost} {d : Nat × Nat × Nat} {cc : ByteArray} {own : String}
theorem aentA_ok : ∀ {ss : List aAr} {as : List zV}, aArsOk g ss as → ∀ n : Nat, ∃ vs : List Int, vs.length = (aentA ss n).1.length ∧ (∀ (i : Nat) (q : aQ), (aentA ss n).1[i]? = some q → ∃ v : Int, vs[i]? = some v ∧ q.1 ≤ v ∧ v ≤ q.2) ∧ (zla as).length = (aentA ss n).2.length ∧ (∀ (k : Nat) (a : aN), (aents ss n)[k]? = some (some a) → ∃ (x : Int32) (i : Nat), as[k]? = some (.inl x) ∧ a = (n + i, 0) ∧ vs[i]? = some x.toInt) ∧
    ∀ (ρ : Nat → Int) (N : Nat), (∀ (i : Nat) (v : Int), vs[i]? = some v → ρ (n + i) = v) → n + vs.length ≤ N → ∀ i : Nat, (∀ v, (aentA ss n).2[i]? = some (some v) → ∃ z, (zla as)[i]? = some (some z) ∧ aVOk g ρ N v z) ∧ ((aentA ss n).2[i]? = some none → zlg (zla as)[i]? = false)
  | [], as, h, n => by
    cases h
    exact ⟨[], rfl, (fun i q hi => by simp [aentA] at hi), rfl, (fun k a hk => by simp [aents] at hk), fun ρ N _ _ i => ⟨fun v hv => by simp [aentA] at hv, fun hv => by simp [aentA] at hv⟩⟩
  | .inl q0 :: ss, as, h, n => by
    obtain ⟨z, as', rfl, ⟨x, rfl, h1, h2⟩, h3⟩ := h
    obtain ⟨vs, i1, i2, i3, i5, i4⟩ := aentA_ok h3 (n + 1)
    refine ⟨x.toInt :: vs, by simp [aentA, i1], ?_, ?_, ?_, ?_⟩
    · intro i q hi
      cases i with
      | zero => simp [aentA] at hi; subst hi; exact ⟨_, rfl, h1, h2⟩
      | succ i => simp [aentA] at hi; obtain ⟨v, hv⟩ := i2 i q hi; exact ⟨v, by simpa using hv.1, hv.2⟩
    · simp [zla, aentA, i3]
    · intro k a hk
      cases k with
      | zero => simp [aents] at hk; subst hk; exact ⟨x, 0, rfl, rfl, rfl⟩
      | succ k =>
        simp [aents] at hk
        obtain ⟨x', i, e1, e2, e3⟩ := i5 k a hk
        exact ⟨x', i + 1, by simpa using e1, by rw [e2, show n + 1 + i = n + (i + 1) by omega], by simpa using e3⟩
    · intro ρ N hρ hN i
      cases i with
      | zero =>
        refine ⟨fun v hv => ?_, fun hv => by simp [aentA] at hv⟩
        simp [aentA] at hv
        subst hv
        refine ⟨.inl x, rfl, ?_, x, rfl, ?_⟩
        · simp at hN; show n < N; omega
        · have := hρ 0 x.toInt rfl
          show x.toInt = ρ n + 0
          rw [show n + 0 = n by omega] at this
          omega
      | succ i =>
        have := i4 ρ N (fun i v hv => by have := hρ (i + 1) v (by simpa using hv); rw [show n + (i + 1) = n + 1 + i by omega] at this; exact this) (by simp at hN; omega) i
        simpa [aentA, zla] using this
  | .inr (.inl r0) :: ss, as, h, n => by
    obtain ⟨z, as', rfl, h1, h3⟩ := h
    obtain ⟨vs, i1, i2, i3, i5, i4⟩ := aentA_ok h3 n
    have hz : ∃ r, z = .inr (.inl (some r)) ∧ ∀ (ρ : Nat → Int) (N : Nat), aVOk g ρ N (.inr (.inl r0)) z := by
      match r0, h1 with
      | (0, r), h1 => exact ⟨r, h1, fun _ _ => h1⟩
      | (_ + 1, kd), ⟨r, h1, h2⟩ => exact ⟨r, h1, fun _ _ => ⟨r, h1, h2⟩⟩
    obtain ⟨r, rfl, hz⟩ := hz
    refine ⟨vs, by simpa [aentA] using i1, by simpa [aentA] using i2, by simp [zla, aentA, i3], ?_, ?_⟩
    · intro k a hk
      cases k with
      | zero => simp [aents] at hk
      | succ k =>
        simp [aents] at hk
        obtain ⟨x', i, e1, e2, e3⟩ := i5 k a hk
        exact ⟨x', i, by simpa using e1, e2, e3⟩
    intro ρ N hρ hN i
    cases i with
    | zero =>
      refine ⟨fun v hv => ?_, fun hv => by simp [aentA] at hv⟩
      simp [aentA] at hv
      subst hv
      exact ⟨_, rfl, hz ρ N⟩
    | succ i =>
      have := i4 ρ N hρ hN i
      simpa [aentA, zla] using this
  | .inr (.inr u) :: ss, as, h, n => by
    obtain ⟨z, as', rfl, ⟨x, rfl⟩, h3⟩ := h
    obtain ⟨vs, i1, i2, i3, i5, i4⟩ := aentA_ok h3 n
    refine ⟨vs, by simpa [aentA] using i1, by simpa [aentA] using i2, by simp [zla, aentA, i3], ?_, ?_⟩
    · intro k a hk
      cases k with
      | zero => simp [aents] at hk
      | succ k =>
        simp [aents] at hk
        obtain ⟨x', i, e1, e2, e3⟩ := i5 k a hk
        exact ⟨x', i, by simpa using e1, e2, e3⟩
    intro ρ N hρ hN i
    cases i with
    | zero =>
      refine ⟨fun v hv => ?_, fun hv => by simp [aentA] at hv⟩
      simp [aentA] at hv
      subst hv
      exact ⟨_, rfl, x, rfl⟩
    | succ i =>
      cases i with
      | zero => exact ⟨fun v hv => by simp [aentA] at hv, fun _ => by simp [zla, zlg]⟩
      | succ i =>
        have := i4 ρ N hρ hN i
        simpa [aentA, zla] using this
theorem aentF_ok {I : zI} : ∀ {l : List (Nat × aQ)}, (∀ q ∈ l, q.2.1 ≤ (I q.1).toInt ∧ (I q.1).toInt ≤ q.2.2) → ∀ n : Nat, ∃ vs : List Int, vs.length = (aentF l n).1.length ∧ (∀ (i : Nat) (q : aQ), (aentF l n).1[i]? = some q → ∃ v : Int, vs[i]? = some v ∧ q.1 ≤ v ∧ v ≤ q.2) ∧
    ∀ (ρ : Nat → Int) (N : Nat), (∀ (i : Nat) (v : Int), vs[i]? = some v → ρ (n + i) = v) → n + vs.length ≤ N → ∀ q ∈ (aentF l n).2, n ≤ q.2.1 ∧ q.2.1 < N ∧ q.2.2 = 0 ∧ (I q.1).toInt = ρ q.2.1 + q.2.2
  | [], h, n => ⟨[], rfl, (fun i q hi => by simp [aentF] at hi), fun ρ N _ _ q hq => by simp [aentF] at hq⟩
  | q0 :: l, h, n => by
    obtain ⟨vs, i1, i2, i4⟩ := aentF_ok (fun q hq => h q (List.mem_cons_of_mem _ hq)) (n + 1)
    have h0 := h q0 List.mem_cons_self
    refine ⟨(I q0.1).toInt :: vs, by simp [aentF, i1], ?_, ?_⟩
    · intro i q hi
      cases i with
      | zero => simp [aentF] at hi; subst hi; exact ⟨_, rfl, h0⟩
      | succ i => simp [aentF] at hi; obtain ⟨v, hv⟩ := i2 i q hi; exact ⟨v, by simpa using hv.1, hv.2⟩
    · intro ρ N hρ hN q hq
      simp only [aentF, List.mem_cons] at hq
      rcases hq with rfl | hq
      · have := hρ 0 (I q0.1).toInt rfl
        rw [show n + 0 = n by omega] at this
        simp at hN
        exact ⟨Nat.le_refl n, by show n < N; omega, rfl, by show (I q0.1).toInt = ρ n + 0; omega⟩
      · have := i4 ρ N (fun i v hv => by have := hρ (i + 1) v (by simpa using hv); rw [show n + (i + 1) = n + 1 + i by omega] at this; exact this) (by simp at hN; omega) q hq
        exact ⟨by omega, this.2.1, this.2.2⟩
theorem aent_ok {c : aC} {maxL dd : Nat} {as : List zV} {I : zI} (hm : (aentA c.1 1).2.length ≤ maxL) (h : aPre g Inv c dd as I) : (zla as).length ≤ maxL ∧ ∃ ρ0, aG g T Inv c.2.2.2.1 I ρ0 (aent c maxL) (zloc maxL as) [] I (0, 0) ∧ (∀ q ∈ (aent c maxL).2.2.2.2.1, q.2.1 < (aent c maxL).1.length ∧ q.2.2 = 0) ∧ ∀ (k : Nat) (a : aN), (aents c.1 1)[k]? = some (some a) → a.1 < (aent c maxL).1.length ∧ ∃ x : Int32, as[k]? = some (.inl x) ∧ x.toInt = ρ0 a.1 + a.2 := by
  obtain ⟨-, hA, hF, hI⟩ := h
  obtain ⟨va, a1, a2, a3, a5, a4⟩ := aentA_ok hA 1
  obtain ⟨vf, f1, f2, f4⟩ := aentF_ok hF (1 + (aentA c.1 1).1.length)
  let vs : List Int := 0 :: (va ++ vf)
  let ρ0 : Nat → Int := fun s => (vs[s]?).getD 0
  have len : (aent c maxL).1.length = 1 + va.length + vf.length := by simp [aent, a1, f1]; omega
  have r0 : ρ0 0 = 0 := rfl
  have ra : ∀ (i : Nat) (v : Int), va[i]? = some v → ρ0 (1 + i) = v := by
    intro i v hv
    have hl := (List.getElem?_eq_some_iff.mp hv).1
    show (vs[1 + i]?).getD 0 = v
    rw [show vs[1 + i]? = (va ++ vf)[i]? by rw [Nat.add_comm]; rfl, List.getElem?_append_left hl, hv]
    rfl
  have rf : ∀ (i : Nat) (v : Int), vf[i]? = some v → ρ0 (1 + (aentA c.1 1).1.length + i) = v := by
    intro i v hv
    show (vs[1 + (aentA c.1 1).1.length + i]?).getD 0 = v
    rw [← a1, show vs[1 + va.length + i]? = (va ++ vf)[va.length + i]? by rw [show 1 + va.length + i = (va.length + i) + 1 by omega]; rfl, List.getElem?_append_right (by omega), show va.length + i - va.length = i by omega, hv]
    rfl
  have hfi := f4 ρ0 (1 + va.length + vf.length) rf (by rw [← a1]; omega)
  have hlc := a4 ρ0 (1 + va.length + vf.length) ra (by omega)
  refine ⟨by rw [a3]; exact hm, ρ0, ⟨⟨r0, ?_⟩, ?_, ?_, rfl, ?_, rfl, hI, fun _ _ _ => rfl, fun _ _ _ => rfl⟩, ?_, ?_⟩
  · intro s q hs
    cases s with
    | zero => simp [aent] at hs; subst hs; exact ⟨Int.le_refl 0, Int.le_refl 0⟩
    | succ s =>
      simp only [aent, List.getElem?_cons_succ] at hs
      by_cases hl : s < (aentA c.1 1).1.length
      · rw [List.getElem?_append_left hl] at hs
        obtain ⟨v, g1, g2⟩ := a2 s q hs
        rw [show s + 1 = 1 + s by omega, ra s v g1]
        exact g2
      · rw [List.getElem?_append_right (by omega)] at hs
        obtain ⟨v, g1, g2⟩ := f2 _ q hs
        have := rf _ v g1
        rw [show 1 + (aentA c.1 1).1.length + (s - (aentA c.1 1).1.length) = s + 1 by omega] at this
        rw [this]
        exact g2
  · exact fun q hq => absurd hq List.not_mem_nil
  · show aLOk g ρ0 (aent c maxL).1.length ((aentA c.1 1).2 ++ List.replicate (maxL - (aentA c.1 1).2.length) none) (zla as ++ List.replicate (maxL - (zla as).length) none)
    rw [len]
    refine ⟨by simp [a3], fun i => ?_⟩
    by_cases hl : i < (aentA c.1 1).2.length
    · rw [List.getElem?_append_left hl, List.getElem?_append_left (by rw [a3]; exact hl)]
      exact hlc i
    · rw [List.getElem?_append_right (by omega), List.getElem?_append_right (by rw [a3]; omega), List.getElem?_replicate, List.getElem?_replicate]
      refine ⟨fun v hv => (by split at hv <;> cases hv), fun _ => ?_⟩
      split <;> rfl
  · show aFOk ρ0 (aent c maxL).1.length _ I
    rw [len]
    exact fun q hq => ⟨(hfi q hq).2.1, (hfi q hq).2.2.2⟩
  · rw [len]
    exact fun q hq => ⟨(hfi q hq).2.1, (hfi q hq).2.2.1⟩
  · intro k a hk
    obtain ⟨x, i, e1, rfl, e3⟩ := a5 k a hk
    have hl := (List.getElem?_eq_some_iff.mp e3).1
    rw [len]
    refine ⟨by show 1 + i < _; omega, x, e1, ?_⟩
    have := ra i _ e3
    show x.toInt = ρ0 (1 + i) + 0
    omega
end A10
