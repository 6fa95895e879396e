/-! abstract steps that leave the memory alone -/
def a_const (v : Int) (n : Nat) : aF := fun A => some [(n, A.1, A.2.1, A.2.2.1, .inl (0, v) :: A.2.2.2.1, A.2.2.2.2)]
def a_long0 (n : Nat) : aF := fun A => some [(n, A.1, A.2.1, A.2.2.1, .inr (.inr ()) :: A.2.2.2.1, A.2.2.2.2)]
noncomputable def a_load (i n : Nat) : aF := fun A => match xget A.2.2.1 i with
  | some (some v) => some [(n, A.1, A.2.1, A.2.2.1, v :: A.2.2.2.1, A.2.2.2.2)]
  | _ => none
def aisL (v : aV) : Bool := match v with
  | .inr (.inr _) => true
  | _ => false
def aisLo (o : Option (Option aV)) : Bool := match o with
  | some (some v) => aisL v
  | _ => false
noncomputable def acan (AL : List (Option aV)) (i : Nat) : Bool := Nat.blt i AL.length && !aisLo (xget AL (i - 1))
noncomputable def a_store (i n : Nat) : aF := fun A => match A.2.2.2.1 with
  | v :: S => bif acan A.2.2.1 i && !aisL v then some [(n, A.1, A.2.1, A.2.2.1.set i (some v), S, A.2.2.2.2)] else none
  | _ => none
noncomputable def a_lstore (i n : Nat) : aF := fun A => match A.2.2.2.1 with
  | .inr (.inr _) :: S => bif Nat.blt (i + 1) A.2.2.1.length && !aisLo (xget A.2.2.1 (i - 1)) then some [(n, A.1, A.2.1, (A.2.2.1.set i (some (.inr (.inr ())))).set (i + 1) none, S, A.2.2.2.2)] else none
  | _ => none
noncomputable def a_bin (F : List aQ → aN → aN → aN ⊕ aQ) (n : Nat) : aF := fun A => match A.2.2.2.1 with
  | .inl y :: .inl x :: S => some [(n, apsh A (F A.1 x y) S)]
  | _ => none
noncomputable def a_un (F : List aQ → aN → aN ⊕ aQ) (n : Nat) : aF := fun A => match A.2.2.2.1 with
  | .inl x :: S => some [(n, apsh A (F A.1 x) S)]
  | _ => none
/-- a division: by a number above 0 -/
noncomputable def a_div (F : List aQ → aN → aN → aN ⊕ aQ) (n : Nat) : aF := fun A => match A.2.2.2.1 with
  | .inl y :: .inl x :: S => bif ile 1 (aiv A.1 y).1 then some [(n, apsh A (F A.1 x y) S)] else none
  | _ => none
noncomputable def a_iinc (i : Nat) (k : Int) (n : Nat) : aF := fun A => match xget A.2.2.1 i with
  | some (some (.inl a)) => bif acan A.2.2.1 i then (bif ile (-2147483648) ((aiv A.1 a).1 + k) && ile ((aiv A.1 a).2 + k) 2147483647 then some [(n, A.1, A.2.1, A.2.2.1.set i (some (.inl (a.1, a.2 + k))), A.2.2.2)] else some [(n, A.1 ++ [(-2147483648, 2147483647)], A.2.1, A.2.2.1.set i (some (.inl (A.1.length, 0))), A.2.2.2)]) else none
  | _ => none
def a_dup (n : Nat) : aF := fun A => match A.2.2.2.1 with
  | v :: S => bif aisL v then none else some [(n, A.1, A.2.1, A.2.2.1, v :: v :: S, A.2.2.2.2)]
  | _ => none
def a_dup2 (n : Nat) : aF := fun A => match A.2.2.2.1 with
  | v :: u :: S => bif aisL v || aisL u then none else some [(n, A.1, A.2.1, A.2.2.1, v :: u :: v :: u :: S, A.2.2.2.2)]
  | _ => none
def a_pop (n : Nat) : aF := fun A => match A.2.2.2.1 with
  | v :: S => bif aisL v then none else some [(n, A.1, A.2.1, A.2.2.1, S, A.2.2.2.2)]
  | _ => none
def a_goto (t : Nat) : aF := fun A => some [(t, A)]
def a_lbin (n : Nat) : aF := fun A => match A.2.2.2.1 with
  | .inr (.inr _) :: .inr (.inr _) :: S => some [(n, A.1, A.2.1, A.2.2.1, .inr (.inr ()) :: S, A.2.2.2.2)]
  | _ => none
noncomputable def a_lcmp (n : Nat) : aF := fun A => match A.2.2.2.1 with
  | .inr (.inr _) :: .inr (.inr _) :: S => some [(n, apsh A (.inr (-2147483648, 2147483647)) S)]
  | _ => none
section A2
variable {g : zG} {T : aT} {Inv : zI → Prop} {fl : Bool × Bool}
theorem as_const {v : Int32} {k : Int} {n : Nat} (hv : v.toInt = k) : aSnd g T Inv fl (z_const v n) (a_const k n) := by
  intro I0 A outs h ρ L S I B h0 hA K hK
  cases h
  refine hK n _ List.mem_cons_self ρ _ _ _ _ aAg_rf (Nat.le_refl _) (aG_stk hA ⟨_, _, rfl, ⟨h0, v, rfl, ?_⟩, hA.2.2.2.1⟩)
  show v.toInt = ρ 0 + k
  rw [hA.1.1, hv]
  omega
theorem as_lconst {v : Int64} {n : Nat} : aSnd g T Inv fl (z_lconst v n) (a_long0 n) := by
  intro I0 A outs h ρ L S I B h0 hA K hK
  cases h
  exact hK n _ List.mem_cons_self ρ _ _ _ _ aAg_rf (Nat.le_refl _) (aG_stk hA ⟨_, _, rfl, ⟨v, rfl⟩, hA.2.2.2.1⟩)
theorem a_load_eq {i n : Nat} {A : aS} {outs : List (Nat × aS)} (h : a_load i n A = some outs) : ∃ v, A.2.2.1[i]? = some (some v) ∧ outs = [(n, A.1, A.2.1, A.2.2.1, v :: A.2.2.2.1, A.2.2.2.2)] := by
  unfold a_load at h
  rw [xget_eq] at h
  split at h
  · rename_i v hv
    cases h
    exact ⟨v, hv, rfl⟩
  · cases h
/-- loads, by what is loaded -/
noncomputable def a_iload (i n : Nat) : aF := fun A => match xget A.2.2.1 i with
  | some (some (.inl v)) => some [(n, A.1, A.2.1, A.2.2.1, .inl v :: A.2.2.2.1, A.2.2.2.2)]
  | _ => none
noncomputable def a_aload (i n : Nat) : aF := fun A => match xget A.2.2.1 i with
  | some (some (.inr (.inl v))) => some [(n, A.1, A.2.1, A.2.2.1, .inr (.inl v) :: A.2.2.2.1, A.2.2.2.2)]
  | _ => none
noncomputable def a_lload (i n : Nat) : aF := fun A => match xget A.2.2.1 i with
  | some (some (.inr (.inr v))) => some [(n, A.1, A.2.1, A.2.2.1, .inr (.inr v) :: A.2.2.2.1, A.2.2.2.2)]
  | _ => none
theorem aVOk_ref {ρ : Nat → Int} {n : Nat} {q : Nat × Nat} {z : zV} (h : aVOk g ρ n (.inr (.inl q)) z) : ∃ r, z = .inr (.inl (some r)) := by
  match q, h with
  | (0, r), h => exact ⟨r, h⟩
  | (_ + 1, kd), ⟨r, h, _⟩ => exact ⟨r, h⟩
theorem as_iload {i n : Nat} : aSnd g T Inv fl (z_iload i n) (a_iload i n) := by
  intro I0 A outs h ρ L S I B h0 hA K hK
  unfold a_iload at h
  rw [xget_eq] at h
  split at h
  · rename_i v hv
    cases h
    obtain ⟨z, h1, h2, x, rfl, h3⟩ := (hA.2.2.1.2 i).1 _ hv
    unfold z_iload
    rw [h1]
    exact hK n _ List.mem_cons_self ρ _ _ _ _ aAg_rf (Nat.le_refl _) (aG_stk hA ⟨_, _, rfl, ⟨h2, x, rfl, h3⟩, hA.2.2.2.1⟩)
  · cases h
theorem as_aload {i n : Nat} : aSnd g T Inv fl (z_aload i n) (a_aload i n) := by
  intro I0 A outs h ρ L S I B h0 hA K hK
  unfold a_aload at h
  rw [xget_eq] at h
  split at h
  · rename_i v hv
    cases h
    obtain ⟨z, h1, h2⟩ := (hA.2.2.1.2 i).1 _ hv
    obtain ⟨r, rfl⟩ := aVOk_ref h2
    unfold z_aload
    rw [h1]
    exact hK n _ List.mem_cons_self ρ _ _ _ _ aAg_rf (Nat.le_refl _) (aG_stk hA ⟨_, _, rfl, h2, hA.2.2.2.1⟩)
  · cases h
theorem as_lload {i n : Nat} : aSnd g T Inv fl (z_lload i n) (a_lload i n) := by
  intro I0 A outs h ρ L S I B h0 hA K hK
  unfold a_lload at h
  rw [xget_eq] at h
  split at h
  · rename_i v hv
    cases h
    obtain ⟨z, h1, x, rfl⟩ := (hA.2.2.1.2 i).1 _ hv
    unfold z_lload
    rw [h1]
    exact hK n _ List.mem_cons_self ρ _ _ _ _ aAg_rf (Nat.le_refl _) (aG_stk hA ⟨_, _, rfl, ⟨x, rfl⟩, hA.2.2.2.1⟩)
  · cases h
theorem azlg {ρ : Nat → Int} {n : Nat} {AL : List (Option aV)} {L : zL} (h : aLOk g ρ n AL L) {i : Nat} (hc : aisLo AL[i]? = false) : zlg L[i]? = false := by
  cases hi : AL[i]? with
  | none =>
    have h1 : AL.length ≤ i := List.getElem?_eq_none_iff.mp hi
    have h2 : L[i]? = none := List.getElem?_eq_none_iff.mpr (by rw [h.1]; exact h1)
    rw [h2]
    rfl
  | some o =>
    cases o with
    | none => exact (h.2 i).2 hi
    | some v =>
      obtain ⟨z, h1, h2⟩ := (h.2 i).1 v hi
      rw [h1]
      rw [hi] at hc
      match v, hc, h2 with
      | .inl a, _, ⟨_, x, h3, _⟩ => rw [h3]; rfl
      | .inr (.inl q), _, h2 => obtain ⟨r, h3⟩ := aVOk_ref h2; rw [h3]; rfl
theorem acan_ok {ρ : Nat → Int} {n : Nat} {AL : List (Option aV)} {L : zL} (h : aLOk g ρ n AL L) {i : Nat} (hc : acan AL i = true) : zcan L i := by
  unfold acan at hc
  rw [Bool.and_eq_true, xget_eq] at hc
  refine ⟨by rw [h.1]; exact xblt hc.1, azlg h ?_⟩
  have := hc.2
  simpa using this
theorem aLOk_set {ρ : Nat → Int} {n : Nat} {AL : List (Option aV)} {L : zL} (h : aLOk g ρ n AL L) {i : Nat} {v : aV} {z : zV} (hv : aVOk g ρ n v z) : aLOk g ρ n (AL.set i (some v)) (L.set i (some z)) := by
  refine ⟨by rw [List.length_set, List.length_set]; exact h.1, fun j => ?_⟩
  by_cases hji : j = i
  · subst hji
    by_cases hl : j < AL.length
    · rw [List.getElem?_set_self hl, List.getElem?_set_self (by rw [h.1]; exact hl)]
      exact ⟨fun v' hv' => by cases hv'; exact ⟨z, rfl, hv⟩, fun q => by cases q⟩
    · rw [List.set_eq_of_length_le (by omega), List.set_eq_of_length_le (by rw [h.1]; omega)]
      exact h.2 j
  · rw [List.getElem?_set_ne (Ne.symm hji), List.getElem?_set_ne (Ne.symm hji)]
    exact h.2 j
theorem aG_loc {ρ : Nat → Int} {A : aS} {L L' : zL} {S S0 : List zV} {I : zI} {I0 : zI} {B : Nat × Nat} (h : aG g T Inv fl I0 ρ A L S I B) {AL : List (Option aV)} {AS : List aV} (hL : aLOk g ρ A.1.length AL L') (hS : aSOk g ρ A.1.length AS S0) : aG g T Inv fl I0 ρ (A.1, A.2.1, AL, AS, A.2.2.2.2) L' S0 I B := by
  obtain ⟨e1, e2, e3, e4, e5, e6⟩ := h
  exact ⟨e1, e2, hL, hS, e5, e6⟩
theorem a_store_eq {i n : Nat} {A : aS} {outs : List (Nat × aS)} (h : a_store i n A = some outs) : ∃ v S, A.2.2.2.1 = v :: S ∧ acan A.2.2.1 i = true ∧ aisL v = false ∧ outs = [(n, A.1, A.2.1, A.2.2.1.set i (some v), S, A.2.2.2.2)] := by
  unfold a_store at h
  split at h
  · rename_i v S hS
    cases hc : acan A.2.2.1 i && !aisL v with
    | false => rw [hc] at h; cases h
    | true =>
      rw [hc] at h
      cases h
      rw [Bool.and_eq_true] at hc
      exact ⟨v, S, hS, hc.1, by simpa using hc.2, rfl⟩
  · cases h
noncomputable def a_istore (i n : Nat) : aF := fun A => match A.2.2.2.1 with
  | .inl _ :: _ => a_store i n A
  | _ => none
noncomputable def a_astore (i n : Nat) : aF := fun A => match A.2.2.2.1 with
  | .inr (.inl _) :: _ => a_store i n A
  | _ => none
theorem as_istore {i n : Nat} : aSnd g T Inv fl (z_istore i n) (a_istore i n) := by
  intro I0 A outs h ρ L S I B h0 hA K hK
  unfold a_istore at h
  split at h
  · rename_i v S1 hS1
    obtain ⟨v, S0, e1, e2, e3, rfl⟩ := a_store_eq h
    cases hS1.symm.trans e1
    have hS := hA.2.2.2.1
    rw [hS1] at hS
    obtain ⟨z, S', rfl, ⟨h3, x, rfl, h4⟩, h5⟩ := hS
    unfold z_istore
    exact ⟨acan_ok hA.2.2.1 e2, hK n _ List.mem_cons_self ρ _ _ _ _ aAg_rf (Nat.le_refl _) (aG_loc hA (aLOk_set hA.2.2.1 ⟨h3, x, rfl, h4⟩) h5)⟩
  · cases h
theorem as_astore {i n : Nat} : aSnd g T Inv fl (z_astore i n) (a_astore i n) := by
  intro I0 A outs h ρ L S I B h0 hA K hK
  unfold a_astore at h
  split at h
  · rename_i v S1 hS1
    obtain ⟨v, S0, e1, e2, e3, rfl⟩ := a_store_eq h
    cases hS1.symm.trans e1
    have hS := hA.2.2.2.1
    rw [hS1] at hS
    obtain ⟨z, S', rfl, h3, h5⟩ := hS
    obtain ⟨r, rfl⟩ := aVOk_ref h3
    unfold z_astore
    exact ⟨acan_ok hA.2.2.1 e2, hK n _ List.mem_cons_self ρ _ _ _ _ aAg_rf (Nat.le_refl _) (aG_loc hA (aLOk_set hA.2.2.1 h3) h5)⟩
  · cases h
theorem as_iinc {i n : Nat} {k : Int32} {c : Int} (hk : k.toInt = c) : aSnd g T Inv fl (z_iinc i k n) (a_iinc i c n) := by
  intro I0 A outs h ρ L S I B h0 hA K hK
  unfold a_iinc at h
  rw [xget_eq] at h
  split at h
  · rename_i a ha
    cases hc1 : acan A.2.2.1 i with
    | false => rw [hc1] at h; cases h
    | true =>
      rw [hc1] at h
      obtain ⟨z, h1, h2, x, rfl, h3⟩ := (hA.2.2.1.2 i).1 _ ha
      unfold z_iinc
      rw [h1]
      refine ⟨acan_ok hA.2.2.1 hc1, ?_⟩
      cases hc : (ile (-2147483648) ((aiv A.1 a).1 + c) && ile ((aiv A.1 a).2 + c) 2147483647) with
      | false =>
        rw [hc] at h
        cases h
        have hA2 := aG_ext h0 hA (q := (-2147483648, 2147483647)) (v := (x + k).toInt) (an_lo _) (an_hi _)
        have hn : A.1.length ≤ (A.1 ++ [((-2147483648, 2147483647) : aQ)]).length := by simp
        refine hK n _ List.mem_cons_self _ _ _ _ _ aupd_ag hn (aG_loc hA2 (aLOk_set hA2.2.2.1 ⟨by simp, _, rfl, ?_⟩) hA2.2.2.2.1)
        show (x + k).toInt = aupd ρ A.1.length (x + k).toInt A.1.length + 0
        rw [aupd_at]
        omega
      | true =>
        rw [hc] at h
        cases h
        simp only [Bool.and_eq_true] at hc
        obtain ⟨c2, c3⟩ := hc
        have c2 := ile_ok c2
        have c3 := ile_ok c3
        have hb := aiv_ok hA.1 h3
        refine hK n _ List.mem_cons_self ρ _ _ _ _ aAg_rf (Nat.le_refl _) (aG_loc hA (aLOk_set hA.2.2.1 ⟨h2, _, rfl, ?_⟩) hA.2.2.2.1)
        rw [an_add (by rw [hk]; omega) (by rw [hk]; omega), h3, hk]
        show _ = ρ a.1 + (a.2 + c)
        omega
  · cases h
def aBinOk (F : List aQ → aN → aN → aN ⊕ aQ) (f : Int32 → Int32 → Int32) : Prop := ∀ (en : List aQ) (ρ : Nat → Int) (a b : aN) (x y : Int32), 0 < en.length → aEnOk ρ en → a.1 < en.length → b.1 < en.length → x.toInt = ρ a.1 + a.2 → y.toInt = ρ b.1 + b.2 → aRes ρ en.length (F en a b) (f x y)
def aDivOk (F : List aQ → aN → aN → aN ⊕ aQ) (f : Int32 → Int32 → Int32) : Prop := ∀ (en : List aQ) (ρ : Nat → Int) (a b : aN) (x y : Int32), 0 < en.length → aEnOk ρ en → a.1 < en.length → b.1 < en.length → x.toInt = ρ a.1 + a.2 → y.toInt = ρ b.1 + b.2 → 1 ≤ (aiv en b).1 → aRes ρ en.length (F en a b) (f x y)
def aUnOk (F : List aQ → aN → aN ⊕ aQ) (f : Int32 → Int32) : Prop := ∀ (en : List aQ) (ρ : Nat → Int) (a : aN) (x : Int32), 0 < en.length → aEnOk ρ en → a.1 < en.length → x.toInt = ρ a.1 + a.2 → aRes ρ en.length (F en a) (f x)
theorem as_bin {F : List aQ → aN → aN → aN ⊕ aQ} {f : Int32 → Int32 → Int32} {n : Nat} (hF : aBinOk F f) : aSnd g T Inv fl (z_bin f n) (a_bin F n) := by
  intro I0 A outs h ρ L S I B h0 hA K hK
  unfold a_bin at h
  split at h
  · rename_i b a S1 hS1
    cases h
    have hS := hA.2.2.2.1
    rw [hS1] at hS
    obtain ⟨z, S', rfl, ⟨h3, y, rfl, h4⟩, z2, S2, rfl, ⟨h5, x, rfl, h6⟩, h7⟩ := hS
    obtain ⟨ρ', q1, q2, q3⟩ := apsh_ok h0 hA h7 (hF A.1 ρ a b x y h0 hA.1 h5 h3 h6 h4)
    exact hK n _ List.mem_cons_self ρ' _ _ _ _ q1 q2 q3
  · cases h
theorem as_div {F : List aQ → aN → aN → aN ⊕ aQ} {f : Int32 → Int32 → Int32} {n : Nat} (hF : aDivOk F f) : aSnd g T Inv fl (z_div f n) (a_div F n) := by
  intro I0 A outs h ρ L S I B h0 hA K hK
  unfold a_div at h
  split at h
  · rename_i b a S1 hS1
    cases hc : ile 1 (aiv A.1 b).1 with
    | false => rw [hc] at h; cases h
    | true =>
      rw [hc] at h
      cases h
      have hc := ile_ok hc
      have hS := hA.2.2.2.1
      rw [hS1] at hS
      obtain ⟨z, S', rfl, ⟨h3, y, rfl, h4⟩, z2, S2, rfl, ⟨h5, x, rfl, h6⟩, h7⟩ := hS
      obtain ⟨ρ', q1, q2, q3⟩ := apsh_ok h0 hA h7 (hF A.1 ρ a b x y h0 hA.1 h5 h3 h6 h4 hc)
      have hb := aiv_ok hA.1 h4
      refine ⟨fun q => ?_, hK n _ List.mem_cons_self ρ' _ _ _ _ q1 q2 q3⟩
      subst q
      have e : (0 : Int32).toInt = 0 := by decide
      omega
  · cases h
theorem as_un {F : List aQ → aN → aN ⊕ aQ} {f : Int32 → Int32} {n : Nat} (hF : aUnOk F f) : aSnd g T Inv fl (z_un f n) (a_un F n) := by
  intro I0 A outs h ρ L S I B h0 hA K hK
  unfold a_un at h
  split at h
  · rename_i a S1 hS1
    cases h
    have hS := hA.2.2.2.1
    rw [hS1] at hS
    obtain ⟨z2, S2, rfl, ⟨h5, x, rfl, h6⟩, h7⟩ := hS
    obtain ⟨ρ', q1, q2, q3⟩ := apsh_ok h0 hA h7 (hF A.1 ρ a x h0 hA.1 h5 h6)
    exact hK n _ List.mem_cons_self ρ' _ _ _ _ q1 q2 q3
  · cases h
theorem aVOk1 {ρ : Nat → Int} {n : Nat} {v : aV} {z : zV} (h : aVOk g ρ n v z) (hl : aisL v = false) : z1 z = true := by
  match v, hl, h with
  | .inl a, _, ⟨_, x, h3, _⟩ => rw [h3]; rfl
  | .inr (.inl q), _, h2 => obtain ⟨r, h3⟩ := aVOk_ref h2; rw [h3]; rfl
theorem as_dup {n : Nat} : aSnd g T Inv fl (z_dup n) (a_dup n) := by
  intro I0 A outs h ρ L S I B h0 hA K hK
  unfold a_dup at h
  split at h
  · rename_i v S1 hS1
    cases hc : aisL v with
    | true => rw [hc] at h; cases h
    | false =>
      rw [hc] at h
      cases h
      have hS := hA.2.2.2.1
      rw [hS1] at hS
      obtain ⟨z, S', rfl, h3, h4⟩ := hS
      exact ⟨aVOk1 h3 hc, hK n _ List.mem_cons_self ρ _ _ _ _ aAg_rf (Nat.le_refl _) (aG_stk hA ⟨_, _, rfl, h3, _, _, rfl, h3, h4⟩)⟩
  · cases h
theorem as_dup2 {n : Nat} : aSnd g T Inv fl (z_dup2 n) (a_dup2 n) := by
  intro I0 A outs h ρ L S I B h0 hA K hK
  unfold a_dup2 at h
  split at h
  · rename_i v u S1 hS1
    cases hc : aisL v || aisL u with
    | true => rw [hc] at h; cases h
    | false =>
      rw [hc] at h
      cases h
      rw [Bool.or_eq_false_iff] at hc
      have hS := hA.2.2.2.1
      rw [hS1] at hS
      obtain ⟨z, S', rfl, h3, z2, S2, rfl, h5, h4⟩ := hS
      exact ⟨aVOk1 h3 hc.1, aVOk1 h5 hc.2, hK n _ List.mem_cons_self ρ _ _ _ _ aAg_rf (Nat.le_refl _) (aG_stk hA ⟨_, _, rfl, h3, _, _, rfl, h5, _, _, rfl, h3, _, _, rfl, h5, h4⟩)⟩
  · cases h
theorem as_pop {n : Nat} : aSnd g T Inv fl (z_pop n) (a_pop n) := by
  intro I0 A outs h ρ L S I B h0 hA K hK
  unfold a_pop at h
  split at h
  · rename_i v S1 hS1
    cases hc : aisL v with
    | true => rw [hc] at h; cases h
    | false =>
      rw [hc] at h
      cases h
      have hS := hA.2.2.2.1
      rw [hS1] at hS
      obtain ⟨z, S', rfl, h3, h4⟩ := hS
      exact ⟨aVOk1 h3 hc, hK n _ List.mem_cons_self ρ _ _ _ _ aAg_rf (Nat.le_refl _) (aG_stk hA h4)⟩
  · cases h
theorem as_goto {t : Nat} : aSnd g T Inv fl (z_goto t) (a_goto t) := by
  intro I0 A outs h ρ L S I B h0 hA K hK
  cases h
  exact hK t _ List.mem_cons_self ρ _ _ _ _ aAg_rf (Nat.le_refl _) hA
theorem as_lbin {f : Int64 → Int64 → Int64} {n : Nat} : aSnd g T Inv fl (z_lbin f n) (a_lbin n) := by
  intro I0 A outs h ρ L S I B h0 hA K hK
  unfold a_lbin at h
  split at h
  · rename_i S1 hS1
    cases h
    have hS := hA.2.2.2.1
    rw [hS1] at hS
    obtain ⟨z, S', rfl, ⟨y, rfl⟩, z2, S2, rfl, ⟨x, rfl⟩, h7⟩ := hS
    exact hK n _ List.mem_cons_self ρ _ _ _ _ aAg_rf (Nat.le_refl _) (aG_stk hA ⟨_, _, rfl, ⟨_, rfl⟩, h7⟩)
  · cases h
theorem as_lcmp {n : Nat} : aSnd g T Inv fl (z_lcmp n) (a_lcmp n) := by
  intro I0 A outs h ρ L S I B h0 hA K hK
  unfold a_lcmp at h
  split at h
  · rename_i S1 hS1
    cases h
    have hS := hA.2.2.2.1
    rw [hS1] at hS
    obtain ⟨z, S', rfl, ⟨y, rfl⟩, z2, S2, rfl, ⟨x, rfl⟩, h7⟩ := hS
    obtain ⟨ρ', q1, q2, q3⟩ := apsh_ok h0 hA h7 (r := .inr (-2147483648, 2147483647)) (x := lg_cmp x y) ⟨an_lo _, an_hi _⟩
    exact hK n _ List.mem_cons_self ρ' _ _ _ _ q1 q2 q3
  · cases h
end A2
