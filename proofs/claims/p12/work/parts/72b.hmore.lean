section HD
variable {PX : xPX} {bd : Nat → Nat × Nat} {pre : zPre} {post : zPost} {d : Nat × Nat × Nat} {cc : ByteArray} {own : String} {K : zK} {pc n : Nat} {L : zL} {S : List zV} {I : zI} {B : Nat × Nat}
theorem hA_max {x y : Int32} (hs : zSound zG0 PX bd pre post d cc own pc (z_math (fun x y => if x < y then y else x) n)) (hc : zcat S ≤ 8) (h : ∀ z : Int32, x.toInt ≤ z.toInt → y.toInt ≤ z.toInt → (z.toInt = x.toInt ∨ z.toInt = y.toInt) → zAt zG0 PX bd pre post d cc own K n L (.inl z :: S) I B) : zAt zG0 PX bd pre post d cc own K pc L (.inl y :: .inl x :: S) I B := by
  refine hA hs ⟨hc, h (if x < y then y else x) ?_ ?_ ?_⟩
  · split
    · rename_i h1; have := Int32.lt_iff_toInt_lt.mp h1; omega
    · exact Int.le_refl _
  · split
    · exact Int.le_refl _
    · rename_i h1; exact Int32.le_iff_toInt_le.mp (Int32.not_lt.mp h1)
  · split
    · exact Or.inr rfl
    · exact Or.inl rfl
theorem hA_min {x y : Int32} (hs : zSound zG0 PX bd pre post d cc own pc (z_math (fun x y => if y < x then y else x) n)) (hc : zcat S ≤ 8) (h : ∀ z : Int32, z.toInt ≤ x.toInt → z.toInt ≤ y.toInt → (z.toInt = x.toInt ∨ z.toInt = y.toInt) → zAt zG0 PX bd pre post d cc own K n L (.inl z :: S) I B) : zAt zG0 PX bd pre post d cc own K pc L (.inl y :: .inl x :: S) I B := by
  refine hA hs ⟨hc, h (if y < x then y else x) ?_ ?_ ?_⟩
  · split
    · rename_i h1; have := Int32.lt_iff_toInt_lt.mp h1; omega
    · exact Int.le_refl _
  · split
    · exact Int.le_refl _
    · rename_i h1; exact Int32.le_iff_toInt_le.mp (Int32.not_lt.mp h1)
  · split
    · exact Or.inr rfl
    · exact Or.inl rfl
/-- a remainder by a number above 0 -/
theorem hA_rem {x y : Int32} {c : Int} (hs : zSound zG0 PX bd pre post d cc own pc (z_div (fun x y => x - x / y * y) n)) (hc : y.toInt = c) (h0 : 0 ≤ x.toInt) (h1 : 0 < c) (h : ∀ z : Int32, 0 ≤ z.toInt → z.toInt < c → z.toInt ≤ x.toInt → zAt zG0 PX bd pre post d cc own K n L (.inl z :: S) I B) : zAt zG0 PX bd pre post d cc own K pc L (.inl y :: .inl x :: S) I B := by
  subst hc
  obtain ⟨g1, g2, g3⟩ := an_rem h0 h1
  refine hA hs ⟨fun e => ?_, h _ g1 g2 g3⟩
  rw [e] at h1
  exact absurd h1 (by decide)
def zLkP (ps : List (Int × Nat)) (df : Nat) (x : Int) (P : Nat → Prop) : Prop := match ps with
  | [] => P df
  | q :: ps => (x = q.1 → P q.2) ∧ (¬ x = q.1 → zLkP ps df x P)
theorem zLkP_ok {df : Nat} {x : Int} {P : Nat → Prop} : ∀ {ps : List (Int × Nat)}, zLkP ps df x P → P (zlook ps df x)
  | [], h => h
  | q :: ps, h => by
    unfold zlook
    split
    · rename_i e; exact h.1 e
    · rename_i e; exact zLkP_ok (h.2 e)
theorem hA_lsw {ps : List (Int × Nat)} {df : Nat} {x : Int32} (hs : zSound zG0 PX bd pre post d cc own pc (z_lsw ps df)) (h : zLkP ps df x.toInt (fun t => zAt zG0 PX bd pre post d cc own K t L S I B)) : zAt zG0 PX bd pre post d cc own K pc L (.inl x :: S) I B := hA hs (zLkP_ok (P := fun t => zAt zG0 PX bd pre post d cc own K t L S I B) h)
def zTsP (lo : Int) (ts : List Nat) (df : Nat) (x : Int) (P : Nat → Prop) : Prop := match ts with
  | [] => P df
  | t :: ts => (x = lo → P t) ∧ (¬ x = lo → zTsP (lo + 1) ts df x P)
theorem zTsP_in {df : Nat} {x : Int} {P : Nat → Prop} : ∀ {ts : List Nat} {lo : Int}, zTsP lo ts df x P → ∀ (k t : Nat), ts[k]? = some t → x = lo + (k : Int) → P t
  | [], lo, h, k, t, hk, hx => by simp at hk
  | t0 :: ts, lo, h, k, t, hk, hx => by
    cases k with
    | zero =>
      simp at hk
      subst hk
      exact h.1 (by omega)
    | succ k => exact zTsP_in (h.2 (by omega)) k t (by simpa using hk) (by omega)
theorem zTsP_out {df : Nat} {x : Int} {P : Nat → Prop} : ∀ {ts : List Nat} {lo : Int}, zTsP lo ts df x P → (x < lo ∨ lo + (ts.length : Int) ≤ x) → P df
  | [], lo, h, _ => h
  | t0 :: ts, lo, h, hx => by
    simp only [List.length_cons] at hx
    exact zTsP_out (h.2 (by omega)) (by omega)
theorem hA_tsw {lo : Int} {ts : List Nat} {df : Nat} {x : Int32} (hs : zSound zG0 PX bd pre post d cc own pc (z_tsw lo ts df)) (h : zTsP lo ts df x.toInt (fun t => zAt zG0 PX bd pre post d cc own K t L S I B)) : zAt zG0 PX bd pre post d cc own K pc L (.inl x :: S) I B := hA hs ⟨fun k t hk hx => zTsP_in (P := fun t => zAt zG0 PX bd pre post d cc own K t L S I B) h k t hk hx, fun hx => zTsP_out (P := fun t => zAt zG0 PX bd pre post d cc own K t L S I B) h hx⟩
/-- copies: of arrays that the walk does not know, of such as it knows -/
theorem hA_copyH {a a0 kd kd0 len len0 : Nat} {k dp sp : Int32} (hs : zSound zG0 PX bd pre post d cc own pc (z_copy zG0 n)) (hk : (zG0.1 a0 = kd0 ∧ zG0.2.1 kd0 = .inr (0, len0) ∧ zvs kd0 = false) ∧ zG0.1 a = kd ∧ zG0.2.1 kd = .inr (0, len) ∧ zvs kd = false ∧ zta (ztb kd0) = zta (ztb kd) ∧ len ≤ len0 ∧ len < 2147483648) (hcat : zcat S ≤ 8) (h1 : sp.toInt = 0) (h2 : dp.toInt = 0) (h3 : k.toInt = (len : Int)) (h : zAt zG0 PX bd pre post d cc own K n L S I B) : zAt zG0 PX bd pre post d cc own K pc L (.inl k :: .inl dp :: .inr (.inl (some a)) :: .inl sp :: .inr (.inl (some a0)) :: S) I B := by
  obtain ⟨⟨e1, e2, e3⟩, e4, e5, e6, e7, e8, e9⟩ := hk
  refine hA hs ?_
  unfold z_copy
  simp only [e1, e2, e4, e5]
  have v1 : zG0.2.2.2.2.2 kd = false := e6
  have v0 : zG0.2.2.2.2.2 kd0 = false := e3
  refine ⟨trivial, trivial, hcat, i0 h1, i0 h2, an_of h3, e8, by rw [v1, v0], fun _ j v _ hv => ?_, ?_⟩
  · have hv : eOK (zta (ztb kd0)) j v.toInt := hv
    rw [e7] at hv
    exact hv
  · rw [zcp_no v1]
    exact h
theorem hA_copyV {a a0 kd kd0 len len0 : Nat} {k dp sp : Int32} (hs : zSound zG0 PX bd pre post d cc own pc (z_copy zG0 n)) (hk : (zG0.1 a0 = kd0 ∧ zG0.2.1 kd0 = .inr (0, len0) ∧ zvs kd0 = true) ∧ zG0.1 a = kd ∧ zG0.2.1 kd = .inr (0, len) ∧ zvs kd = true ∧ len ≤ len0 ∧ len < 2147483648) (hcat : zcat S ≤ 8) (h1 : sp.toInt = 0) (h2 : dp.toInt = 0) (h3 : k.toInt = (len : Int)) (h : zAt zG0 PX bd pre post d cc own K n L S (zcp zG0 I kd0 kd len) B) : zAt zG0 PX bd pre post d cc own K pc L (.inl k :: .inl dp :: .inr (.inl (some a)) :: .inl sp :: .inr (.inl (some a0)) :: S) I B := by
  obtain ⟨⟨e1, e2, e3⟩, e4, e5, e6, e8, e9⟩ := hk
  refine hA hs ?_
  unfold z_copy
  simp only [e1, e2, e4, e5]
  have v1 : zG0.2.2.2.2.2 kd = true := e6
  have v0 : zG0.2.2.2.2.2 kd0 = true := e3
  refine ⟨trivial, trivial, hcat, i0 h1, i0 h2, an_of h3, e8, by rw [v1, v0], fun hf => ?_, h⟩
  rw [v0] at hf
  cases hf
theorem zFg_ok : ∀ {L' L : zL}, zFg L' L → L'.length = L.length ∧ ∀ (i : Nat) (v : zV), L'[i]? = some (some v) → L[i]? = some (some v)
  | [], [], _ => ⟨rfl, fun i v h => by simp at h⟩
  | none :: t, o :: t', h => by
    obtain ⟨h1, h2⟩ := zFg_ok (L' := t) (L := t') h
    refine ⟨by simp [h1], fun i v hi => ?_⟩
    cases i with
    | zero => simp at hi
    | succ i => simpa using h2 i v (by simpa using hi)
  | some w :: t, o :: t', h => by
    have h0 : o = some w ∧ zFg t t' := h
    obtain ⟨h1, h2⟩ := zFg_ok (L' := t) (L := t') h0.2
    obtain ⟨rfl, -⟩ := h0
    refine ⟨by simp [h1], fun i v hi => ?_⟩
    cases i with
    | zero => simpa using hi
    | succ i => simpa using h2 i v (by simpa using hi)
  | [], _ :: _, h => h.elim
  | none :: _, [], h => h.elim
  | some _ :: _, [], h => h.elim
theorem hA_fg {L' : zL} (hf : zFg L' L) (h : zAt zG0 PX bd pre post d cc own K pc L' S I B) : zAt zG0 PX bd pre post d cc own K pc L S I B := by
  obtain ⟨h1, h2⟩ := zFg_ok hf
  intro hc p l e R s m args below meth c Q nL D tys sz sc TT hT C hfr hlo kk pc0 L0 S0 I0 B0 hp N ls st H locs μ hM hL hS hB1 hB2 hτ
  obtain ⟨rfl, rfl, rfl, rfl, rfl⟩ := hp
  refine h hc p l e R s m args below meth c Q nL D tys sz sc TT hT C hfr hlo kk _ _ _ _ _ ⟨rfl, rfl, rfl, rfl, rfl⟩ N ls st H locs μ hM ?_ hS hB1 hB2 (hT _ _ hτ (Or.inr ⟨rfl, hf, rfl⟩))
  obtain ⟨g1, lv, g2, g3⟩ := hL
  exact ⟨by rw [h1]; exact g1, lv, g2, fun i v hi => g3 i v (h2 i v hi)⟩
end HD
theorem hA_bast {PX : xPX} {bd : Nat → Nat × Nat} {pre : zPre} {post : zPost} {d : Nat × Nat × Nat} {cc : ByteArray} {own : String} {K : zK} {pc n : Nat} {L : zL} {S : List zV} {I : zI} {B : Nat × Nat} {a kd len : Nat} {i v : Int32} (hs : zSound zG0 PX bd pre post d cc own pc (z_bast zG0 n)) (hk : zG0.1 a = kd ∧ zG0.2.1 kd = .inr (1, len) ∧ zvs kd = true) (h0 : 0 ≤ i.toInt) (h1 : i.toInt < (len : Int)) (h : ∀ z : Int32, -128 ≤ z.toInt → z.toInt ≤ 127 → zAt zG0 PX bd pre post d cc own K n L S (zupd I (zid kd i.toInt.toNat) z) B) : zAt zG0 PX bd pre post d cc own K pc L (.inl v :: .inl i :: .inr (.inl (some a)) :: S) I B := by
  obtain ⟨e1, e2, e3⟩ := hk
  refine hA hs ?_
  unfold z_bast
  simp only [e1, e2]
  refine ⟨(ix h0 h1).1, Or.inl ⟨trivial, Or.inl e3, ?_⟩⟩
  unfold zst
  rw [if_pos (show zG0.2.2.2.2.2 kd = true from e3)]
  exact h _ (an_i2b v).1 (an_i2b v).2
