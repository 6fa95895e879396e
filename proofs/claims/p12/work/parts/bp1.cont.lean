/-! ===== WHAT A TEXT TELLS ===== -/
abbrev kOp : Type := Int × Int
abbrev kLw : Type := List (List kOp × List kOp × List kOp) × List kOp
/-- houses (their letters), verses (letters, value, due), spoils, thieves, seed, laws -/
abbrev kSt : Type := List (List Int) × List (List Int × Int × Int) × (Int × Int × Int) × (Nat → Option kLw)
def kS0 : kSt := ([], [], (20, 0, 0), fun _ => none)
def kCt (l : List Int) (x : Int) : Int := (l.countP (fun y => y == x) : Nat)
def kStep (K : Int → Int) (lt : Int → List Int) (vl : Int → Int) (lw : Int → kLw) (a : Int) (S : kSt) : kSt :=
  if K a = 128 then (S.1 ++ [lt (a + 2)], S.2)
  else if K a = 129 then (S.1, S.2.1 ++ [(lt (a + 2), vl (a + 3), vl (a + 4))], S.2.2)
  else if K a = 134 then (S.1, S.2.1, (vl (a + 1), S.2.2.1.2), S.2.2.2)
  else if K a = 135 then (S.1, S.2.1, (S.2.2.1.1, vl (a + 1), S.2.2.1.2.2), S.2.2.2)
  else if K a = 136 then (S.1, S.2.1, (S.2.2.1.1, S.2.2.1.2.1, vl (a + 1)), S.2.2.2)
  else (S.1, S.2.1, S.2.2.1, fun k => if (k : Int) = K a - 130 then some (lw (a + 2)) else S.2.2.2 k)
def kText (K : Int → Int) (lt : Int → List Int) (vl : Int → Int) (lw : Int → kLw) : Nat → Int → Int → Int → kSt → kSt
  | 0, _, _, _, S => S
  | n + 1, a, h, v, S => if K a = 0 then S else if (pTell K h v a).2 = 0 then kText K lt vl lw n (pTell K h v a).1 (if K a = 128 then h + 1 else h) (if K a = 129 then v + 1 else v) (kStep K lt vl lw a S) else S
theorem kCt_0 {x : Int} : kCt [] x = 0 := rfl
theorem kCt_nn {l : List Int} {x : Int} : 0 ≤ kCt l x ∧ kCt l x ≤ l.length := by
  have := List.countP_le_length (p := fun y => y == x) (l := l)
  unfold kCt
  omega
theorem kCt_a {l : List Int} {y x : Int} : kCt (l ++ [y]) x = kCt l x + (if y = x then 1 else 0) := by
  unfold kCt
  rw [List.countP_append, List.countP_singleton]
  by_cases h : y = x
  · rw [if_pos h, if_pos (by simpa using h)]; omega
  · rw [if_neg h, if_neg (by simpa using h)]; omega
theorem kCt_s {f : Nat → Int} {n : Nat} {x : Int} : kCt ((List.range (n + 1)).map f) x = kCt ((List.range n).map f) x + (if f n = x then 1 else 0) := by
  rw [List.range_succ, List.map_append, List.map_cons, List.map_nil]
  exact kCt_a
theorem kGd {α : Type} {l : List α} {y d : α} {h : Nat} : (l ++ [y]).getD h d = if h < l.length then l.getD h d else if h = l.length then y else d := by
  by_cases h1 : h < l.length
  · rw [if_pos h1, List.getD_eq_getElem?_getD, List.getD_eq_getElem?_getD, List.getElem?_append_left h1]
  · rw [if_neg h1, List.getD_eq_getElem?_getD, List.getElem?_append_right (by omega)]
    by_cases h2 : h = l.length
    · rw [if_pos h2, h2, Nat.sub_self]; rfl
    · rw [if_neg h2]
      obtain ⟨k, hk⟩ : ∃ k, h - l.length = k + 1 := ⟨h - l.length - 1, by omega⟩
      rw [hk]; rfl
theorem kMp {f : Nat → Int} {n i : Nat} (h : i < n) : ((List.range n).map f).getD i 0 = f i := by
  rw [List.getD_eq_getElem?_getD, List.getElem?_map, List.getElem?_range h]
  rfl
/-- a verse told -/
def kV (S : kSt) (v : Nat) : List Int × Int × Int := S.2.1.getD v ([], 0, 0)
/-- the class's script at cell c, but for its laws -/
def sC (c : Nat) (S : kSt) (μ : xM) : Prop :=
  ((μ.1 c 0).toInt = S.1.length ∧ (μ.1 c 1).toInt = S.2.1.length ∧ (μ.1 c 4).toInt = S.2.2.1.1 ∧ (μ.1 c 2).toInt = S.2.2.1.2.1 ∧ (μ.1 c 3).toInt = S.2.2.1.2.2) ∧
  (∀ h l : Nat, h < 5 → l < 8 → (μ.1 (c + 1) (8 * h + l)).toInt = kCt (S.1.getD h []) l) ∧
  (∀ v : Nat, v < S.2.1.length → (μ.1 (c + 2) v).toInt = (kV S v).2.1 ∧ (μ.1 (c + 3) v).toInt = (kV S v).2.2 ∧ (μ.1 (c + 4) v).toInt = (kV S v).1.length ∧ ∀ i : Nat, i < (kV S v).1.length → (μ.1 (c + 5) (8 * v + i)).toInt = (kV S v).1.getD i 0) ∧
  ∀ v l : Nat, v < 7 → l < 8 → (μ.1 (c + 6) (8 * v + l)).toInt = kCt (kV S v).1 l
theorem sC_cg {c : Nat} {S : kSt} {μ ν : xM} (h : ∀ k j, c ≤ k → k ≤ c + 6 → ν.1 k j = μ.1 k j) (hs : sC c S μ) : sC c S ν := by
  unfold sC
  simp only [h c _ (Nat.le_refl _) (by omega), h (c + 1) _ (by omega) (by omega), h (c + 2) _ (by omega) (by omega), h (c + 3) _ (by omega) (by omega), h (c + 4) _ (by omega) (by omega), h (c + 5) _ (by omega) (by omega), h (c + 6) _ (by omega) (by omega)]
  exact hs
theorem sC_num {c f : Nat} {S S' : kSt} {μ : xM} {v : Int32} (hf : f = 2 ∨ f = 3 ∨ f = 4) (hs : sC c S μ) (h1 : S'.1 = S.1) (h2 : S'.2.1 = S.2.1) (h4 : S'.2.2.1.1 = if f = 4 then v.toInt else S.2.2.1.1) (h5 : S'.2.2.1.2.1 = if f = 2 then v.toInt else S.2.2.1.2.1) (h6 : S'.2.2.1.2.2 = if f = 3 then v.toInt else S.2.2.1.2.2) : sC c S' (xpi μ c f v) := by
  obtain ⟨⟨a1, a2, a3, a4, a5⟩, b, d, e⟩ := hs
  have g : ∀ k j, ¬ k = c → (xpi μ c f v).1 k j = μ.1 k j := fun k j hk => xpi_ne (fun q => hk q.1)
  have kv : ∀ w, kV S' w = kV S w := fun w => by unfold kV; rw [h2]
  refine ⟨⟨?_, ?_, ?_, ?_, ?_⟩, fun h l x y => ?_, fun w hw => ?_, fun w l x y => ?_⟩
  · rw [xpi_ne (fun q => by omega), h1]; exact a1
  · rw [xpi_ne (fun q => by omega), h2]; exact a2
  · rw [h4]
    by_cases q : f = 4
    · rw [if_pos q, q, xpi_at]
    · rw [if_neg q, xpi_ne (fun z => q z.2.symm)]; exact a3
  · rw [h5]
    by_cases q : f = 2
    · rw [if_pos q, q, xpi_at]
    · rw [if_neg q, xpi_ne (fun z => q z.2.symm)]; exact a4
  · rw [h6]
    by_cases q : f = 3
    · rw [if_pos q, q, xpi_at]
    · rw [if_neg q, xpi_ne (fun z => q z.2.symm)]; exact a5
  · rw [g _ _ (by omega), h1]; exact b h l x y
  · rw [h2] at hw
    rw [g _ _ (by omega), g _ _ (by omega), g _ _ (by omega), kv w]
    obtain ⟨d1, d2, d3, d4⟩ := d w hw
    exact ⟨d1, d2, d3, fun i hi => by rw [g _ _ (by omega)]; exact d4 i hi⟩
  · rw [g _ _ (by omega), kv w]; exact e w l x y
/-- the cells of the script that is told stand -/
def sE (μ μ' : xM) : Prop := hOK μ' ∧ ∀ k j, 13 ≤ k → k ≤ 22 → μ'.1 k j = μ.1 k j
theorem hOK_2 {μ μ' : xM} (h : μ'.2 = μ.2) (hO : hOK μ) : hOK μ' := by
  unfold hOK
  rw [h]
  exact hO
noncomputable def sB (W : hW) : Bool := (List.range 10).all (fun k => hpA W (13 + k))
theorem sE_w {W : hW} {μ μ' : xM} (hk : sB W = true) (h : hRm (hP W) (hQ W) μ μ') (hO : hOK μ) : sE μ μ' := by
  refine ⟨(h hO).1, fun k j h1 h2 => hSt h hO (by omega) (hpA_ok ?_ j)⟩
  have := List.all_eq_true.mp hk (k - 13) (List.mem_range.mpr (by omega))
  rw [show 13 + (k - 13) = k by omega] at this
  exact this
theorem sE_tr {μ ν ω : xM} (h1 : sE μ ν) (h2 : sE ν ω) : sE μ ω := ⟨h2.1, fun k j a b => (h2.2 k j a b).trans (h1.2 k j a b)⟩
theorem sE_C {S : kSt} {μ ν : xM} (h : sE μ ν) (hs : sC 13 S μ) : sC 13 S ν := sC_cg (fun k j a b => h.2 k j a (by omega)) hs
/-- the letters of a token of the class -/
def cT (μ : xM) (t : Int) : List Int := (List.range (cS μ t).toNat).map (fun i => cB μ t i - 97)
theorem gE_cT {μ ν : xM} (h : gE μ ν) : cT ν = cT μ := by funext t; unfold cT; rw [gE_S h, gE_B h]
theorem pTell_0 {p f : Int} {x : Int × Int} (h : x = (p, f)) (h0 : x.2 = 0) : f = 0 := by rw [h] at h0; exact h0
/-- an int's number -/
theorem int_v {t lo hi : Int32} {μ μ' : xM} {r : Option zV} (h0 : Ex gx xq_11 [.inr (.inl (some 12)), .inl t, .inl lo, .inl hi] μ r μ') {E : Int} (ht : cTV μ E) (ht0 : 0 ≤ t.toInt) (ht1 : t.toInt ≤ E) (hk : cK μ t.toInt = 3) : ∃ v : Int32, r = some (.inl v) ∧ v.toInt = cV μ t.toInt := by
  obtain ⟨v, h1, h2, -⟩ := ex_intOf h0 ht ht0 ht1 hk
  exact ⟨v, h1, h2⟩
theorem wNote {c p : Int} {b : Bool} {w : Int × Int} (hc : ¬ c = 0) (h : (pNote c p b w).1 = 0) : b = false ∧ w.1 = 0 ∧ pNote c p b w = w := by
  unfold pNote at h ⊢
  by_cases q : b = true ∧ w.1 = 0
  · rw [if_pos q] at h
    exact absurd h hc
  · rw [if_neg q] at h
    refine ⟨?_, h, if_neg q⟩
    cases b with
    | false => rfl
    | true => exact absurd ⟨rfl, h⟩ q
