/-! ===== the reference's laws, told ===== -/
/-- a law of side s as it stands, or none -/
def rL1 (s k : Nat) (hi bh : Int) (o : Option kLw) (ω : xM) : Prop := match o with
  | none => (ω.1 94 (4 * s + k)).toInt = (ω.1 95 (4 * s + k)).toInt
  | some L => rLw ω (420 * s) hi (ω.1 94 (4 * s + k)).toInt (ω.1 95 (4 * s + k)).toInt L ∧ 130 * (s : Int) ≤ (ω.1 94 (4 * s + k)).toInt ∧ (ω.1 95 (4 * s + k)).toInt ≤ bh
def rLC (s : Nat) (hi bh : Int) (F : Nat → Option kLw) (ω : xM) : Prop := ∀ k : Nat, k < 4 → rL1 s k hi bh (F k) ω
/-- the other side's laws stand -/
def oL (s : Nat) (μ μ' : xM) : Prop := (∀ k (j : Nat), 94 ≤ k → k ≤ 95 → (j < 4 * s ∨ 4 * s + 4 ≤ j) → μ'.1 k j = μ.1 k j) ∧ (∀ k (j : Nat), 96 ≤ k → k ≤ 100 → (j < 130 * s ∨ 130 * s + 130 ≤ j) → μ'.1 k j = μ.1 k j) ∧ ∀ k (j : Nat), 101 ≤ k → k ≤ 102 → (j < 420 * s ∨ 420 * s + 420 ≤ j) → μ'.1 k j = μ.1 k j
theorem oL_rf {s : Nat} {μ : xM} : oL s μ μ := ⟨fun _ _ _ _ _ => rfl, fun _ _ _ _ _ => rfl, fun _ _ _ _ _ => rfl⟩
theorem oL_tr {s : Nat} {μ ν ω : xM} (h1 : oL s μ ν) (h2 : oL s ν ω) : oL s μ ω := ⟨fun k j a b c => (h2.1 k j a b c).trans (h1.1 k j a b c), fun k j a b c => (h2.2.1 k j a b c).trans (h1.2.1 k j a b c), fun k j a b c => (h2.2.2 k j a b c).trans (h1.2.2 k j a b c)⟩
theorem oL_e {s : Nat} {μ ν : xM} (h : ∀ k j, 94 ≤ k → k ≤ 102 → ν.1 k j = μ.1 k j) : oL s μ ν := ⟨fun k j a b _ => h k j a (by omega), fun k j a b _ => h k j (by omega) (by omega), fun k j a b _ => h k j (by omega) (by omega)⟩
theorem uE_E {μ ν : xM} (h : uE μ ν) : ∀ k j, 94 ≤ k → k ≤ 102 → ν.1 k j = μ.1 k j := fun k j a b => by
  by_cases q : k ≤ 100
  · exact h.1.2.1 k j a q
  · have h3 : k = 101 ∨ k = 102 := by omega
    rcases h3 with rfl | rfl
    · exact h.2.1 j
    · exact h.2.2.1 j
theorem uE_tr {μ ν ω : xM} (h1 : uE μ ν) (h2 : uE ν ω) : uE μ ω := ⟨⟨h2.1.1, fun k j a b => (h2.1.2.1 k j a b).trans (h1.1.2.1 k j a b), h2.1.2.2.trans h1.1.2.2⟩, fun j => (h2.2.1 j).trans (h1.2.1 j), fun j => (h2.2.2.1 j).trans (h1.2.2.1 j), h2.2.2.2.trans h1.2.2.2⟩
theorem uE_rf {μ : xM} (hO : hOK μ) : uE μ μ := ⟨⟨hO, fun _ _ _ _ => rfl, rfl⟩, fun _ => rfl, fun _ => rfl, rfl⟩
theorem uE_i {μ ν : xM} {k j : Nat} {v : Int32} (h : uE μ ν) (hk : k = 91 ∨ k = 92 ∨ k = 93) : uE μ (xpi ν k j v) := ⟨⟨hOK_2 rfl h.1.1, fun c i a b => (xpi_ne (fun q => by omega)).trans (h.1.2.1 c i a b), (xpi_ne (fun q => by omega)).trans h.1.2.2⟩, fun j => (xpi_ne (fun q => by omega)).trans (h.2.1 j), fun j => (xpi_ne (fun q => by omega)).trans (h.2.2.1 j), (xpi_ne (fun q => by omega)).trans h.2.2.2⟩
theorem sg_c {ω m : xM} {lo hi hi' x y : Int} {C : List kOp} (h : sg ω lo hi x y C) (h0 : 0 ≤ lo) (h1 : ∀ (c j : Nat), 101 ≤ c → c ≤ 102 → lo ≤ (j : Int) → (j : Int) < hi → m.1 c j = ω.1 c j) (h2 : hi ≤ hi') : sg m lo hi' x y C := by
  obtain ⟨a, b, c, d⟩ := h
  refine ⟨a, by omega, c, fun i hi => ?_⟩
  rw [h1 101 _ (by decide) (by decide) (by omega) (by omega), h1 102 _ (by decide) (by decide) (by omega) (by omega)]
  exact d i hi
theorem brc_c {ω m : xM} {lo hi hi' : Int} {b : Nat} {X : List kOp × List kOp × List kOp} (h : brc ω lo hi b X) (e : ∀ k, 96 ≤ k → k ≤ 100 → m.1 k b = ω.1 k b) (h0 : 0 ≤ lo) (h1 : ∀ (c j : Nat), 101 ≤ c → c ≤ 102 → lo ≤ (j : Int) → (j : Int) < hi → m.1 c j = ω.1 c j) (h2 : hi ≤ hi') : brc m lo hi' b X := by
  unfold brc
  rw [e 96 (by decide) (by decide), e 97 (by decide) (by decide), e 98 (by decide) (by decide), e 99 (by decide) (by decide), e 100 (by decide) (by decide)]
  exact ⟨h.1, sg_c h.2.1 h0 h1 h2, sg_c h.2.2.1 h0 h1 h2, sg_c h.2.2.2 h0 h1 h2⟩
theorem rLw_c {ω m : xM} {lo hi hi' f l : Int} {L : kLw} (h : rLw ω lo hi f l L) (e : ∀ (k j : Nat), 96 ≤ k → k ≤ 100 → f ≤ (j : Int) → (j : Int) < l → m.1 k j = ω.1 k j) (h0 : 0 ≤ lo) (h1 : ∀ (c j : Nat), 101 ≤ c → c ≤ 102 → lo ≤ (j : Int) → (j : Int) < hi → m.1 c j = ω.1 c j) (h2 : hi ≤ hi') : rLw m lo hi' f l L := by
  obtain ⟨a, b, c, d, g⟩ := h
  refine ⟨a, b, fun i hi => brc_c (c i hi) (fun k x y => e k _ x y (by omega) (by omega)) h0 h1 h2, ?_, ?_⟩
  · rw [e 96 _ (by decide) (by decide) (by omega) (by omega)]; exact d
  · rw [e 99 _ (by decide) (by decide) (by omega) (by omega), e 100 _ (by decide) (by decide) (by omega) (by omega)]
    exact sg_c g h0 h1 h2
/-- a law stands where its cells stand -/
theorem rL1_c {s k : Nat} {hi hi' bh bh' : Int} {o : Option kLw} {ω m : xM} (h : rL1 s k hi bh o ω) (h9 : m.1 94 (4 * s + k) = ω.1 94 (4 * s + k) ∧ m.1 95 (4 * s + k) = ω.1 95 (4 * s + k)) (e : ¬ o = none → ∀ (c j : Nat), 96 ≤ c → c ≤ 100 → (j : Int) < (ω.1 95 (4 * s + k)).toInt → 130 * (s : Int) ≤ j → m.1 c j = ω.1 c j) (h1 : ∀ (c j : Nat), 101 ≤ c → c ≤ 102 → 420 * (s : Int) ≤ (j : Int) → (j : Int) < hi → m.1 c j = ω.1 c j) (h2 : hi ≤ hi') (h3 : bh ≤ bh') : rL1 s k hi' bh' o m := by
  cases o with
  | none =>
    show (m.1 94 _).toInt = (m.1 95 _).toInt
    rw [h9.1, h9.2]; exact h
  | some L =>
    obtain ⟨a, b, c⟩ := h
    show rLw m _ _ (m.1 94 _).toInt (m.1 95 _).toInt L ∧ 130 * (s : Int) ≤ (m.1 94 _).toInt ∧ (m.1 95 _).toInt ≤ _
    rw [h9.1, h9.2]
    exact ⟨rLw_c a (fun k j x y z w => e (by intro q; cases q) k j x y w (by omega)) (by omega) h1 h2, b, by omega⟩
theorem rLC_e {s : Nat} {hi hi' bh bh' : Int} {F : Nat → Option kLw} {ω m : xM} (h : rLC s hi bh F ω) (e : ∀ k j, 94 ≤ k → k ≤ 102 → m.1 k j = ω.1 k j) (h2 : hi ≤ hi') (h3 : bh ≤ bh') : rLC s hi' bh' F m := fun k hk => rL1_c (h k hk) ⟨e 94 _ (by decide) (by decide), e 95 _ (by decide) (by decide)⟩ (fun _ c j a b _ _ => e c j (by omega) (by omega)) (fun c j a b _ _ => e c j (by omega) (by omega)) h2 h3
/-- the other side's telling leaves the laws -/
theorem rLC_o {s t : Nat} {F : Nat → Option kLw} {ω m : xM} (h : rLC s (420 * s + 420) (130 * s + 130) F ω) (hst : ¬ s = t) (ho : oL t ω m) : rLC s (420 * s + 420) (130 * s + 130) F m := fun k hk => by
  obtain ⟨a, b, c⟩ := ho
  have h5 := h k hk
  refine rL1_c h5 ⟨a 94 _ (by decide) (by decide) (by omega), a 95 _ (by decide) (by decide) (by omega)⟩ (fun q w j x y z v => ?_) (fun w j x y z v => c w j x y (by omega)) (Int.le_refl _) (Int.le_refl _)
  cases hF : F k with
  | none => exact absurd hF q
  | some L =>
    rw [hF] at h5
    obtain ⟨-, -, h6⟩ := h5
    exact b w j x y (by omega)
/-- where the reference prints now -/
def rbd (s : Nat) (ω : xM) : Prop := (420 * (s : Int) ≤ rC9 ω ∧ rC9 ω ≤ 420 * (s : Int) + rT ω) ∧ 130 * (s : Int) ≤ rB ω ∧ 4 * (rB ω - 130 * (s : Int)) ≤ rT ω
/-- a telling, seen from the laws -/
def rzQ (s : Nat) (μ μ' : xM) : Prop := hOK μ' ∧ oL s μ μ' ∧ (rF μ' = 0 → (rbd s μ → rbd s μ') ∧ ∀ {lw : Int → kLw} {S : kSt}, (130 ≤ rK μ (rT μ) ∧ rK μ (rT μ) ≤ 133 → lw (rT μ + 2) = kLF (rK μ) (rVl μ) 4 (rT μ + 2)) → rbd s μ → rLC s (rC9 μ) (rB μ) S.2.2.2 μ → rLC s (rC9 μ') (rB μ') (kStep (rK μ) (rLt μ) (rVl μ) lw (rT μ) S).2.2.2 μ')
/-- a telling that is no law -/
theorem rzQ_u {s : Nat} {μ μ' : xM} (h : uE μ μ') (hT : rF μ' = 0 → rT μ ≤ rT μ') (hk : rF μ' = 0 → rK μ (rT μ) = 128 ∨ rK μ (rT μ) = 129 ∨ rK μ (rT μ) = 134 ∨ rK μ (rT μ) = 135 ∨ rK μ (rT μ) = 136) : rzQ s μ μ' := by
  have hE := uE_E h
  have e1 : rC9 μ' = rC9 μ := by unfold rC9; rw [h.2.2.2]
  have e2 : rB μ' = rB μ := by unfold rB; rw [h.1.2.2]
  refine ⟨h.1.1, oL_e hE, fun hz => ⟨fun hb => ?_, fun {lw S} _ _ hL => ?_⟩⟩
  · have := hT hz
    unfold rbd at *
    rw [e1, e2]
    omega
  · rw [kStep_nl (hk hz), e1, e2]
    exact rLC_e hL hE (Int.le_refl _) (Int.le_refl _)
theorem sg_lo {ω : xM} {lo lo' hi x y : Int} {C : List kOp} (h : sg ω lo hi x y C) (h0 : lo' ≤ lo) : sg ω lo' hi x y C := ⟨by have := h.1; omega, h.2⟩
theorem rLw_lo {ω : xM} {lo lo' hi f l : Int} {L : kLw} (h : rLw ω lo hi f l L) (h0 : lo' ≤ lo) : rLw ω lo' hi f l L := ⟨h.1, h.2.1, fun i hi => ⟨(h.2.2.1 i hi).1, sg_lo (h.2.2.1 i hi).2.1 h0, sg_lo (h.2.2.1 i hi).2.2.1 h0, sg_lo (h.2.2.1 i hi).2.2.2 h0⟩, h.2.2.2.1, sg_lo h.2.2.2.2 h0⟩
/-- a law -/
theorem rzQ_l {s : Nat} {l0 : Int32} {μ ν μ' : xM} (hs : rSd μ = (s : Int)) (hs1 : s ≤ 1) (hb0 : rbd s μ) (hT4 : rT μ ≤ 400) (h1 : pM μ ν) (h2 : rlZ l0 ν μ') (hl : l0.toInt = rK μ (rT μ) - 130) (hk : 130 ≤ rK μ (rT μ) ∧ rK μ (rT μ) ≤ 133) (hk0 : rF μ = 0) (hz0 : 0 < rF ν → ¬ rF μ' = 0) : rzQ s μ μ' := by
  obtain ⟨⟨u, e1⟩, p3, p4⟩ := h1
  obtain ⟨⟨z1, z2, z3⟩, z4, z5, ⟨z6, z7, z8, z9⟩, ⟨z10, z11⟩, z12, z13⟩ := h2
  have hE := uE_E u
  have c1 : rC9 ν = rC9 μ := uE_C u
  have c2 : rB ν = rB μ := by unfold rB; rw [u.1.2.2]
  have t1 : rT ν = rT μ ∨ rT ν = rT μ + 1 := by rcases p4 with ⟨a, -⟩ | ⟨a, -⟩ <;> omega
  obtain ⟨⟨b1, b2⟩, b3, b4⟩ := hb0
  have s32 : (ν.1 75 32).toInt = (s : Int) := by
    have := e1.2.1 32 (by decide) (by decide) (by decide) (by decide) (by decide) (by decide) (by decide)
    rw [this]; exact hs
  have o94 : ∀ j : Nat, (j < 4 * s ∨ 4 * s + 4 ≤ j) → μ'.1 94 j = ν.1 94 j ∧ μ'.1 95 j = ν.1 95 j := fun j hj => by
    by_cases q : rF μ' = 0
    · obtain ⟨-, ⟨x, x1, x2, -, -⟩, -⟩ := z13 q
      exact x2 j (by omega)
    · exact z12 q j
  have hoL : oL s μ μ' := by
    refine ⟨fun c j a b h => ?_, fun c j a b h => ?_, fun c j a b h => ?_⟩
    · have h3 : c = 94 ∨ c = 95 := by omega
      rcases h3 with rfl | rfl
      · exact (o94 j h).1.trans (hE 94 j (by decide) (by decide))
      · exact (o94 j h).2.trans (hE 95 j (by decide) (by decide))
    · exact (z4 c j a b (by omega)).trans (hE c j (by omega) (by omega))
    · have h3 : c = 101 ∨ c = 102 := by omega
      have h4 := z5 j (by
        have y1 : (ν.1 75 49).toInt = rC9 μ := c1
        have y2 : (μ'.1 75 49).toInt = rC9 μ' := rfl
        rw [y1, y2]
        omega)
      rcases h3 with rfl | rfl
      · exact h4.1.trans (hE 101 j (by decide) (by decide))
      · exact h4.2.trans (hE 102 j (by decide) (by decide))
  refine ⟨z1, hoL, fun hz => ?_⟩
  obtain ⟨⟨y1, y2, y3⟩, ⟨x, x1, x2, x3, x4⟩, y5⟩ := z13 hz
  have hν : rT ν = rT μ + 1 := by
    rcases p4 with ⟨a, b⟩ | ⟨a, b⟩
    · exfalso
      exact hz0 b hz
    · exact a
  refine ⟨fun _ => ⟨⟨by omega, by omega⟩, by omega, by omega⟩, fun {lw S} hlw _ hL => ?_⟩
  rw [kStep_lw hk]
  intro c hc
  by_cases q : (c : Int) = rK μ (rT μ) - 130
  · show rL1 s c (rC9 μ') (rB μ') (if (c : Int) = rK μ (rT μ) - 130 then some (lw (rT μ + 2)) else S.2.2.2 c) μ'
    rw [if_pos q, hlw hk]
    have ex : 4 * s + c = x := by omega
    show rLw μ' (420 * s) (rC9 μ') (μ'.1 94 (4 * s + c)).toInt (μ'.1 95 (4 * s + c)).toInt (kLF (rK μ) (rVl μ) 4 (rT μ + 2)) ∧ 130 * (s : Int) ≤ (μ'.1 94 (4 * s + c)).toInt ∧ (μ'.1 95 (4 * s + c)).toInt ≤ rB μ'
    rw [ex, x3, x4]
    rw [rE_K e1, rE_Vl e1, hν, show rT μ + 1 + 1 = rT μ + 2 by omega] at y5
    refine ⟨rLw_lo y5 (by omega), by omega, by omega⟩
  · show rL1 s c (rC9 μ') (rB μ') (if (c : Int) = rK μ (rT μ) - 130 then some (lw (rT μ + 2)) else S.2.2.2 c) μ'
    rw [if_neg q]
    have h6 := hL c hc
    have hx := x2 (4 * s + c) (by omega)
    have h7 : ¬ S.2.2.2 c = none → (μ.1 95 (4 * s + c)).toInt ≤ rB μ := fun q3 => by
      cases hS : S.2.2.2 c with
      | none => exact absurd hS q3
      | some L =>
        rw [hS] at h6
        exact h6.2.2
    refine rL1_c h6 ⟨hx.1.trans (hE 94 _ (by decide) (by decide)), hx.2.trans (hE 95 _ (by decide) (by decide))⟩ (fun q2 w j a b h h' => ?_) (fun w j a b h h' => ?_) (by omega) (by omega)
    · have h8 := h7 q2
      exact (z4 w j a b (by omega)).trans (hE w j (by omega) (by omega))
    · have h4 := z5 j (Or.inl (by
        have y1 : (ν.1 75 49).toInt = rC9 μ := c1
        rw [y1]; exact h'))
      have h3 : w = 101 ∨ w = 102 := by omega
      rcases h3 with rfl | rfl
      · exact h4.1.trans (hE 101 j (by decide) (by decide))
      · exact h4.2.trans (hE 102 j (by decide) (by decide))
set_option maxRecDepth 10000 in
set_option maxHeartbeats 4000000 in
theorem rz1_house {m : Int} {s : Nat} {μ μ' : xM} {r : Option zV} (h0 : Ex gx xq_219 [.inr (.inl (some 75))] μ r μ') (hI : qzI m μ) (hf : rF μ = 0) (hO : hOK μ) (hs : rSd μ = (s : Int)) (hs1 : s ≤ 1) (hb0 : rbd s μ) (hB0 : 0 ≤ rC9 μ ∧ 0 ≤ rB μ) (hT : rF μ' = 0 → rT μ ≤ rT μ') (hk : rK μ (rT μ) = 128) : rzQ s μ μ' := by
  obtain ⟨n, h⟩ := tx_in (L := [some (.inr (.inl (some 75))), none]) h0 rfl
  have hx : (μ.1 78 (μ.1 75 25).toInt.toNat).toInt = 20 := by have h8 := kmp_h (x := (μ.1 78 (μ.1 75 25).toInt.toNat).toInt) (by show 128 ≤ rK μ (rT μ); omega); have h9 : kmp (μ.1 78 (μ.1 75 25).toInt.toNat).toInt = 128 := hk; omega
  replace h := tx_aload_n (p' := 1) h em219_0 rfl rfl
  replace h := tx_getc (c := 12) (j := 19) (p' := 4) h em219_1 ((congrFun xo_12 20).trans rfl) rfl rfl rfl
  replace h := tx_aload_n (p' := 5) h em219_4 rfl rfl
  replace h := tx_getf (c := 12) (j := 25) (p' := 8) h em219_5 ((congrFun xo_12 203).trans rfl) rfl rfl (by decide) rfl
  obtain ⟨hb8, h⟩ := tx_iald (len := 403) (p' := 9) h em219_8 rfl rfl
  replace hb8 : (0 : Int) ≤ (μ.1 75 25).toInt ∧ (μ.1 75 25).toInt < 403 := hb8
  obtain ⟨t9, ht9, h⟩ := tx_tsw h em219_9
  have e9 : t9 = 60 := by
    have := tsw_k ht9 (k := 0) (off := 51) rfl (by omega) (by omega)
    omega
  subst e9
  replace h : eT xq_219 _ 60 [some (.inr (.inl (some 75))), none] [] μ r μ' := h
  replace h := tx_aload_n (p' := 61) h em219_60 rfl rfl
  replace h := tx_aload_n (p' := 62) h em219_61 rfl rfl
  replace h := tx_getc (c := 12) (j := 3) (p' := 65) h em219_62 ((congrFun xo_12 43).trans rfl) rfl rfl rfl
  replace h := tx_aload_n (p' := 66) h em219_65 rfl rfl
  replace h := tx_getf (c := 12) (j := 32) (p' := 69) h em219_66 ((congrFun xo_12 233).trans rfl) rfl rfl (by decide) rfl
  obtain ⟨hb69, h⟩ := tx_iald (len := 2) (p' := 70) h em219_69 rfl rfl
  replace hb69 : (0 : Int) ≤ (μ.1 75 32).toInt ∧ (μ.1 75 32).toInt < 2 := hb69
  replace h := tx_iconst (v := 5) (p' := 71) h em219_70 (by decide +kernel) rfl
  obtain ⟨r71, μ71, hE71, h⟩ := tx_invV (na := 3) (mn := 183) (as := [.inr (.inl (some 75)), .inl (μ.1 84 (μ.1 75 32).toInt.toNat), .inl (5 : Int32)]) (rest := []) (p' := 74) h em219_71 ((congrFun xo_12 261).trans rfl) xm_183 rfl rfl
  have hu71 := uE_tr (uE_rf hO) (uE_w (μ := μ) (by decide +kernel) (hf_183_0 hE71 (hEn0 (by decide)) hO).2 hO)
  have er71 := ex_void [0, 1, 2, 5, 6, 7, 10, 11, 14, 17, 18, 21, 22] (by decide +kernel) hE71
  subst er71
  replace h : eT xq_219 _ 74 [some (.inr (.inl (some 75))), none] [] μ71 r μ' := h
  replace h := tx_aload_n (p' := 75) h em219_74 rfl rfl
  replace h := tx_getf (c := 12) (j := 27) (p' := 78) h em219_75 ((congrFun xo_12 200).trans rfl) rfl rfl (by decide) rfl
  rcases tx_if (t := 228) (p' := 81) h em219_78 (by decide) rfl with ⟨c78, h⟩ | ⟨c78, h⟩
  · replace c78 : ¬ (μ71.1 75 27).toInt = 0 := c78
    obtain ⟨rfl, hμ⟩ := tx_return h em219_228
    rw [hμ] at hT ⊢
    exact rzQ_u hu71 hT (fun _ => by omega)
  · replace c78 : ¬ ¬ (μ71.1 75 27).toInt = 0 := c78
    replace h := tx_aload_n (p' := 82) h em219_81 rfl rfl
    obtain ⟨r82, μ82, hE82, h⟩ := tx_invV (na := 1) (mn := 224) (as := [.inr (.inl (some 75))]) (rest := []) (p' := 85) h em219_82 ((congrFun xo_12 265).trans rfl) xm_224 rfl rfl
    have hu82 := uE_tr (hu71) (uE_w (μ := μ71) (by decide +kernel) (hf_224_0 hE82 (hEn0 (by decide)) hu71.1.1).2 hu71.1.1)
    have er82 := ex_void [0, 2, 3, 6, 7, 9, 10, 13, 14, 17, 18, 19, 20, 21, 22, 25, 26, 27, 30, 31, 32, 33, 35, 38, 39, 42, 43, 44, 45, 46, 47, 50, 53, 54, 55, 56, 57, 60, 63, 64, 67, 68, 69, 72, 73, 74, 75, 76, 77, 78, 79, 80, 83, 86, 87, 88, 91, 92, 95, 98, 99, 102, 103, 106, 107, 108, 109, 110, 111, 112] (by decide +kernel) hE82
    subst er82
    replace h : eT xq_219 _ 85 [some (.inr (.inl (some 75))), none] [] μ82 r μ' := h
    replace h := tx_goto (t := 228) h em219_85 (by decide)
    obtain ⟨rfl, hμ⟩ := tx_return h em219_228
    rw [hμ] at hT ⊢
    exact rzQ_u hu82 hT (fun _ => by omega)
set_option maxRecDepth 10000 in
set_option maxHeartbeats 4000000 in
theorem rz1_verse {m : Int} {s : Nat} {μ μ' : xM} {r : Option zV} (h0 : Ex gx xq_219 [.inr (.inl (some 75))] μ r μ') (hI : qzI m μ) (hf : rF μ = 0) (hO : hOK μ) (hs : rSd μ = (s : Int)) (hs1 : s ≤ 1) (hb0 : rbd s μ) (hB0 : 0 ≤ rC9 μ ∧ 0 ≤ rB μ) (hT : rF μ' = 0 → rT μ ≤ rT μ') (hk : rK μ (rT μ) = 129) : rzQ s μ μ' := by
  obtain ⟨n, h⟩ := tx_in (L := [some (.inr (.inl (some 75))), none]) h0 rfl
  have hx : (μ.1 78 (μ.1 75 25).toInt.toNat).toInt = 21 := by have h8 := kmp_h (x := (μ.1 78 (μ.1 75 25).toInt.toNat).toInt) (by show 128 ≤ rK μ (rT μ); omega); have h9 : kmp (μ.1 78 (μ.1 75 25).toInt.toNat).toInt = 129 := hk; omega
  replace h := tx_aload_n (p' := 1) h em219_0 rfl rfl
  replace h := tx_getc (c := 12) (j := 19) (p' := 4) h em219_1 ((congrFun xo_12 20).trans rfl) rfl rfl rfl
  replace h := tx_aload_n (p' := 5) h em219_4 rfl rfl
  replace h := tx_getf (c := 12) (j := 25) (p' := 8) h em219_5 ((congrFun xo_12 203).trans rfl) rfl rfl (by decide) rfl
  obtain ⟨hb8, h⟩ := tx_iald (len := 403) (p' := 9) h em219_8 rfl rfl
  replace hb8 : (0 : Int) ≤ (μ.1 75 25).toInt ∧ (μ.1 75 25).toInt < 403 := hb8
  obtain ⟨t9, ht9, h⟩ := tx_tsw h em219_9
  have e9 : t9 = 88 := by
    have := tsw_k ht9 (k := 1) (off := 79) rfl (by omega) (by omega)
    omega
  subst e9
  replace h : eT xq_219 _ 88 [some (.inr (.inl (some 75))), none] [] μ r μ' := h
  replace h := tx_aload_n (p' := 89) h em219_88 rfl rfl
  replace h := tx_aload_n (p' := 90) h em219_89 rfl rfl
  replace h := tx_getc (c := 12) (j := 4) (p' := 93) h em219_90 ((congrFun xo_12 49).trans rfl) rfl rfl rfl
  replace h := tx_aload_n (p' := 94) h em219_93 rfl rfl
  replace h := tx_getf (c := 12) (j := 32) (p' := 97) h em219_94 ((congrFun xo_12 233).trans rfl) rfl rfl (by decide) rfl
  obtain ⟨hb97, h⟩ := tx_iald (len := 2) (p' := 98) h em219_97 rfl rfl
  replace hb97 : (0 : Int) ≤ (μ.1 75 32).toInt ∧ (μ.1 75 32).toInt < 2 := hb97
  replace h := tx_bipush (v := 7) (p' := 100) h em219_98 (by decide +kernel) rfl
  obtain ⟨r100, μ100, hE100, h⟩ := tx_invV (na := 3) (mn := 183) (as := [.inr (.inl (some 75)), .inl (μ.1 86 (μ.1 75 32).toInt.toNat), .inl (7 : Int32)]) (rest := []) (p' := 103) h em219_100 ((congrFun xo_12 261).trans rfl) xm_183 rfl rfl
  have hu100 := uE_tr (uE_rf hO) (uE_w (μ := μ) (by decide +kernel) (hf_183_0 hE100 (hEn0 (by decide)) hO).2 hO)
  have er100 := ex_void [0, 1, 2, 5, 6, 7, 10, 11, 14, 17, 18, 21, 22] (by decide +kernel) hE100
  subst er100
  replace h : eT xq_219 _ 103 [some (.inr (.inl (some 75))), none] [] μ100 r μ' := h
  replace h := tx_aload_n (p' := 104) h em219_103 rfl rfl
  replace h := tx_getf (c := 12) (j := 27) (p' := 107) h em219_104 ((congrFun xo_12 200).trans rfl) rfl rfl (by decide) rfl
  rcases tx_if (t := 228) (p' := 110) h em219_107 (by decide) rfl with ⟨c107, h⟩ | ⟨c107, h⟩
  · replace c107 : ¬ (μ100.1 75 27).toInt = 0 := c107
    obtain ⟨rfl, hμ⟩ := tx_return h em219_228
    rw [hμ] at hT ⊢
    exact rzQ_u hu100 hT (fun _ => by omega)
  · replace c107 : ¬ ¬ (μ100.1 75 27).toInt = 0 := c107
    replace h := tx_aload_n (p' := 111) h em219_110 rfl rfl
    obtain ⟨r111, μ111, hE111, h⟩ := tx_invV (na := 1) (mn := 225) (as := [.inr (.inl (some 75))]) (rest := []) (p' := 114) h em219_111 ((congrFun xo_12 268).trans rfl) xm_225 rfl rfl
    have hu111 := uE_tr (hu100) (uE_w (μ := μ100) (by decide +kernel) (hf_225_0 hE111 (hEn0 (by decide)) hu100.1.1).2 hu100.1.1)
    have er111 := ex_void [0, 2, 3, 6, 7, 8, 11, 12, 15, 16, 17, 18, 19, 22, 23, 24, 27, 28, 31, 32, 33, 36, 37, 38, 39, 40, 41, 44, 47, 48, 51, 53, 54, 55, 56, 57, 58, 61, 62, 63, 64, 67, 70, 71, 74, 75, 76, 77, 79, 82, 83, 84, 87, 88, 89, 90, 92, 95, 96, 97, 98, 101, 102, 105, 108, 109, 112, 113, 116, 117, 118, 119, 120, 121, 122] (by decide +kernel) hE111
    subst er111
    replace h : eT xq_219 _ 114 [some (.inr (.inl (some 75))), none] [] μ111 r μ' := h
    replace h := tx_goto (t := 228) h em219_114 (by decide)
    obtain ⟨rfl, hμ⟩ := tx_return h em219_228
    rw [hμ] at hT ⊢
    exact rzQ_u hu111 hT (fun _ => by omega)
set_option maxRecDepth 10000 in
set_option maxHeartbeats 4000000 in
theorem rz1_spoils {m : Int} {s : Nat} {μ μ' : xM} {r : Option zV} (h0 : Ex gx xq_219 [.inr (.inl (some 75))] μ r μ') (hI : qzI m μ) (hf : rF μ = 0) (hO : hOK μ) (hs : rSd μ = (s : Int)) (hs1 : s ≤ 1) (hb0 : rbd s μ) (hB0 : 0 ≤ rC9 μ ∧ 0 ≤ rB μ) (hT : rF μ' = 0 → rT μ ≤ rT μ') (hk : rK μ (rT μ) = 134) : rzQ s μ μ' := by
  obtain ⟨n, h⟩ := tx_in (L := [some (.inr (.inl (some 75))), none]) h0 rfl
  have hx : (μ.1 78 (μ.1 75 25).toInt.toNat).toInt = 26 := by have h8 := kmp_h (x := (μ.1 78 (μ.1 75 25).toInt.toNat).toInt) (by show 128 ≤ rK μ (rT μ); omega); have h9 : kmp (μ.1 78 (μ.1 75 25).toInt.toNat).toInt = 134 := hk; omega
  replace h := tx_aload_n (p' := 1) h em219_0 rfl rfl
  replace h := tx_getc (c := 12) (j := 19) (p' := 4) h em219_1 ((congrFun xo_12 20).trans rfl) rfl rfl rfl
  replace h := tx_aload_n (p' := 5) h em219_4 rfl rfl
  replace h := tx_getf (c := 12) (j := 25) (p' := 8) h em219_5 ((congrFun xo_12 203).trans rfl) rfl rfl (by decide) rfl
  obtain ⟨hb8, h⟩ := tx_iald (len := 403) (p' := 9) h em219_8 rfl rfl
  replace hb8 : (0 : Int) ≤ (μ.1 75 25).toInt ∧ (μ.1 75 25).toInt < 403 := hb8
  obtain ⟨t9, ht9, h⟩ := tx_tsw h em219_9
  have e9 : t9 = 117 := by
    have := tsw_k ht9 (k := 6) (off := 108) rfl (by omega) (by omega)
    omega
  subst e9
  replace h : eT xq_219 _ 117 [some (.inr (.inl (some 75))), none] [] μ r μ' := h
  replace h := tx_aload_n (p' := 118) h em219_117 rfl rfl
  replace h := tx_getc (c := 12) (j := 40) (p' := 121) h em219_118 ((congrFun xo_12 64).trans rfl) rfl rfl rfl
  replace h := tx_aload_n (p' := 122) h em219_121 rfl rfl
  replace h := tx_getf (c := 12) (j := 32) (p' := 125) h em219_122 ((congrFun xo_12 233).trans rfl) rfl rfl (by decide) rfl
  replace h := tx_aload_n (p' := 126) h em219_125 rfl rfl
  replace h := tx_iconst (v := 1) (p' := 127) h em219_126 (by decide +kernel) rfl
  replace h := tx_bipush (v := 99) (p' := 129) h em219_127 (by decide +kernel) rfl
  obtain ⟨r129, μ129, hE129, h⟩ := tx_invV (na := 3) (mn := 192) (as := [.inr (.inl (some 75)), .inl (1 : Int32), .inl (99 : Int32)]) (rest := [.inl (μ.1 75 32), .inr (.inl (some 91))]) (p' := 132) h em219_129 ((congrFun xo_12 271).trans rfl) xm_192 rfl rfl
  have hu129 := uE_w (μ := μ) (by decide +kernel) (hf_192_0 hE129 (hEn0 (by decide)) hO).2 hO
  obtain ⟨v, rfl, hq⟩ := qz_toldInt hE129 hI (fun _ => by omega)
  replace h : eT xq_219 _ 132 [some (.inr (.inl (some 75))), none] [.inl v, .inl (μ.1 75 32), .inr (.inl (some 91))] μ129 r μ' := h
  obtain ⟨hb132, h⟩ := tx_iast (len := 2) (p' := 133) h em219_132 rfl rfl
  replace hb132 : (0 : Int) ≤ (μ.1 75 32).toInt ∧ (μ.1 75 32).toInt < 2 := hb132
  replace h := tx_goto (t := 228) h em219_133 (by decide)
  obtain ⟨rfl, hμ⟩ := tx_return h em219_228
  rw [hμ] at hT ⊢
  exact rzQ_u (uE_i hu129 (by decide)) hT (fun _ => by omega)
set_option maxRecDepth 10000 in
set_option maxHeartbeats 4000000 in
theorem rz1_thieves {m : Int} {s : Nat} {μ μ' : xM} {r : Option zV} (h0 : Ex gx xq_219 [.inr (.inl (some 75))] μ r μ') (hI : qzI m μ) (hf : rF μ = 0) (hO : hOK μ) (hs : rSd μ = (s : Int)) (hs1 : s ≤ 1) (hb0 : rbd s μ) (hB0 : 0 ≤ rC9 μ ∧ 0 ≤ rB μ) (hT : rF μ' = 0 → rT μ ≤ rT μ') (hk : rK μ (rT μ) = 135) : rzQ s μ μ' := by
  obtain ⟨n, h⟩ := tx_in (L := [some (.inr (.inl (some 75))), none]) h0 rfl
  have hx : (μ.1 78 (μ.1 75 25).toInt.toNat).toInt = 27 := by have h8 := kmp_h (x := (μ.1 78 (μ.1 75 25).toInt.toNat).toInt) (by show 128 ≤ rK μ (rT μ); omega); have h9 : kmp (μ.1 78 (μ.1 75 25).toInt.toNat).toInt = 135 := hk; omega
  replace h := tx_aload_n (p' := 1) h em219_0 rfl rfl
  replace h := tx_getc (c := 12) (j := 19) (p' := 4) h em219_1 ((congrFun xo_12 20).trans rfl) rfl rfl rfl
  replace h := tx_aload_n (p' := 5) h em219_4 rfl rfl
  replace h := tx_getf (c := 12) (j := 25) (p' := 8) h em219_5 ((congrFun xo_12 203).trans rfl) rfl rfl (by decide) rfl
  obtain ⟨hb8, h⟩ := tx_iald (len := 403) (p' := 9) h em219_8 rfl rfl
  replace hb8 : (0 : Int) ≤ (μ.1 75 25).toInt ∧ (μ.1 75 25).toInt < 403 := hb8
  obtain ⟨t9, ht9, h⟩ := tx_tsw h em219_9
  have e9 : t9 = 136 := by
    have := tsw_k ht9 (k := 7) (off := 127) rfl (by omega) (by omega)
    omega
  subst e9
  replace h : eT xq_219 _ 136 [some (.inr (.inl (some 75))), none] [] μ r μ' := h
  replace h := tx_aload_n (p' := 137) h em219_136 rfl rfl
  replace h := tx_getc (c := 12) (j := 9) (p' := 140) h em219_137 ((congrFun xo_12 67).trans rfl) rfl rfl rfl
  replace h := tx_aload_n (p' := 141) h em219_140 rfl rfl
  replace h := tx_getf (c := 12) (j := 32) (p' := 144) h em219_141 ((congrFun xo_12 233).trans rfl) rfl rfl (by decide) rfl
  replace h := tx_aload_n (p' := 145) h em219_144 rfl rfl
  replace h := tx_iconst (v := 0) (p' := 146) h em219_145 (by decide +kernel) rfl
  replace h := tx_bipush (v := 100) (p' := 148) h em219_146 (by decide +kernel) rfl
  obtain ⟨r148, μ148, hE148, h⟩ := tx_invV (na := 3) (mn := 192) (as := [.inr (.inl (some 75)), .inl (0 : Int32), .inl (100 : Int32)]) (rest := [.inl (μ.1 75 32), .inr (.inl (some 92))]) (p' := 151) h em219_148 ((congrFun xo_12 271).trans rfl) xm_192 rfl rfl
  have hu148 := uE_w (μ := μ) (by decide +kernel) (hf_192_0 hE148 (hEn0 (by decide)) hO).2 hO
  obtain ⟨v, rfl, hq⟩ := qz_toldInt hE148 hI (fun _ => by omega)
  replace h : eT xq_219 _ 151 [some (.inr (.inl (some 75))), none] [.inl v, .inl (μ.1 75 32), .inr (.inl (some 92))] μ148 r μ' := h
  obtain ⟨hb151, h⟩ := tx_iast (len := 2) (p' := 152) h em219_151 rfl rfl
  replace hb151 : (0 : Int) ≤ (μ.1 75 32).toInt ∧ (μ.1 75 32).toInt < 2 := hb151
  replace h := tx_goto (t := 228) h em219_152 (by decide)
  obtain ⟨rfl, hμ⟩ := tx_return h em219_228
  rw [hμ] at hT ⊢
  exact rzQ_u (uE_i hu148 (by decide)) hT (fun _ => by omega)
set_option maxRecDepth 10000 in
set_option maxHeartbeats 4000000 in
theorem rz1_seed {m : Int} {s : Nat} {μ μ' : xM} {r : Option zV} (h0 : Ex gx xq_219 [.inr (.inl (some 75))] μ r μ') (hI : qzI m μ) (hf : rF μ = 0) (hO : hOK μ) (hs : rSd μ = (s : Int)) (hs1 : s ≤ 1) (hb0 : rbd s μ) (hB0 : 0 ≤ rC9 μ ∧ 0 ≤ rB μ) (hT : rF μ' = 0 → rT μ ≤ rT μ') (hk : rK μ (rT μ) = 136) : rzQ s μ μ' := by
  obtain ⟨n, h⟩ := tx_in (L := [some (.inr (.inl (some 75))), none]) h0 rfl
  have hx : (μ.1 78 (μ.1 75 25).toInt.toNat).toInt = 28 := by have h8 := kmp_h (x := (μ.1 78 (μ.1 75 25).toInt.toNat).toInt) (by show 128 ≤ rK μ (rT μ); omega); have h9 : kmp (μ.1 78 (μ.1 75 25).toInt.toNat).toInt = 136 := hk; omega
  replace h := tx_aload_n (p' := 1) h em219_0 rfl rfl
  replace h := tx_getc (c := 12) (j := 19) (p' := 4) h em219_1 ((congrFun xo_12 20).trans rfl) rfl rfl rfl
  replace h := tx_aload_n (p' := 5) h em219_4 rfl rfl
  replace h := tx_getf (c := 12) (j := 25) (p' := 8) h em219_5 ((congrFun xo_12 203).trans rfl) rfl rfl (by decide) rfl
  obtain ⟨hb8, h⟩ := tx_iald (len := 403) (p' := 9) h em219_8 rfl rfl
  replace hb8 : (0 : Int) ≤ (μ.1 75 25).toInt ∧ (μ.1 75 25).toInt < 403 := hb8
  obtain ⟨t9, ht9, h⟩ := tx_tsw h em219_9
  have e9 : t9 = 155 := by
    have := tsw_k ht9 (k := 8) (off := 146) rfl (by omega) (by omega)
    omega
  subst e9
  replace h : eT xq_219 _ 155 [some (.inr (.inl (some 75))), none] [] μ r μ' := h
  replace h := tx_aload_n (p' := 156) h em219_155 rfl rfl
  replace h := tx_getc (c := 12) (j := 5) (p' := 159) h em219_156 ((congrFun xo_12 70).trans rfl) rfl rfl rfl
  replace h := tx_aload_n (p' := 160) h em219_159 rfl rfl
  replace h := tx_getf (c := 12) (j := 32) (p' := 163) h em219_160 ((congrFun xo_12 233).trans rfl) rfl rfl (by decide) rfl
  replace h := tx_aload_n (p' := 164) h em219_163 rfl rfl
  replace h := tx_iconst (v := 0) (p' := 165) h em219_164 (by decide +kernel) rfl
  replace h := tx_sipush (v := 9999) (p' := 168) h em219_165 (by decide +kernel) rfl
  obtain ⟨r168, μ168, hE168, h⟩ := tx_invV (na := 3) (mn := 192) (as := [.inr (.inl (some 75)), .inl (0 : Int32), .inl (9999 : Int32)]) (rest := [.inl (μ.1 75 32), .inr (.inl (some 93))]) (p' := 171) h em219_168 ((congrFun xo_12 271).trans rfl) xm_192 rfl rfl
  have hu168 := uE_w (μ := μ) (by decide +kernel) (hf_192_0 hE168 (hEn0 (by decide)) hO).2 hO
  obtain ⟨v, rfl, hq⟩ := qz_toldInt hE168 hI (fun _ => by omega)
  replace h : eT xq_219 _ 171 [some (.inr (.inl (some 75))), none] [.inl v, .inl (μ.1 75 32), .inr (.inl (some 93))] μ168 r μ' := h
  obtain ⟨hb171, h⟩ := tx_iast (len := 2) (p' := 172) h em219_171 rfl rfl
  replace hb171 : (0 : Int) ≤ (μ.1 75 32).toInt ∧ (μ.1 75 32).toInt < 2 := hb171
  replace h := tx_goto (t := 228) h em219_172 (by decide)
  obtain ⟨rfl, hμ⟩ := tx_return h em219_228
  rw [hμ] at hT ⊢
  exact rzQ_u (uE_i hu168 (by decide)) hT (fun _ => by omega)
set_option maxRecDepth 10000 in
set_option maxHeartbeats 4000000 in
theorem rz1_else {m : Int} {s : Nat} {μ μ' : xM} {r : Option zV} (h0 : Ex gx xq_219 [.inr (.inl (some 75))] μ r μ') (hI : qzI m μ) (hf : rF μ = 0) (hO : hOK μ) (hs : rSd μ = (s : Int)) (hs1 : s ≤ 1) (hb0 : rbd s μ) (hB0 : 0 ≤ rC9 μ ∧ 0 ≤ rB μ) (hT : rF μ' = 0 → rT μ ≤ rT μ') (hx : (μ.1 78 (μ.1 75 25).toInt.toNat).toInt < 20 ∨ 28 < (μ.1 78 (μ.1 75 25).toInt.toNat).toInt) (hx0 : 0 ≤ (μ.1 78 (μ.1 75 25).toInt.toNat).toInt) : rzQ s μ μ' := by
  obtain ⟨n, h⟩ := tx_in (L := [some (.inr (.inl (some 75))), none]) h0 rfl
  replace h := tx_aload_n (p' := 1) h em219_0 rfl rfl
  replace h := tx_getc (c := 12) (j := 19) (p' := 4) h em219_1 ((congrFun xo_12 20).trans rfl) rfl rfl rfl
  replace h := tx_aload_n (p' := 5) h em219_4 rfl rfl
  replace h := tx_getf (c := 12) (j := 25) (p' := 8) h em219_5 ((congrFun xo_12 203).trans rfl) rfl rfl (by decide) rfl
  obtain ⟨hb8, h⟩ := tx_iald (len := 403) (p' := 9) h em219_8 rfl rfl
  replace hb8 : (0 : Int) ≤ (μ.1 75 25).toInt ∧ (μ.1 75 25).toInt < 403 := hb8
  obtain ⟨t9, ht9, h⟩ := tx_tsw h em219_9
  have e9 : t9 = 175 := by
    have := tsw_d ht9 (by decide) (by omega)
    omega
  subst e9
  replace h : eT xq_219 _ 175 [some (.inr (.inl (some 75))), none] [] μ r μ' := h
  replace h := tx_aload_n (p' := 176) h em219_175 rfl rfl
  replace h := tx_getc (c := 12) (j := 19) (p' := 179) h em219_176 ((congrFun xo_12 20).trans rfl) rfl rfl rfl
  replace h := tx_aload_n (p' := 180) h em219_179 rfl rfl
  replace h := tx_getf (c := 12) (j := 25) (p' := 183) h em219_180 ((congrFun xo_12 203).trans rfl) rfl rfl (by decide) rfl
  obtain ⟨hb183, h⟩ := tx_iald (len := 403) (p' := 184) h em219_183 rfl rfl
  replace hb183 : (0 : Int) ≤ (μ.1 75 25).toInt ∧ (μ.1 75 25).toInt < 403 := hb183
  replace h := tx_bipush (v := 22) (p' := 186) h em219_184 (by decide +kernel) rfl
  replace h := tx_isub (p' := 187) h em219_186 rfl
  replace h := tx_istore_n (p' := 188) h em219_187 rfl
  replace h : eT xq_219 _ 188 [some (.inr (.inl (some 75))), some (.inl ((μ.1 78 (μ.1 75 25).toInt.toNat) - (22 : Int32)))] [] μ r μ' := h
  replace h := tx_iload_n (p' := 189) h em219_188 rfl rfl
  rcases tx_if (t := 206) (p' := 192) h em219_189 (by decide) rfl with ⟨c189, h⟩ | ⟨c189, h⟩
  · replace c189 : ((μ.1 78 (μ.1 75 25).toInt.toNat) - (22 : Int32)).toInt < 0 := c189
    replace h := tx_aload_n (p' := 207) h em219_206 rfl rfl
    replace h := tx_iconst (v := 1) (p' := 208) h em219_207 (by decide +kernel) rfl
    obtain ⟨r208, μ208, hE208, h⟩ := tx_invV (na := 2) (mn := 133) (as := [.inr (.inl (some 75)), .inl (1 : Int32)]) (rest := []) (p' := 211) h em219_208 ((congrFun xo_12 215).trans rfl) xm_133 rfl rfl
    have hu208 := uE_w (μ := μ) (by decide +kernel) (hf_133_0 hE208 (hEn0 (by decide)) hO).2 hO
    have hz208 := ex_fl3 hE208 (by decide)
    obtain ⟨rfl, -⟩ := st_fail (f0 := 1) hE208 (by decide) (by decide)
    replace h : eT xq_219 _ 211 [some (.inr (.inl (some 75))), some (.inl ((μ.1 78 (μ.1 75 25).toInt.toNat) - (22 : Int32)))] [] μ208 r μ' := h
    replace h := tx_aload_n (p' := 212) h em219_211 rfl rfl
    replace h := tx_getf (c := 12) (j := 27) (p' := 215) h em219_212 ((congrFun xo_12 200).trans rfl) rfl rfl (by decide) rfl
    rcases tx_if (t := 219) (p' := 218) h em219_215 (by decide) rfl with ⟨c215, h⟩ | ⟨c215, h⟩
    · replace c215 : (μ208.1 75 27).toInt ≤ 0 := c215
      exfalso
      have := hz208.2.1
      unfold rF at this
      omega
    · replace c215 : ¬ (μ208.1 75 27).toInt ≤ 0 := c215
      obtain ⟨rfl, hμ⟩ := tx_return h em219_218
      rw [hμ] at hT ⊢
      exact rzQ_u hu208 hT (fun q => by exfalso; have := hz208.2.1; omega)
  · replace c189 : ¬ ((μ.1 78 (μ.1 75 25).toInt.toNat) - (22 : Int32)).toInt < 0 := c189
    replace h := tx_aload_n (p' := 193) h em219_192 rfl rfl
    replace h := tx_getc (c := 12) (j := 19) (p' := 196) h em219_193 ((congrFun xo_12 20).trans rfl) rfl rfl rfl
    replace h := tx_aload_n (p' := 197) h em219_196 rfl rfl
    replace h := tx_getf (c := 12) (j := 25) (p' := 200) h em219_197 ((congrFun xo_12 203).trans rfl) rfl rfl (by decide) rfl
    obtain ⟨hb200, h⟩ := tx_iald (len := 403) (p' := 201) h em219_200 rfl rfl
    replace hb200 : (0 : Int) ≤ (μ.1 75 25).toInt ∧ (μ.1 75 25).toInt < 403 := hb200
    replace h := tx_bipush (v := 25) (p' := 203) h em219_201 (by decide +kernel) rfl
    rcases tx_icmp (t := 211) (p' := 206) h em219_203 (by decide) rfl with ⟨c203, h⟩ | ⟨c203, h⟩
    · replace c203 : (μ.1 78 (μ.1 75 25).toInt.toNat).toInt ≤ 25 := c203
      replace h := tx_aload_n (p' := 212) h em219_211 rfl rfl
      replace h := tx_getf (c := 12) (j := 27) (p' := 215) h em219_212 ((congrFun xo_12 200).trans rfl) rfl rfl (by decide) rfl
      rcases tx_if (t := 219) (p' := 218) h em219_215 (by decide) rfl with ⟨c215_1, h⟩ | ⟨c215_1, h⟩
      · replace c215_1 : (μ.1 75 27).toInt ≤ 0 := c215_1
        exfalso
        have e22 : (22 : Int32).toInt = 22 := by decide
        have h7 := an_sub (x := μ.1 78 (μ.1 75 25).toInt.toNat) (y := 22) (by omega) (by omega)
        omega
      · replace c215_1 : ¬ (μ.1 75 27).toInt ≤ 0 := c215_1
        obtain ⟨rfl, hμ⟩ := tx_return h em219_218
        exfalso
        unfold rF at hf
        omega
    · replace c203 : ¬ (μ.1 78 (μ.1 75 25).toInt.toNat).toInt ≤ 25 := c203
      replace h := tx_aload_n (p' := 207) h em219_206 rfl rfl
      replace h := tx_iconst (v := 1) (p' := 208) h em219_207 (by decide +kernel) rfl
      obtain ⟨r208_1, μ208_1, hE208_1, h⟩ := tx_invV (na := 2) (mn := 133) (as := [.inr (.inl (some 75)), .inl (1 : Int32)]) (rest := []) (p' := 211) h em219_208 ((congrFun xo_12 215).trans rfl) xm_133 rfl rfl
      have hu208_1 := uE_w (μ := μ) (by decide +kernel) (hf_133_0 hE208_1 (hEn0 (by decide)) hO).2 hO
      have hz208_1 := ex_fl3 hE208_1 (by decide)
      obtain ⟨rfl, -⟩ := st_fail (f0 := 1) hE208_1 (by decide) (by decide)
      replace h : eT xq_219 _ 211 [some (.inr (.inl (some 75))), some (.inl ((μ.1 78 (μ.1 75 25).toInt.toNat) - (22 : Int32)))] [] μ208_1 r μ' := h
      replace h := tx_aload_n (p' := 212) h em219_211 rfl rfl
      replace h := tx_getf (c := 12) (j := 27) (p' := 215) h em219_212 ((congrFun xo_12 200).trans rfl) rfl rfl (by decide) rfl
      rcases tx_if (t := 219) (p' := 218) h em219_215 (by decide) rfl with ⟨c215_2, h⟩ | ⟨c215_2, h⟩
      · replace c215_2 : (μ208_1.1 75 27).toInt ≤ 0 := c215_2
        exfalso
        have := hz208_1.2.1
        unfold rF at this
        omega
      · replace c215_2 : ¬ (μ208_1.1 75 27).toInt ≤ 0 := c215_2
        obtain ⟨rfl, hμ⟩ := tx_return h em219_218
        rw [hμ] at hT ⊢
        exact rzQ_u hu208_1 hT (fun q => by exfalso; have := hz208_1.2.1; omega)
set_option maxRecDepth 10000 in
set_option maxHeartbeats 4000000 in
theorem rz1_law2 {m : Int} {s : Nat} {μ μ' : xM} {r : Option zV} (h0 : Ex gx xq_219 [.inr (.inl (some 75))] μ r μ') (hI : qzI m μ) (hf : rF μ = 0) (hO : hOK μ) (hs : rSd μ = (s : Int)) (hs1 : s ≤ 1) (hb0 : rbd s μ) (hB0 : 0 ≤ rC9 μ ∧ 0 ≤ rB μ) (hx : (μ.1 78 (μ.1 75 25).toInt.toNat).toInt = 22) : rzQ s μ μ' := by
  obtain ⟨n, h⟩ := tx_in (L := [some (.inr (.inl (some 75))), none]) h0 rfl
  have hb1 : 0 ≤ rT μ ∧ rT μ ≤ 400 := by have := hI.2.2 hf; have := hI.1.1; omega
  have hq0 : rQ μ = 0 := (hI.2.2 hf).2.2.1
  have hC : ∀ n k, eT xq_219 n 219 [some (.inr (.inl (some 75))), some (.inl k)] [] μ r μ' → k.toInt = rK μ (rT μ) - 130 → (130 ≤ rK μ (rT μ) ∧ rK μ (rT μ) ≤ 133) → rzQ s μ μ' := by
    intro n k h hkv hk
    have hk4 : 0 ≤ k.toInt ∧ k.toInt ≤ 3 := by omega
    replace h := tx_aload_n (p' := 220) h em219_219 rfl rfl
    obtain ⟨r220, μ220, hE220, h⟩ := tx_invV (na := 1) (mn := 144) (as := [.inr (.inl (some 75))]) (rest := []) (p' := 223) h em219_220 ((congrFun xo_12 221).trans rfl) xm_144 rfl rfl
    have hq220 := (qz_on hE220 hI (fun _ => by omega)).2
    obtain ⟨rfl, hp220⟩ := ex_goW hE220 hb1.1 hb1.2 hI.2.1 hO
    replace h : eT xq_219 _ 223 [some (.inr (.inl (some 75))), some (.inl k)] [] μ220 r μ' := h
    replace h := tx_aload_n (p' := 224) h em219_223 rfl rfl
    replace h := tx_iload_n (p' := 225) h em219_224 rfl rfl
    obtain ⟨r225, μ225, hE225, h⟩ := tx_invV (na := 2) (mn := 226) (as := [.inr (.inl (some 75)), .inl k]) (rest := []) (p' := 228) h em219_225 ((congrFun xo_12 274).trans rfl) xm_226 rfl rfl
    have hq225 := (qz_law hE225 hq220.2.2.2).2
    have hF2 := hq220.2.2.2.2.1
    obtain ⟨rfl, hZ⟩ := ex_lawW hE225 (by have := hp220.2.2; omega) (by have := hp220.2.2; omega) hF2 (fun q => by rw [hp220.2.1]; exact hq0) (by rw [uE_C hp220.1.1]; exact hB0.1) (by unfold rB; rw [hp220.1.1.1.2.2]; exact hB0.2) (by have e32 := hp220.1.2.2.1 32 (by decide) (by decide) (by decide) (by decide) (by decide) (by decide) (by decide); have e33 : (μ.1 75 32).toInt = (s : Int) := hs; rw [e32, e33]; omega) hk4 hp220.1.1.1.1
    replace h : eT xq_219 _ 228 [some (.inr (.inl (some 75))), some (.inl k)] [] μ225 r μ' := h
    obtain ⟨rfl, hμ⟩ := tx_return h em219_228
    rw [hμ]
    exact rzQ_l hs hs1 hb0 hb1.2 hp220 hZ hkv hk hf (fun q => by have := (hq225.2.1 q).1; omega)
  have hkE : rK μ (rT μ) = 108 + (μ.1 78 (μ.1 75 25).toInt.toNat).toInt := by
    have h8 := kmp_l (x := (μ.1 78 (μ.1 75 25).toInt.toNat).toInt) (by omega)
    have h9 : rK μ (rT μ) = kmp (μ.1 78 (μ.1 75 25).toInt.toNat).toInt := rfl
    omega
  replace h := tx_aload_n (p' := 1) h em219_0 rfl rfl
  replace h := tx_getc (c := 12) (j := 19) (p' := 4) h em219_1 ((congrFun xo_12 20).trans rfl) rfl rfl rfl
  replace h := tx_aload_n (p' := 5) h em219_4 rfl rfl
  replace h := tx_getf (c := 12) (j := 25) (p' := 8) h em219_5 ((congrFun xo_12 203).trans rfl) rfl rfl (by decide) rfl
  obtain ⟨hb8, h⟩ := tx_iald (len := 403) (p' := 9) h em219_8 rfl rfl
  replace hb8 : (0 : Int) ≤ (μ.1 75 25).toInt ∧ (μ.1 75 25).toInt < 403 := hb8
  obtain ⟨t9, ht9, h⟩ := tx_tsw h em219_9
  have e9 : t9 = 175 := by
    have := tsw_k ht9 (k := 2) (off := 166) rfl (by omega) (by omega)
    omega
  subst e9
  replace h : eT xq_219 _ 175 [some (.inr (.inl (some 75))), none] [] μ r μ' := h
  replace h := tx_aload_n (p' := 176) h em219_175 rfl rfl
  replace h := tx_getc (c := 12) (j := 19) (p' := 179) h em219_176 ((congrFun xo_12 20).trans rfl) rfl rfl rfl
  replace h := tx_aload_n (p' := 180) h em219_179 rfl rfl
  replace h := tx_getf (c := 12) (j := 25) (p' := 183) h em219_180 ((congrFun xo_12 203).trans rfl) rfl rfl (by decide) rfl
  obtain ⟨hb183, h⟩ := tx_iald (len := 403) (p' := 184) h em219_183 rfl rfl
  replace hb183 : (0 : Int) ≤ (μ.1 75 25).toInt ∧ (μ.1 75 25).toInt < 403 := hb183
  replace h := tx_bipush (v := 22) (p' := 186) h em219_184 (by decide +kernel) rfl
  replace h := tx_isub (p' := 187) h em219_186 rfl
  replace h := tx_istore_n (p' := 188) h em219_187 rfl
  replace h : eT xq_219 _ 188 [some (.inr (.inl (some 75))), some (.inl ((μ.1 78 (μ.1 75 25).toInt.toNat) - (22 : Int32)))] [] μ r μ' := h
  replace h := tx_iload_n (p' := 189) h em219_188 rfl rfl
  rcases tx_if (t := 206) (p' := 192) h em219_189 (by decide) rfl with ⟨c189, h⟩ | ⟨c189, h⟩
  · replace c189 : ((μ.1 78 (μ.1 75 25).toInt.toNat) - (22 : Int32)).toInt < 0 := c189
    exfalso
    have e22 : (22 : Int32).toInt = 22 := by decide
    have h7 := an_sub (x := μ.1 78 (μ.1 75 25).toInt.toNat) (y := 22) (by omega) (by omega)
    omega
  · replace c189 : ¬ ((μ.1 78 (μ.1 75 25).toInt.toNat) - (22 : Int32)).toInt < 0 := c189
    replace h := tx_aload_n (p' := 193) h em219_192 rfl rfl
    replace h := tx_getc (c := 12) (j := 19) (p' := 196) h em219_193 ((congrFun xo_12 20).trans rfl) rfl rfl rfl
    replace h := tx_aload_n (p' := 197) h em219_196 rfl rfl
    replace h := tx_getf (c := 12) (j := 25) (p' := 200) h em219_197 ((congrFun xo_12 203).trans rfl) rfl rfl (by decide) rfl
    obtain ⟨hb200, h⟩ := tx_iald (len := 403) (p' := 201) h em219_200 rfl rfl
    replace hb200 : (0 : Int) ≤ (μ.1 75 25).toInt ∧ (μ.1 75 25).toInt < 403 := hb200
    replace h := tx_bipush (v := 25) (p' := 203) h em219_201 (by decide +kernel) rfl
    rcases tx_icmp (t := 211) (p' := 206) h em219_203 (by decide) rfl with ⟨c203, h⟩ | ⟨c203, h⟩
    · replace c203 : (μ.1 78 (μ.1 75 25).toInt.toNat).toInt ≤ 25 := c203
      replace h := tx_aload_n (p' := 212) h em219_211 rfl rfl
      replace h := tx_getf (c := 12) (j := 27) (p' := 215) h em219_212 ((congrFun xo_12 200).trans rfl) rfl rfl (by decide) rfl
      rcases tx_if (t := 219) (p' := 218) h em219_215 (by decide) rfl with ⟨c215, h⟩ | ⟨c215, h⟩
      · replace c215 : (μ.1 75 27).toInt ≤ 0 := c215
        have e22 : (22 : Int32).toInt = 22 := by decide
        have h7 := an_sub (x := μ.1 78 (μ.1 75 25).toInt.toNat) (y := 22) (by omega) (by omega)
        exact hC _ _ h (by omega) (by omega)
      · replace c215 : ¬ (μ.1 75 27).toInt ≤ 0 := c215
        obtain ⟨rfl, hμ⟩ := tx_return h em219_218
        exfalso
        unfold rF at hf
        omega
    · replace c203 : ¬ (μ.1 78 (μ.1 75 25).toInt.toNat).toInt ≤ 25 := c203
      exfalso
      have e22 : (22 : Int32).toInt = 22 := by decide
      have h7 := an_sub (x := μ.1 78 (μ.1 75 25).toInt.toNat) (y := 22) (by omega) (by omega)
      omega
set_option maxRecDepth 10000 in
set_option maxHeartbeats 4000000 in
theorem rz1_law3 {m : Int} {s : Nat} {μ μ' : xM} {r : Option zV} (h0 : Ex gx xq_219 [.inr (.inl (some 75))] μ r μ') (hI : qzI m μ) (hf : rF μ = 0) (hO : hOK μ) (hs : rSd μ = (s : Int)) (hs1 : s ≤ 1) (hb0 : rbd s μ) (hB0 : 0 ≤ rC9 μ ∧ 0 ≤ rB μ) (hx : (μ.1 78 (μ.1 75 25).toInt.toNat).toInt = 23) : rzQ s μ μ' := by
  obtain ⟨n, h⟩ := tx_in (L := [some (.inr (.inl (some 75))), none]) h0 rfl
  have hb1 : 0 ≤ rT μ ∧ rT μ ≤ 400 := by have := hI.2.2 hf; have := hI.1.1; omega
  have hq0 : rQ μ = 0 := (hI.2.2 hf).2.2.1
  have hC : ∀ n k, eT xq_219 n 219 [some (.inr (.inl (some 75))), some (.inl k)] [] μ r μ' → k.toInt = rK μ (rT μ) - 130 → (130 ≤ rK μ (rT μ) ∧ rK μ (rT μ) ≤ 133) → rzQ s μ μ' := by
    intro n k h hkv hk
    have hk4 : 0 ≤ k.toInt ∧ k.toInt ≤ 3 := by omega
    replace h := tx_aload_n (p' := 220) h em219_219 rfl rfl
    obtain ⟨r220, μ220, hE220, h⟩ := tx_invV (na := 1) (mn := 144) (as := [.inr (.inl (some 75))]) (rest := []) (p' := 223) h em219_220 ((congrFun xo_12 221).trans rfl) xm_144 rfl rfl
    have hq220 := (qz_on hE220 hI (fun _ => by omega)).2
    obtain ⟨rfl, hp220⟩ := ex_goW hE220 hb1.1 hb1.2 hI.2.1 hO
    replace h : eT xq_219 _ 223 [some (.inr (.inl (some 75))), some (.inl k)] [] μ220 r μ' := h
    replace h := tx_aload_n (p' := 224) h em219_223 rfl rfl
    replace h := tx_iload_n (p' := 225) h em219_224 rfl rfl
    obtain ⟨r225, μ225, hE225, h⟩ := tx_invV (na := 2) (mn := 226) (as := [.inr (.inl (some 75)), .inl k]) (rest := []) (p' := 228) h em219_225 ((congrFun xo_12 274).trans rfl) xm_226 rfl rfl
    have hq225 := (qz_law hE225 hq220.2.2.2).2
    have hF2 := hq220.2.2.2.2.1
    obtain ⟨rfl, hZ⟩ := ex_lawW hE225 (by have := hp220.2.2; omega) (by have := hp220.2.2; omega) hF2 (fun q => by rw [hp220.2.1]; exact hq0) (by rw [uE_C hp220.1.1]; exact hB0.1) (by unfold rB; rw [hp220.1.1.1.2.2]; exact hB0.2) (by have e32 := hp220.1.2.2.1 32 (by decide) (by decide) (by decide) (by decide) (by decide) (by decide) (by decide); have e33 : (μ.1 75 32).toInt = (s : Int) := hs; rw [e32, e33]; omega) hk4 hp220.1.1.1.1
    replace h : eT xq_219 _ 228 [some (.inr (.inl (some 75))), some (.inl k)] [] μ225 r μ' := h
    obtain ⟨rfl, hμ⟩ := tx_return h em219_228
    rw [hμ]
    exact rzQ_l hs hs1 hb0 hb1.2 hp220 hZ hkv hk hf (fun q => by have := (hq225.2.1 q).1; omega)
  have hkE : rK μ (rT μ) = 108 + (μ.1 78 (μ.1 75 25).toInt.toNat).toInt := by
    have h8 := kmp_l (x := (μ.1 78 (μ.1 75 25).toInt.toNat).toInt) (by omega)
    have h9 : rK μ (rT μ) = kmp (μ.1 78 (μ.1 75 25).toInt.toNat).toInt := rfl
    omega
  replace h := tx_aload_n (p' := 1) h em219_0 rfl rfl
  replace h := tx_getc (c := 12) (j := 19) (p' := 4) h em219_1 ((congrFun xo_12 20).trans rfl) rfl rfl rfl
  replace h := tx_aload_n (p' := 5) h em219_4 rfl rfl
  replace h := tx_getf (c := 12) (j := 25) (p' := 8) h em219_5 ((congrFun xo_12 203).trans rfl) rfl rfl (by decide) rfl
  obtain ⟨hb8, h⟩ := tx_iald (len := 403) (p' := 9) h em219_8 rfl rfl
  replace hb8 : (0 : Int) ≤ (μ.1 75 25).toInt ∧ (μ.1 75 25).toInt < 403 := hb8
  obtain ⟨t9, ht9, h⟩ := tx_tsw h em219_9
  have e9 : t9 = 175 := by
    have := tsw_k ht9 (k := 3) (off := 166) rfl (by omega) (by omega)
    omega
  subst e9
  replace h : eT xq_219 _ 175 [some (.inr (.inl (some 75))), none] [] μ r μ' := h
  replace h := tx_aload_n (p' := 176) h em219_175 rfl rfl
  replace h := tx_getc (c := 12) (j := 19) (p' := 179) h em219_176 ((congrFun xo_12 20).trans rfl) rfl rfl rfl
  replace h := tx_aload_n (p' := 180) h em219_179 rfl rfl
  replace h := tx_getf (c := 12) (j := 25) (p' := 183) h em219_180 ((congrFun xo_12 203).trans rfl) rfl rfl (by decide) rfl
  obtain ⟨hb183, h⟩ := tx_iald (len := 403) (p' := 184) h em219_183 rfl rfl
  replace hb183 : (0 : Int) ≤ (μ.1 75 25).toInt ∧ (μ.1 75 25).toInt < 403 := hb183
  replace h := tx_bipush (v := 22) (p' := 186) h em219_184 (by decide +kernel) rfl
  replace h := tx_isub (p' := 187) h em219_186 rfl
  replace h := tx_istore_n (p' := 188) h em219_187 rfl
  replace h : eT xq_219 _ 188 [some (.inr (.inl (some 75))), some (.inl ((μ.1 78 (μ.1 75 25).toInt.toNat) - (22 : Int32)))] [] μ r μ' := h
  replace h := tx_iload_n (p' := 189) h em219_188 rfl rfl
  rcases tx_if (t := 206) (p' := 192) h em219_189 (by decide) rfl with ⟨c189, h⟩ | ⟨c189, h⟩
  · replace c189 : ((μ.1 78 (μ.1 75 25).toInt.toNat) - (22 : Int32)).toInt < 0 := c189
    exfalso
    have e22 : (22 : Int32).toInt = 22 := by decide
    have h7 := an_sub (x := μ.1 78 (μ.1 75 25).toInt.toNat) (y := 22) (by omega) (by omega)
    omega
  · replace c189 : ¬ ((μ.1 78 (μ.1 75 25).toInt.toNat) - (22 : Int32)).toInt < 0 := c189
    replace h := tx_aload_n (p' := 193) h em219_192 rfl rfl
    replace h := tx_getc (c := 12) (j := 19) (p' := 196) h em219_193 ((congrFun xo_12 20).trans rfl) rfl rfl rfl
    replace h := tx_aload_n (p' := 197) h em219_196 rfl rfl
    replace h := tx_getf (c := 12) (j := 25) (p' := 200) h em219_197 ((congrFun xo_12 203).trans rfl) rfl rfl (by decide) rfl
    obtain ⟨hb200, h⟩ := tx_iald (len := 403) (p' := 201) h em219_200 rfl rfl
    replace hb200 : (0 : Int) ≤ (μ.1 75 25).toInt ∧ (μ.1 75 25).toInt < 403 := hb200
    replace h := tx_bipush (v := 25) (p' := 203) h em219_201 (by decide +kernel) rfl
    rcases tx_icmp (t := 211) (p' := 206) h em219_203 (by decide) rfl with ⟨c203, h⟩ | ⟨c203, h⟩
    · replace c203 : (μ.1 78 (μ.1 75 25).toInt.toNat).toInt ≤ 25 := c203
      replace h := tx_aload_n (p' := 212) h em219_211 rfl rfl
      replace h := tx_getf (c := 12) (j := 27) (p' := 215) h em219_212 ((congrFun xo_12 200).trans rfl) rfl rfl (by decide) rfl
      rcases tx_if (t := 219) (p' := 218) h em219_215 (by decide) rfl with ⟨c215, h⟩ | ⟨c215, h⟩
      · replace c215 : (μ.1 75 27).toInt ≤ 0 := c215
        have e22 : (22 : Int32).toInt = 22 := by decide
        have h7 := an_sub (x := μ.1 78 (μ.1 75 25).toInt.toNat) (y := 22) (by omega) (by omega)
        exact hC _ _ h (by omega) (by omega)
      · replace c215 : ¬ (μ.1 75 27).toInt ≤ 0 := c215
        obtain ⟨rfl, hμ⟩ := tx_return h em219_218
        exfalso
        unfold rF at hf
        omega
    · replace c203 : ¬ (μ.1 78 (μ.1 75 25).toInt.toNat).toInt ≤ 25 := c203
      exfalso
      have e22 : (22 : Int32).toInt = 22 := by decide
      have h7 := an_sub (x := μ.1 78 (μ.1 75 25).toInt.toNat) (y := 22) (by omega) (by omega)
      omega
set_option maxRecDepth 10000 in
set_option maxHeartbeats 4000000 in
theorem rz1_law4 {m : Int} {s : Nat} {μ μ' : xM} {r : Option zV} (h0 : Ex gx xq_219 [.inr (.inl (some 75))] μ r μ') (hI : qzI m μ) (hf : rF μ = 0) (hO : hOK μ) (hs : rSd μ = (s : Int)) (hs1 : s ≤ 1) (hb0 : rbd s μ) (hB0 : 0 ≤ rC9 μ ∧ 0 ≤ rB μ) (hx : (μ.1 78 (μ.1 75 25).toInt.toNat).toInt = 24) : rzQ s μ μ' := by
  obtain ⟨n, h⟩ := tx_in (L := [some (.inr (.inl (some 75))), none]) h0 rfl
  have hb1 : 0 ≤ rT μ ∧ rT μ ≤ 400 := by have := hI.2.2 hf; have := hI.1.1; omega
  have hq0 : rQ μ = 0 := (hI.2.2 hf).2.2.1
  have hC : ∀ n k, eT xq_219 n 219 [some (.inr (.inl (some 75))), some (.inl k)] [] μ r μ' → k.toInt = rK μ (rT μ) - 130 → (130 ≤ rK μ (rT μ) ∧ rK μ (rT μ) ≤ 133) → rzQ s μ μ' := by
    intro n k h hkv hk
    have hk4 : 0 ≤ k.toInt ∧ k.toInt ≤ 3 := by omega
    replace h := tx_aload_n (p' := 220) h em219_219 rfl rfl
    obtain ⟨r220, μ220, hE220, h⟩ := tx_invV (na := 1) (mn := 144) (as := [.inr (.inl (some 75))]) (rest := []) (p' := 223) h em219_220 ((congrFun xo_12 221).trans rfl) xm_144 rfl rfl
    have hq220 := (qz_on hE220 hI (fun _ => by omega)).2
    obtain ⟨rfl, hp220⟩ := ex_goW hE220 hb1.1 hb1.2 hI.2.1 hO
    replace h : eT xq_219 _ 223 [some (.inr (.inl (some 75))), some (.inl k)] [] μ220 r μ' := h
    replace h := tx_aload_n (p' := 224) h em219_223 rfl rfl
    replace h := tx_iload_n (p' := 225) h em219_224 rfl rfl
    obtain ⟨r225, μ225, hE225, h⟩ := tx_invV (na := 2) (mn := 226) (as := [.inr (.inl (some 75)), .inl k]) (rest := []) (p' := 228) h em219_225 ((congrFun xo_12 274).trans rfl) xm_226 rfl rfl
    have hq225 := (qz_law hE225 hq220.2.2.2).2
    have hF2 := hq220.2.2.2.2.1
    obtain ⟨rfl, hZ⟩ := ex_lawW hE225 (by have := hp220.2.2; omega) (by have := hp220.2.2; omega) hF2 (fun q => by rw [hp220.2.1]; exact hq0) (by rw [uE_C hp220.1.1]; exact hB0.1) (by unfold rB; rw [hp220.1.1.1.2.2]; exact hB0.2) (by have e32 := hp220.1.2.2.1 32 (by decide) (by decide) (by decide) (by decide) (by decide) (by decide) (by decide); have e33 : (μ.1 75 32).toInt = (s : Int) := hs; rw [e32, e33]; omega) hk4 hp220.1.1.1.1
    replace h : eT xq_219 _ 228 [some (.inr (.inl (some 75))), some (.inl k)] [] μ225 r μ' := h
    obtain ⟨rfl, hμ⟩ := tx_return h em219_228
    rw [hμ]
    exact rzQ_l hs hs1 hb0 hb1.2 hp220 hZ hkv hk hf (fun q => by have := (hq225.2.1 q).1; omega)
  have hkE : rK μ (rT μ) = 108 + (μ.1 78 (μ.1 75 25).toInt.toNat).toInt := by
    have h8 := kmp_l (x := (μ.1 78 (μ.1 75 25).toInt.toNat).toInt) (by omega)
    have h9 : rK μ (rT μ) = kmp (μ.1 78 (μ.1 75 25).toInt.toNat).toInt := rfl
    omega
  replace h := tx_aload_n (p' := 1) h em219_0 rfl rfl
  replace h := tx_getc (c := 12) (j := 19) (p' := 4) h em219_1 ((congrFun xo_12 20).trans rfl) rfl rfl rfl
  replace h := tx_aload_n (p' := 5) h em219_4 rfl rfl
  replace h := tx_getf (c := 12) (j := 25) (p' := 8) h em219_5 ((congrFun xo_12 203).trans rfl) rfl rfl (by decide) rfl
  obtain ⟨hb8, h⟩ := tx_iald (len := 403) (p' := 9) h em219_8 rfl rfl
  replace hb8 : (0 : Int) ≤ (μ.1 75 25).toInt ∧ (μ.1 75 25).toInt < 403 := hb8
  obtain ⟨t9, ht9, h⟩ := tx_tsw h em219_9
  have e9 : t9 = 175 := by
    have := tsw_k ht9 (k := 4) (off := 166) rfl (by omega) (by omega)
    omega
  subst e9
  replace h : eT xq_219 _ 175 [some (.inr (.inl (some 75))), none] [] μ r μ' := h
  replace h := tx_aload_n (p' := 176) h em219_175 rfl rfl
  replace h := tx_getc (c := 12) (j := 19) (p' := 179) h em219_176 ((congrFun xo_12 20).trans rfl) rfl rfl rfl
  replace h := tx_aload_n (p' := 180) h em219_179 rfl rfl
  replace h := tx_getf (c := 12) (j := 25) (p' := 183) h em219_180 ((congrFun xo_12 203).trans rfl) rfl rfl (by decide) rfl
  obtain ⟨hb183, h⟩ := tx_iald (len := 403) (p' := 184) h em219_183 rfl rfl
  replace hb183 : (0 : Int) ≤ (μ.1 75 25).toInt ∧ (μ.1 75 25).toInt < 403 := hb183
  replace h := tx_bipush (v := 22) (p' := 186) h em219_184 (by decide +kernel) rfl
  replace h := tx_isub (p' := 187) h em219_186 rfl
  replace h := tx_istore_n (p' := 188) h em219_187 rfl
  replace h : eT xq_219 _ 188 [some (.inr (.inl (some 75))), some (.inl ((μ.1 78 (μ.1 75 25).toInt.toNat) - (22 : Int32)))] [] μ r μ' := h
  replace h := tx_iload_n (p' := 189) h em219_188 rfl rfl
  rcases tx_if (t := 206) (p' := 192) h em219_189 (by decide) rfl with ⟨c189, h⟩ | ⟨c189, h⟩
  · replace c189 : ((μ.1 78 (μ.1 75 25).toInt.toNat) - (22 : Int32)).toInt < 0 := c189
    exfalso
    have e22 : (22 : Int32).toInt = 22 := by decide
    have h7 := an_sub (x := μ.1 78 (μ.1 75 25).toInt.toNat) (y := 22) (by omega) (by omega)
    omega
  · replace c189 : ¬ ((μ.1 78 (μ.1 75 25).toInt.toNat) - (22 : Int32)).toInt < 0 := c189
    replace h := tx_aload_n (p' := 193) h em219_192 rfl rfl
    replace h := tx_getc (c := 12) (j := 19) (p' := 196) h em219_193 ((congrFun xo_12 20).trans rfl) rfl rfl rfl
    replace h := tx_aload_n (p' := 197) h em219_196 rfl rfl
    replace h := tx_getf (c := 12) (j := 25) (p' := 200) h em219_197 ((congrFun xo_12 203).trans rfl) rfl rfl (by decide) rfl
    obtain ⟨hb200, h⟩ := tx_iald (len := 403) (p' := 201) h em219_200 rfl rfl
    replace hb200 : (0 : Int) ≤ (μ.1 75 25).toInt ∧ (μ.1 75 25).toInt < 403 := hb200
    replace h := tx_bipush (v := 25) (p' := 203) h em219_201 (by decide +kernel) rfl
    rcases tx_icmp (t := 211) (p' := 206) h em219_203 (by decide) rfl with ⟨c203, h⟩ | ⟨c203, h⟩
    · replace c203 : (μ.1 78 (μ.1 75 25).toInt.toNat).toInt ≤ 25 := c203
      replace h := tx_aload_n (p' := 212) h em219_211 rfl rfl
      replace h := tx_getf (c := 12) (j := 27) (p' := 215) h em219_212 ((congrFun xo_12 200).trans rfl) rfl rfl (by decide) rfl
      rcases tx_if (t := 219) (p' := 218) h em219_215 (by decide) rfl with ⟨c215, h⟩ | ⟨c215, h⟩
      · replace c215 : (μ.1 75 27).toInt ≤ 0 := c215
        have e22 : (22 : Int32).toInt = 22 := by decide
        have h7 := an_sub (x := μ.1 78 (μ.1 75 25).toInt.toNat) (y := 22) (by omega) (by omega)
        exact hC _ _ h (by omega) (by omega)
      · replace c215 : ¬ (μ.1 75 27).toInt ≤ 0 := c215
        obtain ⟨rfl, hμ⟩ := tx_return h em219_218
        exfalso
        unfold rF at hf
        omega
    · replace c203 : ¬ (μ.1 78 (μ.1 75 25).toInt.toNat).toInt ≤ 25 := c203
      exfalso
      have e22 : (22 : Int32).toInt = 22 := by decide
      have h7 := an_sub (x := μ.1 78 (μ.1 75 25).toInt.toNat) (y := 22) (by omega) (by omega)
      omega
set_option maxRecDepth 10000 in
set_option maxHeartbeats 4000000 in
theorem rz1_law5 {m : Int} {s : Nat} {μ μ' : xM} {r : Option zV} (h0 : Ex gx xq_219 [.inr (.inl (some 75))] μ r μ') (hI : qzI m μ) (hf : rF μ = 0) (hO : hOK μ) (hs : rSd μ = (s : Int)) (hs1 : s ≤ 1) (hb0 : rbd s μ) (hB0 : 0 ≤ rC9 μ ∧ 0 ≤ rB μ) (hx : (μ.1 78 (μ.1 75 25).toInt.toNat).toInt = 25) : rzQ s μ μ' := by
  obtain ⟨n, h⟩ := tx_in (L := [some (.inr (.inl (some 75))), none]) h0 rfl
  have hb1 : 0 ≤ rT μ ∧ rT μ ≤ 400 := by have := hI.2.2 hf; have := hI.1.1; omega
  have hq0 : rQ μ = 0 := (hI.2.2 hf).2.2.1
  have hC : ∀ n k, eT xq_219 n 219 [some (.inr (.inl (some 75))), some (.inl k)] [] μ r μ' → k.toInt = rK μ (rT μ) - 130 → (130 ≤ rK μ (rT μ) ∧ rK μ (rT μ) ≤ 133) → rzQ s μ μ' := by
    intro n k h hkv hk
    have hk4 : 0 ≤ k.toInt ∧ k.toInt ≤ 3 := by omega
    replace h := tx_aload_n (p' := 220) h em219_219 rfl rfl
    obtain ⟨r220, μ220, hE220, h⟩ := tx_invV (na := 1) (mn := 144) (as := [.inr (.inl (some 75))]) (rest := []) (p' := 223) h em219_220 ((congrFun xo_12 221).trans rfl) xm_144 rfl rfl
    have hq220 := (qz_on hE220 hI (fun _ => by omega)).2
    obtain ⟨rfl, hp220⟩ := ex_goW hE220 hb1.1 hb1.2 hI.2.1 hO
    replace h : eT xq_219 _ 223 [some (.inr (.inl (some 75))), some (.inl k)] [] μ220 r μ' := h
    replace h := tx_aload_n (p' := 224) h em219_223 rfl rfl
    replace h := tx_iload_n (p' := 225) h em219_224 rfl rfl
    obtain ⟨r225, μ225, hE225, h⟩ := tx_invV (na := 2) (mn := 226) (as := [.inr (.inl (some 75)), .inl k]) (rest := []) (p' := 228) h em219_225 ((congrFun xo_12 274).trans rfl) xm_226 rfl rfl
    have hq225 := (qz_law hE225 hq220.2.2.2).2
    have hF2 := hq220.2.2.2.2.1
    obtain ⟨rfl, hZ⟩ := ex_lawW hE225 (by have := hp220.2.2; omega) (by have := hp220.2.2; omega) hF2 (fun q => by rw [hp220.2.1]; exact hq0) (by rw [uE_C hp220.1.1]; exact hB0.1) (by unfold rB; rw [hp220.1.1.1.2.2]; exact hB0.2) (by have e32 := hp220.1.2.2.1 32 (by decide) (by decide) (by decide) (by decide) (by decide) (by decide) (by decide); have e33 : (μ.1 75 32).toInt = (s : Int) := hs; rw [e32, e33]; omega) hk4 hp220.1.1.1.1
    replace h : eT xq_219 _ 228 [some (.inr (.inl (some 75))), some (.inl k)] [] μ225 r μ' := h
    obtain ⟨rfl, hμ⟩ := tx_return h em219_228
    rw [hμ]
    exact rzQ_l hs hs1 hb0 hb1.2 hp220 hZ hkv hk hf (fun q => by have := (hq225.2.1 q).1; omega)
  have hkE : rK μ (rT μ) = 108 + (μ.1 78 (μ.1 75 25).toInt.toNat).toInt := by
    have h8 := kmp_l (x := (μ.1 78 (μ.1 75 25).toInt.toNat).toInt) (by omega)
    have h9 : rK μ (rT μ) = kmp (μ.1 78 (μ.1 75 25).toInt.toNat).toInt := rfl
    omega
  replace h := tx_aload_n (p' := 1) h em219_0 rfl rfl
  replace h := tx_getc (c := 12) (j := 19) (p' := 4) h em219_1 ((congrFun xo_12 20).trans rfl) rfl rfl rfl
  replace h := tx_aload_n (p' := 5) h em219_4 rfl rfl
  replace h := tx_getf (c := 12) (j := 25) (p' := 8) h em219_5 ((congrFun xo_12 203).trans rfl) rfl rfl (by decide) rfl
  obtain ⟨hb8, h⟩ := tx_iald (len := 403) (p' := 9) h em219_8 rfl rfl
  replace hb8 : (0 : Int) ≤ (μ.1 75 25).toInt ∧ (μ.1 75 25).toInt < 403 := hb8
  obtain ⟨t9, ht9, h⟩ := tx_tsw h em219_9
  have e9 : t9 = 175 := by
    have := tsw_k ht9 (k := 5) (off := 166) rfl (by omega) (by omega)
    omega
  subst e9
  replace h : eT xq_219 _ 175 [some (.inr (.inl (some 75))), none] [] μ r μ' := h
  replace h := tx_aload_n (p' := 176) h em219_175 rfl rfl
  replace h := tx_getc (c := 12) (j := 19) (p' := 179) h em219_176 ((congrFun xo_12 20).trans rfl) rfl rfl rfl
  replace h := tx_aload_n (p' := 180) h em219_179 rfl rfl
  replace h := tx_getf (c := 12) (j := 25) (p' := 183) h em219_180 ((congrFun xo_12 203).trans rfl) rfl rfl (by decide) rfl
  obtain ⟨hb183, h⟩ := tx_iald (len := 403) (p' := 184) h em219_183 rfl rfl
  replace hb183 : (0 : Int) ≤ (μ.1 75 25).toInt ∧ (μ.1 75 25).toInt < 403 := hb183
  replace h := tx_bipush (v := 22) (p' := 186) h em219_184 (by decide +kernel) rfl
  replace h := tx_isub (p' := 187) h em219_186 rfl
  replace h := tx_istore_n (p' := 188) h em219_187 rfl
  replace h : eT xq_219 _ 188 [some (.inr (.inl (some 75))), some (.inl ((μ.1 78 (μ.1 75 25).toInt.toNat) - (22 : Int32)))] [] μ r μ' := h
  replace h := tx_iload_n (p' := 189) h em219_188 rfl rfl
  rcases tx_if (t := 206) (p' := 192) h em219_189 (by decide) rfl with ⟨c189, h⟩ | ⟨c189, h⟩
  · replace c189 : ((μ.1 78 (μ.1 75 25).toInt.toNat) - (22 : Int32)).toInt < 0 := c189
    exfalso
    have e22 : (22 : Int32).toInt = 22 := by decide
    have h7 := an_sub (x := μ.1 78 (μ.1 75 25).toInt.toNat) (y := 22) (by omega) (by omega)
    omega
  · replace c189 : ¬ ((μ.1 78 (μ.1 75 25).toInt.toNat) - (22 : Int32)).toInt < 0 := c189
    replace h := tx_aload_n (p' := 193) h em219_192 rfl rfl
    replace h := tx_getc (c := 12) (j := 19) (p' := 196) h em219_193 ((congrFun xo_12 20).trans rfl) rfl rfl rfl
    replace h := tx_aload_n (p' := 197) h em219_196 rfl rfl
    replace h := tx_getf (c := 12) (j := 25) (p' := 200) h em219_197 ((congrFun xo_12 203).trans rfl) rfl rfl (by decide) rfl
    obtain ⟨hb200, h⟩ := tx_iald (len := 403) (p' := 201) h em219_200 rfl rfl
    replace hb200 : (0 : Int) ≤ (μ.1 75 25).toInt ∧ (μ.1 75 25).toInt < 403 := hb200
    replace h := tx_bipush (v := 25) (p' := 203) h em219_201 (by decide +kernel) rfl
    rcases tx_icmp (t := 211) (p' := 206) h em219_203 (by decide) rfl with ⟨c203, h⟩ | ⟨c203, h⟩
    · replace c203 : (μ.1 78 (μ.1 75 25).toInt.toNat).toInt ≤ 25 := c203
      replace h := tx_aload_n (p' := 212) h em219_211 rfl rfl
      replace h := tx_getf (c := 12) (j := 27) (p' := 215) h em219_212 ((congrFun xo_12 200).trans rfl) rfl rfl (by decide) rfl
      rcases tx_if (t := 219) (p' := 218) h em219_215 (by decide) rfl with ⟨c215, h⟩ | ⟨c215, h⟩
      · replace c215 : (μ.1 75 27).toInt ≤ 0 := c215
        have e22 : (22 : Int32).toInt = 22 := by decide
        have h7 := an_sub (x := μ.1 78 (μ.1 75 25).toInt.toNat) (y := 22) (by omega) (by omega)
        exact hC _ _ h (by omega) (by omega)
      · replace c215 : ¬ (μ.1 75 27).toInt ≤ 0 := c215
        obtain ⟨rfl, hμ⟩ := tx_return h em219_218
        exfalso
        unfold rF at hf
        omega
    · replace c203 : ¬ (μ.1 78 (μ.1 75 25).toInt.toNat).toInt ≤ 25 := c203
      exfalso
      have e22 : (22 : Int32).toInt = 22 := by decide
      have h7 := an_sub (x := μ.1 78 (μ.1 75 25).toInt.toNat) (y := 22) (by omega) (by omega)
      omega
/-- a telling of the reference, seen from its laws -/
theorem rz_one {m : Int} {s : Nat} {μ μ' : xM} {r : Option zV} (h0 : Ex gx xq_219 [.inr (.inl (some 75))] μ r μ') (hI : qzI m μ) (hf : rF μ = 0) (hO : hOK μ) (hs : rSd μ = (s : Int)) (hs1 : s ≤ 1) (hb0 : rbd s μ) (hk0 : 0 ≤ rK μ (rT μ)) (hT : rF μ' = 0 → rT μ ≤ rT μ') : rzQ s μ μ' := by
  have hB0 : 0 ≤ rC9 μ ∧ 0 ≤ rB μ := by unfold rbd at hb0; omega
  have h9 : rK μ (rT μ) = kmp (μ.1 78 (μ.1 75 25).toInt.toNat).toInt := rfl
  by_cases a : 20 ≤ (μ.1 78 (μ.1 75 25).toInt.toNat).toInt ∧ (μ.1 78 (μ.1 75 25).toInt.toNat).toInt ≤ 28
  · have h8 := kmp_l (x := (μ.1 78 (μ.1 75 25).toInt.toNat).toInt) (by omega)
    have h7 : (μ.1 78 (μ.1 75 25).toInt.toNat).toInt = 20 ∨ (μ.1 78 (μ.1 75 25).toInt.toNat).toInt = 21 ∨ (μ.1 78 (μ.1 75 25).toInt.toNat).toInt = 22 ∨ (μ.1 78 (μ.1 75 25).toInt.toNat).toInt = 23 ∨ (μ.1 78 (μ.1 75 25).toInt.toNat).toInt = 24 ∨ (μ.1 78 (μ.1 75 25).toInt.toNat).toInt = 25 ∨ (μ.1 78 (μ.1 75 25).toInt.toNat).toInt = 26 ∨ (μ.1 78 (μ.1 75 25).toInt.toNat).toInt = 27 ∨ (μ.1 78 (μ.1 75 25).toInt.toNat).toInt = 28 := by omega
    rcases h7 with e | e | e | e | e | e | e | e | e
    · exact rz1_house h0 hI hf hO hs hs1 hb0 hB0 hT (by omega)
    · exact rz1_verse h0 hI hf hO hs hs1 hb0 hB0 hT (by omega)
    · exact rz1_law2 h0 hI hf hO hs hs1 hb0 hB0 e
    · exact rz1_law3 h0 hI hf hO hs hs1 hb0 hB0 e
    · exact rz1_law4 h0 hI hf hO hs hs1 hb0 hB0 e
    · exact rz1_law5 h0 hI hf hO hs hs1 hb0 hB0 e
    · exact rz1_spoils h0 hI hf hO hs hs1 hb0 hB0 hT (by omega)
    · exact rz1_thieves h0 hI hf hO hs hs1 hb0 hB0 hT (by omega)
    · exact rz1_seed h0 hI hf hO hs hs1 hb0 hB0 hT (by omega)
  · exact rz1_else h0 hI hf hO hs hs1 hb0 hB0 hT (by omega) (kmp_p (x := (μ.1 78 (μ.1 75 25).toInt.toNat).toInt) hk0).1
