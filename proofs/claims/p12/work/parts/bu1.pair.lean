/-! ===== THE TOWNS BETWEEN CALLS ===== -/
/-- what is held, on both sides -/
def zH (S : kSt) (Z : Nat → Option (Nat → Int32)) (μ : xM) : Prop := ∀ i, i < 3 → μ.1 43 i = μ.1 117 i ∧ ((Z i = none ∧ μ.1 43 i = 0) ∨ ∃ ρ, Z i = some ρ ∧ μ.1 43 i = 1 ∧ pI S ρ ∧ ∀ x, x < 390 → μ.1 118 (390 * i + x) = ρ x)
theorem zH_cg {S : kSt} {Z : Nat → Option (Nat → Int32)} {μ ν : xM} (h : zH S Z μ) (e1 : ∀ j, ν.1 43 j = μ.1 43 j) (e2 : ∀ j, ν.1 117 j = μ.1 117 j) (e3 : ∀ j, ν.1 118 j = μ.1 118 j) : zH S Z ν := fun i hi => by
  obtain ⟨a, b⟩ := h i hi
  rw [e1, e2]
  refine ⟨a, ?_⟩
  rcases b with b | ⟨ρ, b1, b2, b3, b4⟩
  · exact Or.inl b
  · exact Or.inr ⟨ρ, b1, b2, b3, fun x hx => by rw [e3]; exact b4 x hx⟩
/-- between the calls: both towns, what they can go back to, what is held -/
def zT9 (S : kSt) (s m : Nat) (G : Nat → Nat → Int32) (Z : Nat → Option (Nat → Int32)) (μ : xM) : Prop := hOK μ ∧ pOK9 μ ∧ hsI μ ∧ cS9 S μ ∧ rS9 S s μ ∧ tw9 S 28 (rNow μ) μ ∧ hsL S Z m G μ ∧ mH m G μ ∧ (pI S (rNow μ) ∧ ∀ i, i < m → pI S (G i)) ∧ zH S Z μ
/-- what a call of the reference may change -/
def gT9 (μ μ' : xM) : Prop := (∀ a j, ¬ (105 ≤ a ∧ a ≤ 113) → ¬ (a = 75 ∧ ¬ j = 2) → μ'.1 a j = μ.1 a j) ∧ μ'.2 = μ.2
theorem gT9_S {μ ν : xM} (h : gS9 μ ν) : gT9 μ ν := ⟨fun a j p q => h.1 a j (by omega) (by omega) (by omega) (by omega) (by omega) (fun z => q ⟨z.1, by omega⟩), h.2⟩
theorem rS9_T {S : kSt} {s : Nat} {μ ν : xM} (h : rS9 S s μ) (e : gT9 μ ν) : rS9 S s ν := rS9_cg h (fun k j a b => e.1 k j (by omega) (by omega)) (e.1 75 2 (by decide) (by decide))
noncomputable def rEB (W : hW) : Bool := (List.range 44).all (fun k => hpA W (75 + k))
theorem rE_w {W : hW} {μ μ' : xM} (hk : rEB W = true) (h : hRm (hP W) (hQ W) μ μ') (hO : hOK μ) : ∀ k j, 75 ≤ k → k ≤ 118 → μ'.1 k j = μ.1 k j := fun k j h1 h2 => hSt h hO (by omega) (hpA_ok (by
  have := List.all_eq_true.mp hk (k - 75) (List.mem_range.mpr (by omega))
  rw [show 75 + (k - 75) = k by omega] at this
  exact this) j)
theorem rNow_cg {μ ν : xM} (e : ∀ k j, 75 ≤ k → k ≤ 118 → ν.1 k j = μ.1 k j) : rNow ν = rNow μ := by
  funext x
  unfold rNow
  rw [e 107 x (by decide) (by decide), e 108 x (by decide) (by decide)]
theorem zT_2 {S : kSt} {s m : Nat} {G : Nat → Nat → Int32} {Z : Nat → Option (Nat → Int32)} {ρ : Nat → Int32} {μ ν : xM} (hO : hOK μ) (hP : pOK9 μ) (hI : hsI μ) (hS : cS9 S μ) (hT : tw9 S 28 ρ μ) (hL : hsL S Z m G μ) (hR : rS9 S s μ) (g : gT9 μ ν) (hH : mH m G ν) (e : ∀ x, x < 390 → ν.1 107 x = ρ x) (hp : pI S ρ) (hpG : ∀ i, i < m → pI S (G i)) (hz : zH S Z μ) : zT9 S s m G Z ν := by
  have c : ∀ a j, a < 75 ∨ 118 < a → ν.1 a j = μ.1 a j := fun a j q => g.1 a j (by omega) (by omega)
  have er : ∀ x, x < 390 → rNow ν x = ρ x := fun x hx => (rNow_lt hx).trans (e x hx)
  refine ⟨hOK_2 g.2 hO, pOK9_2 g.2 hP, hsI_2 g.2 hI, cS9_cg hS (fun k j a b => c k j (by omega)), rS9_T hR g, ?_, ?_, hH, ⟨pI_r hS.1 hp er, hpG⟩, zH_cg hz (fun j => c 43 j (by omega)) (fun j => g.1 117 j (by omega) (by omega)) (fun j => g.1 118 j (by omega) (by omega))⟩
  · exact tw9_r hS.1 (tw9_cg hT (fun a j p q => c a j (by omega))) er
  · exact hsL_cg hI hL g.2 ⟨c 40 1 (by omega), c 40 2 (by omega)⟩ (fun a j q => c a j (by omega))
theorem pG_c {S : kSt} {m : Nat} {ρ : Nat → Int32} {G : Nat → Nat → Int32} (hp : pI S ρ) (hG : ∀ i, i < m → pI S (G i)) : ∀ i, i < min 30 (m + 1) → pI S (gcons ρ G i)
  | 0, _ => hp
  | i + 1, hi => hG i (by omega)
set_option maxRecDepth 10000 in
set_option maxHeartbeats 4000000 in
theorem zT_clear {v : Int32} {S : kSt} {s m : Nat} {G : Nat → Nat → Int32} {Z : Nat → Option (Nat → Int32)} {μ μ1 μ2 : xM} {r r' : Option zV} (hz : zT9 S s m G Z μ) (h1 : Ex gx xq_77 [.inr (.inl (some 0)), .inl v] μ r μ1) (h2 : Ex gx xq_127 [.inr (.inl (some 75)), .inl v] μ1 r' μ2) : (∃ x : Int32, r = some (.inl x) ∧ r' = some (.inl x)) ∧ ∃ m' G', zT9 S s m' G' Z μ2 := by
  obtain ⟨hO, hP, hI, hS, hR, hT, hL, hH, ⟨hp, hpG⟩, hz⟩ := hz
  have e := rE_w (by decide +kernel) (hf_77_0 h1 (hEn0 (by decide)) hO).2 hO
  have hR1 : rS9 S s μ1 := rS9_cg hR (fun k j a b => e k j (by omega) (by omega)) (e 75 2 (by decide) (by decide))
  have hH1 : mH m G μ1 := mH_cg hH (e 75 10 (by decide) (by decide)) (fun j => e 112 j (by decide) (by decide))
  have eN := rNow_cg e
  have hz1 : zH S Z μ1 := zH_cg hz (fun j => hSt (hf_77_0 h1 (hEn0 (by decide)) hO).2 hO (by decide) (hpA_ok (by decide +kernel) j)) (fun j => e 117 j (by decide) (by decide)) (fun j => e 118 j (by decide) (by decide))
  have hn : ∀ x, x < 390 → μ1.1 107 x = rNow μ x := fun x hx => by rw [← eN, rNow_lt hx]
  have hc := ex_cclear h1 hO hP hS hT hI hL
  have hm := ex_mclear h2 hR1 hH1 (by rw [eN]; exact fun vm h5 h6 i hi => ((hT.2 vm h5).2.2.2 h6 i hi).2.2)
  rcases hc with ⟨rfl, c1, c2⟩ | ⟨rfl, vn, k1, k2, k3, c6, c7, c8, c9, cb, cc⟩
  · rcases hm with ⟨rfl, g, g2, g3, g4⟩ | ⟨rfl, g, vm, m1, m2, m3, m6, m7⟩
    · subst c1
      exact ⟨⟨_, rfl, rfl⟩, m, G, zT_2 hO hP hI hS hT hL hR1 (gT9_S g) g3 (fun x hx => (g2 x).trans (hn x hx)) hp hpG hz1⟩
    · exact absurd (by rw [← eN]; exact m3) (c2 vm m1 m2)
  · rcases hm with ⟨rfl, g, g2, g3, g4⟩ | ⟨rfl, g, vm, m1, m2, m3, m6, m7⟩
    · exact absurd (by rw [eN]; exact k3) (g4 vn k1 k2)
    · obtain rfl : vm = vn := by omega
      refine ⟨⟨_, rfl, rfl⟩, _, _, zT_2 c9 cb c8 cc c6 c7 hR1 (gT9_S g) (mH_r m7 (fun i hi x hx => ?_)) (fun x hx => ?_) (pI_clr hS.1 hp k2 k3 (fun i hi => ((hT.2 _ k2).2.2.2 k3 i hi).2)) (pG_c hp hpG) hz1⟩
      · cases i with
        | zero => exact (hn x hx).symm
        | succ i => rfl
      · rw [m6 x hx, eN]
set_option maxRecDepth 10000 in
set_option maxHeartbeats 4000000 in
theorem zT_lend {a b l : Int32} {S : kSt} {s m : Nat} {G : Nat → Nat → Int32} {Z : Nat → Option (Nat → Int32)} {μ μ1 μ2 : xM} {r r' : Option zV} (hz : zT9 S s m G Z μ) (h1 : Ex gx xq_93 [.inr (.inl (some 0)), .inl a, .inl b, .inl l] μ r μ1) (h2 : Ex gx xq_160 [.inr (.inl (some 75)), .inl a, .inl b, .inl l] μ1 r' μ2) : (∃ x : Int32, r = some (.inl x) ∧ r' = some (.inl x)) ∧ ∃ m' G', zT9 S s m' G' Z μ2 := by
  obtain ⟨hO, hP, hI, hS, hR, hT, hL, hH, ⟨hp, hpG⟩, hz⟩ := hz
  have e := rE_w (by decide +kernel) (hf_93_0 h1 (hEn0 (by decide)) hO).2 hO
  have hR1 : rS9 S s μ1 := rS9_cg hR (fun k j a b => e k j (by omega) (by omega)) (e 75 2 (by decide) (by decide))
  have hH1 : mH m G μ1 := mH_cg hH (e 75 10 (by decide) (by decide)) (fun j => e 112 j (by decide) (by decide))
  have eN := rNow_cg e
  have hz1 : zH S Z μ1 := zH_cg hz (fun j => hSt (hf_93_0 h1 (hEn0 (by decide)) hO).2 hO (by decide) (hpA_ok (by decide +kernel) j)) (fun j => e 117 j (by decide) (by decide)) (fun j => e 118 j (by decide) (by decide))
  have hn : ∀ x, x < 390 → μ1.1 107 x = rNow μ x := fun x hx => by rw [← eN, rNow_lt hx]
  have hc := ex_clend h1 hO hP hS hT hI hL
  have hm := ex_mlend h2 hR1 hH1
  rcases hc with ⟨rfl, c1, c2⟩ | ⟨rfl, hn1, on1, ln1, k1, k2, k3, k4, k5, k6, k7, k8, c6, c7, c8, c9, cb, cc⟩
  · rcases hm with ⟨rfl, g, g2, g3, g4⟩ | ⟨rfl, g, hn2, on2, ln2, j1, j2, j3, j4, j5, j6, j7, j8, m6, m7⟩
    · subst c1
      exact ⟨⟨_, rfl, rfl⟩, m, G, zT_2 hO hP hI hS hT hL hR1 (gT9_S g) g3 (fun x hx => (g2 x).trans (hn x hx)) hp hpG hz1⟩
    · exact absurd (c2 _ _ _ j1 j2 j3 j4 j5 j6 j7) (by rw [← eN]; exact j8)
  · rcases hm with ⟨rfl, g, g2, g3, g4⟩ | ⟨rfl, g, hn2, on2, ln2, j1, j2, j3, j4, j5, j6, j7, j8, m6, m7⟩
    · exact absurd (g4 _ _ _ k1 k2 k3 k4 k5 k6 k7) (by rw [eN]; exact k8)
    · obtain ⟨rfl, rfl, rfl⟩ : hn2 = hn1 ∧ on2 = on1 ∧ ln2 = ln1 := ⟨by omega, by omega, by omega⟩
      refine ⟨⟨_, rfl, rfl⟩, _, _, zT_2 c9 cb c8 cc c6 c7 hR1 (gT9_S g) (mH_r m7 (fun i hi x hx => ?_)) (fun x hx => ?_) (pI_ld hS.1 hp k4 k5 k7) (pG_c hp hpG) hz1⟩
      · cases i with
        | zero => exact (hn x hx).symm
        | succ i => rfl
      · rw [m6 x hx, eN]
set_option maxRecDepth 10000 in
set_option maxHeartbeats 4000000 in
theorem zT_giveBack {a b l : Int32} {S : kSt} {s m : Nat} {G : Nat → Nat → Int32} {Z : Nat → Option (Nat → Int32)} {μ μ1 μ2 : xM} {r r' : Option zV} (hz : zT9 S s m G Z μ) (h1 : Ex gx xq_84 [.inr (.inl (some 0)), .inl a, .inl b, .inl l] μ r μ1) (h2 : Ex gx xq_140 [.inr (.inl (some 75)), .inl a, .inl b, .inl l] μ1 r' μ2) : (∃ x : Int32, r = some (.inl x) ∧ r' = some (.inl x)) ∧ ∃ m' G', zT9 S s m' G' Z μ2 := by
  obtain ⟨hO, hP, hI, hS, hR, hT, hL, hH, ⟨hp, hpG⟩, hz⟩ := hz
  have e := rE_w (by decide +kernel) (hf_84_0 h1 (hEn0 (by decide)) hO).2 hO
  have hR1 : rS9 S s μ1 := rS9_cg hR (fun k j a b => e k j (by omega) (by omega)) (e 75 2 (by decide) (by decide))
  have hH1 : mH m G μ1 := mH_cg hH (e 75 10 (by decide) (by decide)) (fun j => e 112 j (by decide) (by decide))
  have eN := rNow_cg e
  have hz1 : zH S Z μ1 := zH_cg hz (fun j => hSt (hf_84_0 h1 (hEn0 (by decide)) hO).2 hO (by decide) (hpA_ok (by decide +kernel) j)) (fun j => e 117 j (by decide) (by decide)) (fun j => e 118 j (by decide) (by decide))
  have hn : ∀ x, x < 390 → μ1.1 107 x = rNow μ x := fun x hx => by rw [← eN, rNow_lt hx]
  have hc := ex_cgiveBack h1 hO hP hS hT hI hL
  have hm := ex_mgiveBack h2 hR1 hH1
  rcases hc with ⟨rfl, c1, c2⟩ | ⟨rfl, hn1, on1, ln1, k1, k2, k3, k4, k5, k6, k7, k8, c6, c7, c8, c9, cb, cc⟩
  · rcases hm with ⟨rfl, g, g2, g3, g4⟩ | ⟨rfl, g, hn2, on2, ln2, j1, j2, j3, j4, j5, j6, j7, j8, m6, m7⟩
    · subst c1
      exact ⟨⟨_, rfl, rfl⟩, m, G, zT_2 hO hP hI hS hT hL hR1 (gT9_S g) g3 (fun x hx => (g2 x).trans (hn x hx)) hp hpG hz1⟩
    · exact absurd (c2 _ _ _ j1 j2 j3 j4 j5 j6 j7) (by rw [← eN]; exact j8)
  · rcases hm with ⟨rfl, g, g2, g3, g4⟩ | ⟨rfl, g, hn2, on2, ln2, j1, j2, j3, j4, j5, j6, j7, j8, m6, m7⟩
    · exact absurd (g4 _ _ _ k1 k2 k3 k4 k5 k6 k7) (by rw [eN]; exact k8)
    · obtain ⟨rfl, rfl, rfl⟩ : hn2 = hn1 ∧ on2 = on1 ∧ ln2 = ln1 := ⟨by omega, by omega, by omega⟩
      refine ⟨⟨_, rfl, rfl⟩, _, _, zT_2 c9 cb c8 cc c6 c7 hR1 (gT9_S g) (mH_r m7 (fun i hi x hx => ?_)) (fun x hx => ?_) (pI_gb hS.1 hp k4 k5 k7) (pG_c hp hpG) hz1⟩
      · cases i with
        | zero => exact (hn x hx).symm
        | succ i => rfl
      · rw [m6 x hx, eN]
