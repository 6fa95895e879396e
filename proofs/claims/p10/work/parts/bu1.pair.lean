/-! ===== THE TOWNS BETWEEN CALLS ===== -/
def zT9 (S : kSt) (s m : Nat) (G : Nat → Nat → Int32) (μ : xM) : Prop := hOK μ ∧ pOK9 μ ∧ hsI μ ∧ cS9 S μ ∧ rS9 S s μ ∧ tw9 S 28 (rNow μ) μ ∧ hsL S m G μ ∧ mH m G μ
noncomputable def rEB (W : hW) : Bool := (List.range 44).all (fun k => hpA W (75 + k))
theorem rE_w {W : hW} {μ μ' : xM} (hk : rEB W = true) (h : hRm (hP W) (hQ W) μ μ') (hO : hOK μ) : ∀ k j, 75 ≤ k → k ≤ 118 → μ'.1 k j = μ.1 k j := fun k j h1 h2 => hSt h hO (by omega) (hpA_ok (by
  have := List.all_eq_true.mp hk (k - 75) (List.mem_range.mpr (by omega))
  rw [show 75 + (k - 75) = k by omega] at this
  exact this) j)
theorem rNow_cg {μ ν : xM} (e : ∀ k j, 75 ≤ k → k ≤ 118 → ν.1 k j = μ.1 k j) : rNow ν = rNow μ := by
  funext x
  unfold rNow
  rw [e 107 x (by decide) (by decide), e 108 x (by decide) (by decide)]
theorem zT_2 {S : kSt} {s m : Nat} {G : Nat → Nat → Int32} {ρ : Nat → Int32} {μ ν : xM} (hO : hOK μ) (hP : pOK9 μ) (hI : hsI μ) (hS : cS9 S μ) (hT : tw9 S 28 ρ μ) (hL : hsL S m G μ) (hR : rS9 S s μ) (g : gS9 μ ν) (hH : mH m G ν) (e : ∀ x, x < 390 → ν.1 107 x = ρ x) : zT9 S s m G ν := by
  have c : ∀ a j, a < 75 ∨ 118 < a → ν.1 a j = μ.1 a j := fun a j q => g.1 a j (by omega) (by omega) (by omega) (by omega) (by omega) (by omega)
  refine ⟨hOK_2 g.2 hO, pOK9_2 g.2 hP, hsI_2 g.2 hI, cS9_cg hS (fun k j a b => c k j (by omega)), rS9_S hR g, ?_, ?_, hH⟩
  · exact tw9_r hS.1 (tw9_cg hT (fun a j p q => c a j (by omega))) (fun x hx => (rNow_lt hx).trans (e x hx))
  · exact hsL_cg hI hL g.2 ⟨c 40 1 (by omega), c 40 2 (by omega)⟩ (fun a j q => c a j (by omega))
set_option maxRecDepth 10000 in
set_option maxHeartbeats 4000000 in
theorem zT_clear {v : Int32} {S : kSt} {s m : Nat} {G : Nat → Nat → Int32} {μ μ1 μ2 : xM} {r r' : Option zV} (hz : zT9 S s m G μ) (h1 : Ex gx xq_77 [.inr (.inl (some 0)), .inl v] μ r μ1) (h2 : Ex gx xq_127 [.inr (.inl (some 75)), .inl v] μ1 r' μ2) : (∃ x : Int32, r = some (.inl x) ∧ r' = some (.inl x)) ∧ ∃ m' G', zT9 S s m' G' μ2 := by
  obtain ⟨hO, hP, hI, hS, hR, hT, hL, hH⟩ := hz
  have e := rE_w (by decide +kernel) (hf_77_0 h1 (hEn0 (by decide)) hO).2 hO
  have hR1 : rS9 S s μ1 := rS9_cg hR (fun k j a b => e k j (by omega) (by omega)) (e 75 2 (by decide) (by decide))
  have hH1 : mH m G μ1 := mH_cg hH (e 75 10 (by decide) (by decide)) (fun j => e 112 j (by decide) (by decide))
  have eN := rNow_cg e
  have hn : ∀ x, x < 390 → μ1.1 107 x = rNow μ x := fun x hx => by rw [← eN, rNow_lt hx]
  have hc := ex_cclear h1 hO hP hS hT hI hL
  have hm := ex_mclear h2 hR1 hH1 (by rw [eN]; exact fun vm h5 h6 i hi => ((hT.2 vm h5).2.2.2 h6 i hi).2.2)
  rcases hc with ⟨rfl, c1, c2⟩ | ⟨rfl, vn, k1, k2, k3, c6, c7, c8, c9, cb, cc⟩
  · rcases hm with ⟨rfl, g, g2, g3, g4⟩ | ⟨rfl, g, vm, m1, m2, m3, m6, m7⟩
    · subst c1
      exact ⟨⟨_, rfl, rfl⟩, m, G, zT_2 hO hP hI hS hT hL hR1 g g3 (fun x hx => (g2 x).trans (hn x hx))⟩
    · exact absurd (by rw [← eN]; exact m3) (c2 vm m1 m2)
  · rcases hm with ⟨rfl, g, g2, g3, g4⟩ | ⟨rfl, g, vm, m1, m2, m3, m6, m7⟩
    · exact absurd (by rw [eN]; exact k3) (g4 vn k1 k2)
    · obtain rfl : vm = vn := by omega
      refine ⟨⟨_, rfl, rfl⟩, _, _, zT_2 c9 cb c8 cc c6 c7 hR1 g (mH_r m7 (fun i hi x hx => ?_)) (fun x hx => ?_)⟩
      · cases i with
        | zero => exact (hn x hx).symm
        | succ i => rfl
      · rw [m6 x hx, eN]
set_option maxRecDepth 10000 in
set_option maxHeartbeats 4000000 in
theorem zT_lend {a b l : Int32} {S : kSt} {s m : Nat} {G : Nat → Nat → Int32} {μ μ1 μ2 : xM} {r r' : Option zV} (hz : zT9 S s m G μ) (h1 : Ex gx xq_93 [.inr (.inl (some 0)), .inl a, .inl b, .inl l] μ r μ1) (h2 : Ex gx xq_160 [.inr (.inl (some 75)), .inl a, .inl b, .inl l] μ1 r' μ2) : (∃ x : Int32, r = some (.inl x) ∧ r' = some (.inl x)) ∧ ∃ m' G', zT9 S s m' G' μ2 := by
  obtain ⟨hO, hP, hI, hS, hR, hT, hL, hH⟩ := hz
  have e := rE_w (by decide +kernel) (hf_93_0 h1 (hEn0 (by decide)) hO).2 hO
  have hR1 : rS9 S s μ1 := rS9_cg hR (fun k j a b => e k j (by omega) (by omega)) (e 75 2 (by decide) (by decide))
  have hH1 : mH m G μ1 := mH_cg hH (e 75 10 (by decide) (by decide)) (fun j => e 112 j (by decide) (by decide))
  have eN := rNow_cg e
  have hn : ∀ x, x < 390 → μ1.1 107 x = rNow μ x := fun x hx => by rw [← eN, rNow_lt hx]
  have hc := ex_clend h1 hO hP hS hT hI hL
  have hm := ex_mlend h2 hR1 hH1
  rcases hc with ⟨rfl, c1, c2⟩ | ⟨rfl, hn1, on1, ln1, k1, k2, k3, k4, k5, k6, k7, k8, c6, c7, c8, c9, cb, cc⟩
  · rcases hm with ⟨rfl, g, g2, g3, g4⟩ | ⟨rfl, g, hn2, on2, ln2, j1, j2, j3, j4, j5, j6, j7, j8, m6, m7⟩
    · subst c1
      exact ⟨⟨_, rfl, rfl⟩, m, G, zT_2 hO hP hI hS hT hL hR1 g g3 (fun x hx => (g2 x).trans (hn x hx))⟩
    · exact absurd (c2 _ _ _ j1 j2 j3 j4 j5 j6 j7) (by rw [← eN]; exact j8)
  · rcases hm with ⟨rfl, g, g2, g3, g4⟩ | ⟨rfl, g, hn2, on2, ln2, j1, j2, j3, j4, j5, j6, j7, j8, m6, m7⟩
    · exact absurd (g4 _ _ _ k1 k2 k3 k4 k5 k6 k7) (by rw [eN]; exact k8)
    · obtain ⟨rfl, rfl, rfl⟩ : hn2 = hn1 ∧ on2 = on1 ∧ ln2 = ln1 := ⟨by omega, by omega, by omega⟩
      refine ⟨⟨_, rfl, rfl⟩, _, _, zT_2 c9 cb c8 cc c6 c7 hR1 g (mH_r m7 (fun i hi x hx => ?_)) (fun x hx => ?_)⟩
      · cases i with
        | zero => exact (hn x hx).symm
        | succ i => rfl
      · rw [m6 x hx, eN]
set_option maxRecDepth 10000 in
set_option maxHeartbeats 4000000 in
theorem zT_giveBack {a b l : Int32} {S : kSt} {s m : Nat} {G : Nat → Nat → Int32} {μ μ1 μ2 : xM} {r r' : Option zV} (hz : zT9 S s m G μ) (h1 : Ex gx xq_84 [.inr (.inl (some 0)), .inl a, .inl b, .inl l] μ r μ1) (h2 : Ex gx xq_140 [.inr (.inl (some 75)), .inl a, .inl b, .inl l] μ1 r' μ2) : (∃ x : Int32, r = some (.inl x) ∧ r' = some (.inl x)) ∧ ∃ m' G', zT9 S s m' G' μ2 := by
  obtain ⟨hO, hP, hI, hS, hR, hT, hL, hH⟩ := hz
  have e := rE_w (by decide +kernel) (hf_84_0 h1 (hEn0 (by decide)) hO).2 hO
  have hR1 : rS9 S s μ1 := rS9_cg hR (fun k j a b => e k j (by omega) (by omega)) (e 75 2 (by decide) (by decide))
  have hH1 : mH m G μ1 := mH_cg hH (e 75 10 (by decide) (by decide)) (fun j => e 112 j (by decide) (by decide))
  have eN := rNow_cg e
  have hn : ∀ x, x < 390 → μ1.1 107 x = rNow μ x := fun x hx => by rw [← eN, rNow_lt hx]
  have hc := ex_cgiveBack h1 hO hP hS hT hI hL
  have hm := ex_mgiveBack h2 hR1 hH1
  rcases hc with ⟨rfl, c1, c2⟩ | ⟨rfl, hn1, on1, ln1, k1, k2, k3, k4, k5, k6, k7, k8, c6, c7, c8, c9, cb, cc⟩
  · rcases hm with ⟨rfl, g, g2, g3, g4⟩ | ⟨rfl, g, hn2, on2, ln2, j1, j2, j3, j4, j5, j6, j7, j8, m6, m7⟩
    · subst c1
      exact ⟨⟨_, rfl, rfl⟩, m, G, zT_2 hO hP hI hS hT hL hR1 g g3 (fun x hx => (g2 x).trans (hn x hx))⟩
    · exact absurd (c2 _ _ _ j1 j2 j3 j4 j5 j6 j7) (by rw [← eN]; exact j8)
  · rcases hm with ⟨rfl, g, g2, g3, g4⟩ | ⟨rfl, g, hn2, on2, ln2, j1, j2, j3, j4, j5, j6, j7, j8, m6, m7⟩
    · exact absurd (g4 _ _ _ k1 k2 k3 k4 k5 k6 k7) (by rw [eN]; exact k8)
    · obtain ⟨rfl, rfl, rfl⟩ : hn2 = hn1 ∧ on2 = on1 ∧ ln2 = ln1 := ⟨by omega, by omega, by omega⟩
      refine ⟨⟨_, rfl, rfl⟩, _, _, zT_2 c9 cb c8 cc c6 c7 hR1 g (mH_r m7 (fun i hi x hx => ?_)) (fun x hx => ?_)⟩
      · cases i with
        | zero => exact (hn x hx).symm
        | succ i => rfl
      · rw [m6 x hx, eN]
