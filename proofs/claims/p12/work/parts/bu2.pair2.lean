set_option maxRecDepth 10000 in
set_option maxHeartbeats 4000000 in
theorem zT_set {v : Int32} {S : kSt} {s m : Nat} {G : Nat → Nat → Int32} {Z : Nat → Option (Nat → Int32)} {μ μ1 μ2 : xM} {r r' : Option zV} (hz : zT9 S s m G Z μ) (h1 : Ex gx xq_100 [.inr (.inl (some 0)), .inl v] μ r μ1) (h2 : Ex gx xq_184 [.inr (.inl (some 75)), .inl v] μ1 r' μ2) : (∃ x : Int32, r = some (.inl x) ∧ r' = some (.inl x)) ∧ ∃ m' G', zT9 S s m' G' Z μ2 := by
  obtain ⟨hO, hP, hI, hS, hR, hT, hL, hH, ⟨hp, hpG⟩, hz⟩ := hz
  have e := rE_w (by decide +kernel) (hf_100_0 h1 (hEn0 (by decide)) hO).2 hO
  have hR1 : rS9 S s μ1 := rS9_cg hR (fun k j a b => e k j (by omega) (by omega)) (e 75 2 (by decide) (by decide))
  have hH1 : mH m G μ1 := mH_cg hH (e 75 10 (by decide) (by decide)) (fun j => e 112 j (by decide) (by decide))
  have eN := rNow_cg e
  have hz1 : zH S Z μ1 := zH_cg hz (fun j => hSt (hf_100_0 h1 (hEn0 (by decide)) hO).2 hO (by decide) (hpA_ok (by decide +kernel) j)) (fun j => e 117 j (by decide) (by decide)) (fun j => e 118 j (by decide) (by decide))
  have hn : ∀ x, x < 390 → μ1.1 107 x = rNow μ x := fun x hx => by rw [← eN, rNow_lt hx]
  have hc := ex_cset h1 hO hP hS hT hI hL
  have hm := ex_mset h2 hR1 hH1
  rcases hc with ⟨rfl, c1, c3, c2⟩ | ⟨rfl, vn, ρ1, k1, k2, k3, k4, c6, c7, c8, c9, cb, cc⟩
  · rcases hm with ⟨rfl, g, g2, g3, g4⟩ | ⟨rfl, g, vm, ρ2, m1, m2, m3, m4, m6, m7⟩
    · have d : ∀ a j, a < 49 ∨ 58 < a → μ1.1 a j = μ.1 a j := fun a j q => c1 a j (by omega) (by omega) (by omega) (by omega) (by omega) (by omega) (by omega) (by omega) (by omega)
      exact ⟨⟨_, rfl, rfl⟩, m, G, zT_2 (hOK_2 c3 hO) (pOK9_2 c3 hP) (hsI_2 c3 hI) (cS9_cg hS (fun k j a b => d k j (by omega))) (tw9_cg hT (fun a j p q => d a j (by omega))) (hsL_cg hI hL c3 ⟨d 40 1 (by omega), d 40 2 (by omega)⟩ (fun a j q => d a j (by omega))) hR1 (gT9_S g) g3 (fun x hx => (g2 x).trans (hn x hx)) hp hpG hz1⟩
    · have z := c2 vm m1 m2 (by rw [← eN]; exact m3)
      rw [eN] at m4
      rw [m4] at z
      cases z
  · rcases hm with ⟨rfl, g, g2, g3, g4⟩ | ⟨rfl, g, vm, ρ2, m1, m2, m3, m4, m6, m7⟩
    · have z := g4 vn k1 k2 (by rw [eN]; exact k3)
      rw [eN, k4] at z
      cases z
    · obtain rfl : vm = vn := by omega
      rw [eN, k4] at m4
      obtain rfl := Option.some.inj m4
      refine ⟨⟨_, rfl, rfl⟩, _, _, zT_2 c9 cb c8 cc c6 c7 hR1 (gT9_S g) (mH_r m7 (fun i hi x hx => ?_)) m6 (pI_set hS.1 hp k2 k3 k4) (pG_c hp hpG) hz1⟩
      cases i with
      | zero => exact (hn x hx).symm
      | succ i => rfl
set_option maxRecDepth 10000 in
set_option maxHeartbeats 4000000 in
theorem zT_undo {S : kSt} {s m : Nat} {G : Nat → Nat → Int32} {Z : Nat → Option (Nat → Int32)} {μ μ1 μ2 : xM} {r r' : Option zV} (hz : zT9 S s m G Z μ) (h1 : Ex gx xq_109 [.inr (.inl (some 0))] μ r μ1) (h2 : Ex gx xq_194 [.inr (.inl (some 75))] μ1 r' μ2) : (∃ x : Int32, r = some (.inl x) ∧ r' = some (.inl x)) ∧ ∃ m' G', zT9 S s m' G' Z μ2 := by
  obtain ⟨hO, hP, hI, hS, hR, hT, hL, hH, ⟨hp, hpG⟩, hz⟩ := hz
  have e := rE_w (by decide +kernel) (hf_109_0 h1 (hEn0 (by decide)) hO).2 hO
  have hR1 : rS9 S s μ1 := rS9_cg hR (fun k j a b => e k j (by omega) (by omega)) (e 75 2 (by decide) (by decide))
  have hH1 : mH m G μ1 := mH_cg hH (e 75 10 (by decide) (by decide)) (fun j => e 112 j (by decide) (by decide))
  have eN := rNow_cg e
  have hz1 : zH S Z μ1 := zH_cg hz (fun j => hSt (hf_109_0 h1 (hEn0 (by decide)) hO).2 hO (by decide) (hpA_ok (by decide +kernel) j)) (fun j => e 117 j (by decide) (by decide)) (fun j => e 118 j (by decide) (by decide))
  have hn : ∀ x, x < 390 → μ1.1 107 x = rNow μ x := fun x hx => by rw [← eN, rNow_lt hx]
  have hc := ex_cundo h1 hO hI hS.1 hL
  have hm := ex_mundo h2 hH1
  rcases hc with ⟨rfl, c1, c2⟩ | ⟨rfl, c2, c3, c4, c5, c6, c7, c8⟩
  · rcases hm with ⟨rfl, g1, g2⟩ | ⟨rfl, g2, -⟩
    · subst c1 g1
      exact ⟨⟨_, rfl, rfl⟩, m, G, hO, hP, hI, hS, hR, hT, hL, hH, ⟨hp, hpG⟩, hz⟩
    · omega
  · rcases hm with ⟨rfl, g1, g2⟩ | ⟨rfl, g2, g3, g4, g5, g6⟩
    · omega
    · have g : gS9 μ1 μ2 := ⟨fun a j b1 b2 b3 b4 b5 b6 => g5 a j b3 (fun q => b6 ⟨q.1, by omega⟩), g6⟩
      exact ⟨⟨_, rfl, rfl⟩, _, _, zT_2 c6 (pOK9_2 c8 hP) c5 (cS9_cg hS (fun k j a b => c7 k j (by omega) (by omega))) c3 c4 hR1 (gT9_S g) g4 g3 (hpG 0 c2) (fun i hi => hpG (i + 1) (by omega)) hz1⟩
