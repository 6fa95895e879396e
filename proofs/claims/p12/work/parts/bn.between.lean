/-! ===== BETWEEN THE CALLS: both tapes are alike ===== -/
def lwT (μ : xM) : Prop := 119 ≤ μ.2.2.2 ∧ (0 ≤ (μ.1 0 6).toInt ∧ (μ.1 0 6).toInt ≤ 2000) ∧ (μ.1 75 12).toInt = (μ.1 0 6).toInt ∧ (∀ j : Nat, μ.1 76 j = μ.1 1 j) ∧ (∀ j : Nat, -128 ≤ (μ.1 1 j).toInt ∧ (μ.1 1 j).toInt ≤ 127) ∧ ∀ j : Nat, j < 21 → (μ.2.1 82 j).toInt = wKey j
theorem lwT_f {μ μ' : xM} (hf : fRm fA0 fF0 μ μ') (h : lwT μ) : lwT μ' := by
  obtain ⟨h1, h2, h3, h4, h5, h6⟩ := h
  obtain ⟨g1, g2, g3, g4⟩ := hf h1
  have q1 : μ'.1 0 6 = μ.1 0 6 := g4 (0, 11, 6) (by decide)
  have q2 : μ'.1 75 12 = μ.1 75 12 := g4 (75, 12, 12) (by decide)
  have e1 : ∀ j, μ'.1 1 j = μ.1 1 j := g2 1 (by decide) (by decide)
  have e76 : ∀ j, μ'.1 76 j = μ.1 76 j := g2 76 (by decide) (by decide)
  exact ⟨g1, by rw [q1]; exact h2, by rw [q1, q2]; exact h3, fun j => by rw [e76, e1]; exact h4 j, fun j => by rw [e1]; exact h5 j, fun j hj => by rw [g3]; exact h6 j hj⟩
/-- both calls of a case leave the tapes -/
theorem lwT_2 {a b : Nat} {q q' : xP} {as as' : List zV} {r r' : Option zV} {μ μ1 μ2 : xM} (hq : xMB a = some q) (hl : fL2 a = true) (hq' : xMB b = some q') (hl' : fL2 b = true) (h : Ex gx q as μ r μ1) (h' : Ex gx q' as' μ1 r' μ2) (hR : lwT μ) : lwT μ2 := lwT_f (fR2 hq' hl' h') (lwT_f (fR2 hq hl h) hR)
theorem lwT_feed {a b d e f : Int32} {r r' : Option zV} {μ μ1 μ2 : xM} (h1 : Ex gx xq_81 [.inr (.inl (some 0)), .inl a, .inl b, .inl d, .inl e, .inl f] μ r μ1) (h2 : Ex gx xq_134 [.inr (.inl (some 75)), .inl a, .inl b, .inl d, .inl e, .inl f] μ1 r' μ2) (hR : lwT μ) : lwT μ2 := by
  obtain ⟨c1, c2, c3, c4, c5, c6⟩ := hR
  obtain ⟨x, rfl, f1, f2, f3⟩ := ex_cfeed h1 c2.1 c2.2
  have e75 : μ1.1 75 12 = μ.1 75 12 := f1 75 12 (by decide) (by decide)
  have e76 : ∀ j, μ1.1 76 j = μ.1 76 j := fun j => f1 76 j (by decide) (fun q => absurd q.1 (by decide))
  obtain ⟨y, rfl, g1, g2, g3⟩ := ex_mfeed h2 (by rw [e75]; omega) (by rw [e75]; omega)
  have e06 : μ2.1 0 6 = μ1.1 0 6 := g1 0 6 (by decide) (by decide)
  have e1 : ∀ j, μ2.1 1 j = μ1.1 1 j := fun j => g1 1 j (by decide) (fun q => absurd q.1 (by decide))
  have hc : 119 ≤ μ2.2.2.2 := by rw [g2, f2]; exact c1
  have hk : ∀ j : Nat, j < 21 → (μ2.2.1 82 j).toInt = wKey j := fun j hj => by rw [g2, f2]; exact c6 j hj
  rcases f3 with ⟨f4, f5⟩ | ⟨f4, f5, f6⟩
  · rcases g3 with ⟨g4, g5⟩ | ⟨g4, g5, g6⟩
    · refine ⟨hc, ?_, ?_, fun j => ?_, fun j => ?_, hk⟩
      · rw [g5, f5]; exact c2
      · rw [g5, f5]; exact c3
      · rw [g5, f5]; exact c4 j
      · rw [g5, f5]; exact c5 j
    · rw [e75] at g4
      omega
  · rcases g3 with ⟨g4, g5⟩ | ⟨g4, g5, g6⟩
    · rw [e75] at g4
      omega
    · refine ⟨hc, ?_, ?_, fun j => ?_, fun j => ?_, hk⟩
      · rw [e06]; omega
      · rw [e06, g5, f5, e75]; omega
      · rw [g6, e1, f6, e75, c3]
        exact tpF_cg (fun j => (e76 j).trans (c4 j)) j
      · rw [e1, f6]
        exact tpF_r c5 j
theorem lwT_back {a : Int32} {r r' : Option zV} {μ μ1 μ2 : xM} (h1 : Ex gx xq_72 [.inr (.inl (some 0)), .inl a] μ r μ1) (h2 : Ex gx xq_119 [.inr (.inl (some 75)), .inl a] μ1 r' μ2) (hR : lwT μ) : lwT μ2 := by
  obtain ⟨c1, c2, c3, c4, c5, c6⟩ := hR
  obtain ⟨x, rfl, f1⟩ := ex_cback h1
  obtain ⟨y, rfl, g1⟩ := ex_mback h2
  rcases f1 with ⟨rfl, f2⟩ | ⟨f2, f3, rfl⟩
  · rcases g1 with ⟨rfl, g2⟩ | ⟨g2, g3, rfl⟩
    · exact ⟨c1, c2, c3, c4, c5, c6⟩
    · omega
  · have e75 : (xpi μ 0 6 (μ.1 0 6 - a)).1 75 12 = μ.1 75 12 := xpi_ne (fun q => absurd q.1 (by decide))
    unfold bkQ at g1
    rw [e75] at g1
    have hs : (μ.1 0 6 - a).toInt = (μ.1 0 6).toInt - a.toInt := an_sub (by omega) (by omega)
    have hs2 : (μ.1 75 12 - a).toInt = (μ.1 75 12).toInt - a.toInt := an_sub (by omega) (by omega)
    rcases g1 with ⟨rfl, g2⟩ | ⟨g2, g3, rfl⟩
    · omega
    · have i0 : (xpi (xpi μ 0 6 (μ.1 0 6 - a)) 75 12 (μ.1 75 12 - a)).1 0 6 = μ.1 0 6 - a := (xpi_ne (fun q => absurd q.1 (by decide))).trans xpi_at
      have i1 : (xpi (xpi μ 0 6 (μ.1 0 6 - a)) 75 12 (μ.1 75 12 - a)).1 75 12 = μ.1 75 12 - a := xpi_at
      have ie : ∀ k j, k ≠ 0 → k ≠ 75 → (xpi (xpi μ 0 6 (μ.1 0 6 - a)) 75 12 (μ.1 75 12 - a)).1 k j = μ.1 k j := fun k j p q => (xpi_ne (fun x => q x.1)).trans (xpi_ne (fun x => p x.1))
      refine ⟨c1, by rw [i0]; omega, by rw [i0, i1]; omega, fun j => ?_, fun j => ?_, c6⟩
      · rw [ie 76 j (by decide) (by decide), ie 1 j (by decide) (by decide)]; exact c4 j
      · rw [ie 1 j (by decide) (by decide)]; exact c5 j
/-- both read the same -/
theorem lwT_read {r r' : Option zV} {μ μ1 μ2 : xM} (h1 : Ex gx xq_98 [.inr (.inl (some 0))] μ r μ1) (h2 : Ex gx xq_180 [.inr (.inl (some 75))] μ1 r' μ2) (hR : lwT μ) : (∃ x : Int32, r = some (.inl x) ∧ r' = some (.inl x)) ∧ lwT μ2 := by
  obtain ⟨c1, c2, c3, c4, c5, c6⟩ := hR
  obtain ⟨x, ν, E, w, rfl, t1, t2, t3, t4, t5, t6, t7, t8⟩ := ex_cread h1 c2
  obtain ⟨d1, d2, d3, d4, d5, d6⟩ := t8 c1
  have en : (μ1.1 75 12).toInt = (μ.1 0 6).toInt := by rw [d6, c3]
  obtain ⟨y, B, ν', m, S, w', rfl, u1, u2, u3, u4, u5, u6, u7, u8⟩ := ex_rread h2 d1 (by rw [en]; exact c2) (fun j hj => by rw [d3, c4]; exact c5 j) (fun j hj => by rw [d4]; exact c6 j hj)
  obtain ⟨v1, v2, v3, v4, v5, v6⟩ := u8 d1
  rw [en] at u1 u2
  have hB : ∀ i, 0 ≤ i → i < (μ.1 0 6).toInt → B i = kB μ 1 i := fun i i0 i1 => by
    rw [u1 i i0 i1]
    unfold kB
    rw [d3, c4]
  have hw := same_text hB t7 t2 t3 t4 u2 u3 u4 t5 u5
  have hxy : y = x := Int32.toInt_inj.mp (by rw [u6, t6]; exact hw.1)
  subst hxy
  refine ⟨⟨_, rfl, rfl⟩, v1, ?_, ?_, fun j => ?_, fun j => ?_, fun j hj => ?_⟩
  · rw [v5, d5]; decide
  · rw [v6, v5, d5]
  · rw [v3, v2, d3, d2]; exact c4 j
  · rw [v2, d2]; exact c5 j
  · rw [v4, d4]; exact c6 j hj
