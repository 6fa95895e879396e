/-! ===== between the calls ===== -/
def lwR (μ : xM) : Prop := lwT μ ∧ ∃ (S : kSt) (s m : Nat) (G : Nat → Nat → Int32) (Z : Nat → Option (Nat → Int32)), zT9 S s m G Z μ
theorem lwR_g {a b : Nat} {q q' : xP} {as as' : List zV} {r r' : Option zV} {μ μ1 μ2 : xM} (hq : xMB a = some q) (hl : zKq 0 a = true) (hq' : xMB b = some q') (hl' : zKq 75 b = true) (h : Ex gx q (.inr (.inl (some 0)) :: as) μ r μ1) (h' : Ex gx q' (.inr (.inl (some 75)) :: as') μ1 r' μ2) (hT : lwT μ2) (hR : lwR μ) : lwR μ2 := by
  obtain ⟨-, S, s, m, G, Z, hz⟩ := hR
  have k1 := zKq_ok (by decide) hq hl h hz.1
  have hz1 := zT_kp hz k1
  have k2 := zKq_ok (by decide) hq' hl' h' hz1.1
  exact ⟨hT, S, s, m, G, Z, zT_kp hz1 k2⟩
theorem lwR_2 {a b : Nat} {q q' : xP} {as as' : List zV} {r r' : Option zV} {μ μ1 μ2 : xM} (hq : xMB a = some q) (hl : (fL2 a && zKq 0 a) = true) (hq' : xMB b = some q') (hl' : (fL2 b && zKq 75 b) = true) (h : Ex gx q (.inr (.inl (some 0)) :: as) μ r μ1) (h' : Ex gx q' (.inr (.inl (some 75)) :: as') μ1 r' μ2) (hR : lwR μ) : lwR μ2 := by
  rw [Bool.and_eq_true] at hl hl'
  exact lwR_g hq hl.2 hq' hl'.2 h h' (lwT_2 hq hl.1 hq' hl'.1 h h' hR.1) hR
theorem lwR_feed {a b d e f : Int32} {r r' : Option zV} {μ μ1 μ2 : xM} (h1 : Ex gx xq_81 [.inr (.inl (some 0)), .inl a, .inl b, .inl d, .inl e, .inl f] μ r μ1) (h2 : Ex gx xq_134 [.inr (.inl (some 75)), .inl a, .inl b, .inl d, .inl e, .inl f] μ1 r' μ2) (hR : lwR μ) : lwR μ2 := lwR_g xm_81 (by decide +kernel) xm_134 (by decide +kernel) h1 h2 (lwT_feed h1 h2 hR.1) hR
theorem lwR_back {a : Int32} {r r' : Option zV} {μ μ1 μ2 : xM} (h1 : Ex gx xq_72 [.inr (.inl (some 0)), .inl a] μ r μ1) (h2 : Ex gx xq_119 [.inr (.inl (some 75)), .inl a] μ1 r' μ2) (hR : lwR μ) : lwR μ2 := lwR_g xm_72 (by decide +kernel) xm_119 (by decide +kernel) h1 h2 (lwT_back h1 h2 hR.1) hR
theorem lwR_read {r r' : Option zV} {μ μ1 μ2 : xM} (h1 : Ex gx xq_98 [.inr (.inl (some 0))] μ r μ1) (h2 : Ex gx xq_180 [.inr (.inl (some 75))] μ1 r' μ2) (hR : lwR μ) : (∃ x : Int32, r = some (.inl x) ∧ r' = some (.inl x)) ∧ lwR μ2 := by
  obtain ⟨hT, S, s, m, G, Z, hz⟩ := hR
  obtain ⟨hx, hT2⟩ := lwT_read h1 h2 hT
  exact ⟨hx, hT2, zT_read h1 h2 hT hz⟩
theorem lwR_set {v : Int32} {r r' : Option zV} {μ μ1 μ2 : xM} (h1 : Ex gx xq_100 [.inr (.inl (some 0)), .inl v] μ r μ1) (h2 : Ex gx xq_184 [.inr (.inl (some 75)), .inl v] μ1 r' μ2) (hR : lwR μ) : (∃ x : Int32, r = some (.inl x) ∧ r' = some (.inl x)) ∧ lwR μ2 := by
  have hT2 := lwT_2 xm_100 (by decide +kernel) xm_184 (by decide +kernel) h1 h2 hR.1
  obtain ⟨-, S, s, m, G, Z, hz⟩ := hR
  obtain ⟨hx, m', G', hz'⟩ := zT_set hz h1 h2
  exact ⟨hx, hT2, S, s, m', G', Z, hz'⟩
theorem lwR_clear {v : Int32} {r r' : Option zV} {μ μ1 μ2 : xM} (h1 : Ex gx xq_77 [.inr (.inl (some 0)), .inl v] μ r μ1) (h2 : Ex gx xq_127 [.inr (.inl (some 75)), .inl v] μ1 r' μ2) (hR : lwR μ) : (∃ x : Int32, r = some (.inl x) ∧ r' = some (.inl x)) ∧ lwR μ2 := by
  have hT2 := lwT_2 xm_77 (by decide +kernel) xm_127 (by decide +kernel) h1 h2 hR.1
  obtain ⟨-, S, s, m, G, Z, hz⟩ := hR
  obtain ⟨hx, m', G', hz'⟩ := zT_clear hz h1 h2
  exact ⟨hx, hT2, S, s, m', G', Z, hz'⟩
theorem lwR_lend {a b l : Int32} {r r' : Option zV} {μ μ1 μ2 : xM} (h1 : Ex gx xq_93 [.inr (.inl (some 0)), .inl a, .inl b, .inl l] μ r μ1) (h2 : Ex gx xq_160 [.inr (.inl (some 75)), .inl a, .inl b, .inl l] μ1 r' μ2) (hR : lwR μ) : (∃ x : Int32, r = some (.inl x) ∧ r' = some (.inl x)) ∧ lwR μ2 := by
  have hT2 := lwT_2 xm_93 (by decide +kernel) xm_160 (by decide +kernel) h1 h2 hR.1
  obtain ⟨-, S, s, m, G, Z, hz⟩ := hR
  obtain ⟨hx, m', G', hz'⟩ := zT_lend hz h1 h2
  exact ⟨hx, hT2, S, s, m', G', Z, hz'⟩
theorem lwR_giveBack {a b l : Int32} {r r' : Option zV} {μ μ1 μ2 : xM} (h1 : Ex gx xq_84 [.inr (.inl (some 0)), .inl a, .inl b, .inl l] μ r μ1) (h2 : Ex gx xq_140 [.inr (.inl (some 75)), .inl a, .inl b, .inl l] μ1 r' μ2) (hR : lwR μ) : (∃ x : Int32, r = some (.inl x) ∧ r' = some (.inl x)) ∧ lwR μ2 := by
  have hT2 := lwT_2 xm_84 (by decide +kernel) xm_140 (by decide +kernel) h1 h2 hR.1
  obtain ⟨-, S, s, m, G, Z, hz⟩ := hR
  obtain ⟨hx, m', G', hz'⟩ := zT_giveBack hz h1 h2
  exact ⟨hx, hT2, S, s, m', G', Z, hz'⟩
theorem lwR_days {nn : Int32} {r r' : Option zV} {μ μ1 μ2 : xM} (h1 : Ex gx xq_80 [.inr (.inl (some 0)), .inl nn] μ r μ1) (h2 : Ex gx xq_132 [.inr (.inl (some 75)), .inl nn] μ1 r' μ2) (hR : lwR μ) : (∃ x : Int32, r = some (.inl x) ∧ r' = some (.inl x)) ∧ lwR μ2 := by
  have hT2 := lwT_2 xm_80 (by decide +kernel) xm_132 (by decide +kernel) h1 h2 hR.1
  obtain ⟨-, S, s, m, G, Z, hz⟩ := hR
  obtain ⟨hx, m', G', hz'⟩ := zT_days hz h1 h2
  exact ⟨hx, hT2, S, s, m', G', Z, hz'⟩
theorem lwR_undo {r r' : Option zV} {μ μ1 μ2 : xM} (h1 : Ex gx xq_109 [.inr (.inl (some 0))] μ r μ1) (h2 : Ex gx xq_194 [.inr (.inl (some 75))] μ1 r' μ2) (hR : lwR μ) : (∃ x : Int32, r = some (.inl x) ∧ r' = some (.inl x)) ∧ lwR μ2 := by
  have hT2 := lwT_2 xm_109 (by decide +kernel) xm_194 (by decide +kernel) h1 h2 hR.1
  obtain ⟨-, S, s, m, G, Z, hz⟩ := hR
  obtain ⟨hx, m', G', hz'⟩ := zT_undo hz h1 h2
  exact ⟨hx, hT2, S, s, m', G', Z, hz'⟩
theorem lwR_hold {a : Int32} {r r' : Option zV} {μ μ1 μ2 : xM} (h1 : Ex gx xq_86 [.inr (.inl (some 0)), .inl a] μ r μ1) (h2 : Ex gx xq_146 [.inr (.inl (some 75)), .inl a] μ1 r' μ2) (hR : lwR μ) : (∃ x : Int32, r = some (.inl x) ∧ r' = some (.inl x)) ∧ lwR μ2 := by
  have hT2 := lwT_2 xm_86 (by decide +kernel) xm_146 (by decide +kernel) h1 h2 hR.1
  obtain ⟨-, S, s, m, G, Z, hz⟩ := hR
  obtain ⟨hx, m', G', Z', hz'⟩ := zT_hold hz h1 h2
  exact ⟨hx, hT2, S, s, m', G', Z', hz'⟩
theorem lwR_restore {a : Int32} {r r' : Option zV} {μ μ1 μ2 : xM} (h1 : Ex gx xq_99 [.inr (.inl (some 0)), .inl a] μ r μ1) (h2 : Ex gx xq_182 [.inr (.inl (some 75)), .inl a] μ1 r' μ2) (hR : lwR μ) : (∃ x : Int32, r = some (.inl x) ∧ r' = some (.inl x)) ∧ lwR μ2 := by
  have hT2 := lwT_2 xm_99 (by decide +kernel) xm_182 (by decide +kernel) h1 h2 hR.1
  obtain ⟨-, S, s, m, G, Z, hz⟩ := hR
  obtain ⟨hx, m', G', Z', hz'⟩ := zT_restore hz h1 h2
  exact ⟨hx, hT2, S, s, m', G', Z', hz'⟩
