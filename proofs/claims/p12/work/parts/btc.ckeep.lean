/-! ===== the towns that can be gone back to ===== -/
def hsK (A i : Nat) : Prop := (A = 41 ∧ i < 30) ∨ A = 42
def hsT (c : Nat) (μ : xM) : Prop := 119 ≤ c ∧ c + 5 < μ.2.2.2 ∧ zG0.1 c = 1000 ∧ ∀ j, j < 5 → μ.2.2.1 c j = some (c + 1 + j)
/-- the Towns made stand apart -/
def hsI (μ : xM) : Prop := μ.2.2.2 % 6 = 5 ∧ (∀ A i c, hsK A i → μ.2.2.1 A i = some c → hsT c μ) ∧ ∀ A i B k c d, hsK A i → hsK B k → μ.2.2.1 A i = some c → μ.2.2.1 B k = some d → (A = B ∧ i = k) ∨ c + 6 ≤ d ∨ d + 6 ≤ c
theorem hsI_2 {μ μ' : xM} (e : μ'.2 = μ.2) (h : hsI μ) : hsI μ' := by
  unfold hsI hsT at h ⊢
  rw [e]
  exact h
/-- a new Town at a place of the rows -/
def xnk (A i : Nat) (μ : xM) : xM := xpr (xnew μ) A i (some μ.2.2.2)
theorem xnk_i {A i : Nat} {μ : xM} {k j : Nat} (hk : k < μ.2.2.2) : (xnk A i μ).1 k j = μ.1 k j := by
  show (if μ.2.2.2 ≤ k then 0 else μ.1 k j) = _
  rw [if_neg (by omega)]
theorem xnk_r {A i : Nat} {μ : xM} {k j : Nat} (hk : k < μ.2.2.2) (h : ¬ (k = A ∧ j = i)) : (xnk A i μ).2.2.1 k j = μ.2.2.1 k j := by
  show (if k = A ∧ j = i then some μ.2.2.2 else if k = μ.2.2.2 then some (μ.2.2.2 + 1 + j) else if μ.2.2.2 < k then none else μ.2.2.1 k j) = _
  rw [if_neg h, if_neg (by omega), if_neg (by omega)]
theorem xnk_a {A i : Nat} {μ : xM} : (xnk A i μ).2.2.1 A i = some μ.2.2.2 := by
  show (if A = A ∧ i = i then some μ.2.2.2 else _) = _
  rw [if_pos ⟨rfl, rfl⟩]
theorem xnk_n {A i : Nat} {μ : xM} {j : Nat} (hA : A < μ.2.2.2) : (xnk A i μ).2.2.1 μ.2.2.2 j = some (μ.2.2.2 + 1 + j) := by
  show (if μ.2.2.2 = A ∧ j = i then some μ.2.2.2 else if μ.2.2.2 = μ.2.2.2 then some (μ.2.2.2 + 1 + j) else _) = _
  rw [if_neg (fun q => by omega), if_pos rfl]
theorem hOK_k {A i : Nat} {μ : xM} (h : hOK μ) (hA : hTw A = false) : hOK (xnk A i μ) := by
  obtain ⟨h1, h2⟩ := h
  refine ⟨by show 119 ≤ μ.2.2.2 + 6; omega, fun k hk j hj => ?_⟩
  have hk9 : k < 119 := by
    unfold hTw at hk
    rw [Bool.or_eq_true, Bool.or_eq_true, beq_iff_eq, beq_iff_eq, beq_iff_eq] at hk
    omega
  rw [xnk_r (by omega) (fun q => by rw [q.1, hA] at hk; cases hk)]
  exact h2 k hk j hj
theorem hsI_k {A i : Nat} {μ : xM} (hO : 119 ≤ μ.2.2.2) (h : hsI μ) (hA : hsK A i) : hsI (xnk A i μ) := by
  obtain ⟨h1, h2, h3⟩ := h
  have kb : ∀ B k, hsK B k → B < μ.2.2.2 := fun B k q => by unfold hsK at q; omega
  have ent : ∀ B k c, hsK B k → (xnk A i μ).2.2.1 B k = some c → (B = A ∧ k = i ∧ c = μ.2.2.2) ∨ (¬ (B = A ∧ k = i) ∧ μ.2.2.1 B k = some c) := fun B k c hB q => by
    by_cases e : B = A ∧ k = i
    · obtain ⟨rfl, rfl⟩ := e
      rw [xnk_a] at q
      exact Or.inl ⟨rfl, rfl, (Option.some.inj q).symm⟩
    · rw [xnk_r (kb B k hB) e] at q
      exact Or.inr ⟨e, q⟩
  refine ⟨by show (μ.2.2.2 + 6) % 6 = 5; omega, fun B k c hB q => ?_, fun B k D l c d hB hD q1 q2 => ?_⟩
  · rcases ent B k c hB q with ⟨-, -, rfl⟩ | ⟨-, q⟩
    · exact ⟨hO, by show μ.2.2.2 + 5 < μ.2.2.2 + 6; omega, zkn_hi (j := 0) hO h1 (by decide), fun j _ => xnk_n (kb A i hA)⟩
    · obtain ⟨t1, t2, t3, t4⟩ := h2 B k c hB q
      refine ⟨t1, by show c + 5 < μ.2.2.2 + 6; omega, t3, fun j hj => ?_⟩
      rw [xnk_r (by omega) (fun z => by unfold hsK at hA; omega)]
      exact t4 j hj
  · rcases ent B k c hB q1 with ⟨a1, a2, rfl⟩ | ⟨-, q1⟩
    · rcases ent D l d hD q2 with ⟨b1, b2, rfl⟩ | ⟨-, q2⟩
      · exact Or.inl ⟨a1.trans b1.symm, a2.trans b2.symm⟩
      · obtain ⟨-, t2, -, -⟩ := h2 D l d hD q2
        exact Or.inr (Or.inr (by omega))
    · rcases ent D l d hD q2 with ⟨b1, b2, rfl⟩ | ⟨-, q2⟩
      · obtain ⟨-, t2, -, -⟩ := h2 B k c hB q1
        exact Or.inr (Or.inl (by omega))
      · exact h3 B k D l c d hB hD q1 q2
theorem tcp_cg {c d : Nat} {μ ν μ' ν' : xM} (h : tcp c d ν ν') (e1 : ∀ a j, d ≤ a → a < d + 6 → ν.1 a j = μ.1 a j) (e2 : ∀ a j, c ≤ a → a < c + 6 → μ'.1 a j = ν'.1 a j) : tcp c d μ μ' := by
  obtain ⟨h1, h2, h3, h4⟩ := h
  refine ⟨fun j hj => ?_, fun j hj => ?_, fun j hj => ?_, fun j a b => ?_⟩
  · rw [e2 (c + 1) j (by omega) (by omega), e2 (c + 2) j (by omega) (by omega), e2 (c + 3) j (by omega) (by omega), ← e1 (d + 1) j (by omega) (by omega), ← e1 (d + 2) j (by omega) (by omega), ← e1 (d + 3) j (by omega) (by omega)]
    exact h1 j hj
  · rw [e2 (c + 4) j (by omega) (by omega), ← e1 (d + 4) j (by omega) (by omega)]; exact h2 j hj
  · rw [e2 (c + 5) j (by omega) (by omega), ← e1 (d + 5) j (by omega) (by omega)]; exact h3 j hj
  · rw [e2 c j (by omega) (by omega), ← e1 d j (by omega) (by omega)]; exact h4 j a b
/-- a Town at c is written over, the rows' next place is its -/
def kpF (c : Nat) (μ μ' : xM) : Prop := (∀ a j, a < μ.2.2.2 → a ≠ 40 → ¬ (c ≤ a ∧ a < c + 6) → μ'.1 a j = μ.1 a j) ∧ (∀ a j, a < μ.2.2.2 → ¬ (a = 41 ∧ j = (μ.1 40 1).toInt.toNat) → μ'.2.2.1 a j = μ.2.2.1 a j) ∧ μ'.2.1 = μ.2.1 ∧ μ.2.2.2 ≤ μ'.2.2.2
abbrev xq_0 : xP := (⟨"CapitalCase$History", "keep", "(LCapitalCase$Town;)V"⟩, prog_2_method_2_code, 3, none)
set_option maxRecDepth 10000 in
set_option maxHeartbeats 4000000 in
theorem ex_keep {μ μ' : xM} {r : Option zV} (h0 : Ex gx xq_0 [.inr (.inl (some 40)), .inr (.inl (some 28))] μ r μ') (hO : hOK μ) (hI : hsI μ) (hc0 : 0 ≤ (μ.1 40 2).toInt ∧ (μ.1 40 2).toInt ≤ 30) : r = none ∧ hOK μ' ∧ hsI μ' ∧ (0 ≤ (μ.1 40 1).toInt ∧ (μ.1 40 1).toInt < 30) ∧ (μ'.1 40 1).toInt = ((μ.1 40 1).toInt + 1) % 30 ∧ (μ'.1 40 2).toInt = (if (μ.1 40 2).toInt + 1 < 30 then (μ.1 40 2).toInt + 1 else 30) ∧ ∃ c, μ'.2.2.1 41 (μ.1 40 1).toInt.toNat = some c ∧ tcp c 28 μ μ' ∧ kpF c μ μ' := by
  obtain ⟨n, h⟩ := tx_in (L := [some (.inr (.inl (some 40))), some (.inr (.inl (some 28))), none]) h0 rfl
  replace h := tx_aload_n (p' := 1) h em0_0 rfl rfl
  replace h := tx_getc (c := 0) (j := 0) (p' := 4) h em0_1 ((congrFun xo_1 11).trans rfl) rfl rfl rfl
  replace h := tx_aload_n (p' := 5) h em0_4 rfl rfl
  replace h := tx_getf (c := 0) (j := 1) (p' := 8) h em0_5 ((congrFun xo_1 15).trans rfl) rfl rfl (by decide) rfl
  obtain ⟨hb8, h⟩ := tx_aald (len := 30) (p' := 9) h em0_8 rfl rfl
  replace hb8 : (0 : Int) ≤ (μ.1 40 1).toInt ∧ (μ.1 40 1).toInt < 30 := hb8
  replace h := tx_astore_n (p' := 10) h em0_9 rfl
  replace h : eT xq_0 _ 10 [some (.inr (.inl (some 40))), some (.inr (.inl (some 28))), some (.inr (.inl (μ.2.2.1 41 (μ.1 40 1).toInt.toNat)))] [] μ r μ' := h
  replace h := tx_aload_n (p' := 11) h em0_10 rfl rfl
  rcases tx_ifnonnull (t := 32) (p' := 14) h em0_11 (by decide) rfl with ⟨c11, h⟩ | ⟨c11, h⟩
  · replace h := tx_new h em0_14
    replace h : eT xq_0 _ 21 [some (.inr (.inl (some 40))), some (.inr (.inl (some 28))), some (.inr (.inl (μ.2.2.1 41 (μ.1 40 1).toInt.toNat)))] [.inr (.inl (some μ.2.2.2))] (xnew μ) r μ' := h
    replace h := tx_astore_n (p' := 22) h em0_21 rfl
    replace h : eT xq_0 _ 22 [some (.inr (.inl (some 40))), some (.inr (.inl (some 28))), some (.inr (.inl (some μ.2.2.2)))] [] (xnew μ) r μ' := h
    replace h := tx_aload_n (p' := 23) h em0_22 rfl rfl
    replace h := tx_getc (c := 0) (j := 0) (p' := 26) h em0_23 ((congrFun xo_1 11).trans rfl) rfl rfl rfl
    replace h := tx_aload_n (p' := 27) h em0_26 rfl rfl
    replace h := tx_getf (c := 0) (j := 1) (p' := 30) h em0_27 ((congrFun xo_1 15).trans rfl) rfl rfl (by decide) rfl
    replace h := tx_aload_n (p' := 31) h em0_30 rfl rfl
    obtain ⟨hb31, h⟩ := tx_aast (len := 30) (p' := 32) h em0_31 rfl rfl
    replace hb31 : (0 : Int) ≤ ((xnew μ).1 40 1).toInt ∧ ((xnew μ).1 40 1).toInt < 30 := hb31
    replace h := tx_aload_n (p' := 33) h em0_32 rfl rfl
    replace h := tx_aload_n (p' := 34) h em0_33 rfl rfl
    obtain ⟨r34, μ34, hE34, h⟩ := tx_invV (na := 2) (mn := 49) (as := [.inr (.inl (some μ.2.2.2)), .inr (.inl (some 28))]) (rest := []) (p' := 37) h em0_34 ((congrFun xo_1 20).trans rfl) xm_49 rfl rfl
    have hO2 : hOK (xnk 41 (μ.1 40 1).toInt.toNat μ) := hOK_k hO (by decide)
    have e40 : ∀ j, (xnew μ).1 40 j = μ.1 40 j := fun j => by
      show (if μ.2.2.2 ≤ 40 then 0 else μ.1 40 j) = _
      rw [if_neg (by have := hO.1; omega)]
    rw [e40] at hE34
    obtain ⟨rfl, k1, k2, k3⟩ := ex_become_c28 hE34 hO2 (zkn_hi (j := 0) hO.1 hI.1 (by decide)) (fun j _ => xnk_n (by have := hO.1; omega)) hO.1
    replace h : eT xq_0 _ 37 [some (.inr (.inl (some 40))), some (.inr (.inl (some 28))), some (.inr (.inl (some μ.2.2.2)))] [] μ34 r μ' := h
    replace h := tx_aload_n (p' := 38) h em0_37 rfl rfl
    replace h := tx_aload_n (p' := 39) h em0_38 rfl rfl
    replace h := tx_getf (c := 0) (j := 1) (p' := 42) h em0_39 ((congrFun xo_1 15).trans rfl) rfl rfl (by decide) rfl
    replace h := tx_iconst (v := 1) (p' := 43) h em0_42 (by decide +kernel) rfl
    replace h := tx_iadd (p' := 44) h em0_43 rfl
    replace h := tx_bipush (v := 30) (p' := 46) h em0_44 (by decide +kernel) rfl
    obtain ⟨hz46, h⟩ := tx_irem (p' := 47) h em0_46 rfl
    replace h := tx_putf (a := 40) (c := 0) (j := 1) (p' := 50) h em0_47 ((congrFun xo_1 15).trans rfl) rfl
    replace h := tx_aload_n (p' := 51) h em0_50 rfl rfl
    replace h := tx_bipush (v := 30) (p' := 53) h em0_51 (by decide +kernel) rfl
    replace h := tx_aload_n (p' := 54) h em0_53 rfl rfl
    replace h := tx_getf (c := 0) (j := 2) (p' := 57) h em0_54 ((congrFun xo_1 24).trans rfl) rfl rfl (by decide) rfl
    replace h : eT xq_0 _ 57 [some (.inr (.inl (some 40))), some (.inr (.inl (some 28))), some (.inr (.inl (some μ.2.2.2)))] [.inl (μ34.1 40 2), .inl (30 : Int32), .inr (.inl (some 40))] (xpi μ34 40 1 (((μ34.1 40 1) + (1 : Int32)) - ((μ34.1 40 1) + (1 : Int32)) / (30 : Int32) * (30 : Int32))) r μ' := h
    replace h := tx_iconst (v := 1) (p' := 58) h em0_57 (by decide +kernel) rfl
    replace h := tx_iadd (p' := 59) h em0_58 rfl
    replace h := tx_min (p' := 62) h em0_59 ((congrFun xo_1 27).trans rfl) rfl
    replace h := tx_putf (a := 40) (c := 0) (j := 2) (p' := 65) h em0_62 ((congrFun xo_1 24).trans rfl) rfl
    obtain ⟨rfl, hμ⟩ := tx_return h em0_65
    replace hμ : μ' = (xpi (xpi μ34 40 1 (((μ34.1 40 1) + (1 : Int32)) - ((μ34.1 40 1) + (1 : Int32)) / (30 : Int32) * (30 : Int32))) 40 2 (if ((μ34.1 40 2) + (1 : Int32)) < (30 : Int32) then ((μ34.1 40 2) + (1 : Int32)) else (30 : Int32))) := hμ
    have e1i : (1 : Int32).toInt = 1 := by decide
    have e30 : (30 : Int32).toInt = 30 := by decide
    have hN := hO.1
    have q1 : μ34.1 40 1 = μ.1 40 1 := (k2 40 1 (by omega)).trans (xnk_i (by omega))
    have q2 : μ34.1 40 2 = μ.1 40 2 := (k2 40 2 (by omega)).trans (xnk_i (by omega))
    have hI3 : hsI μ34 := hsI_2 k1 (hsI_k hN hI (Or.inl ⟨rfl, by omega⟩))
    have hO3 : hOK μ34 := hOK_2 k1 hO2
    rw [q1, q2] at hμ
    have n1 : ((μ.1 40 1) + (1 : Int32)).toInt = (μ.1 40 1).toInt + 1 := by rw [an_add (by rw [e1i]; omega) (by rw [e1i]; omega), e1i]
    have n2 : ((μ.1 40 2) + (1 : Int32)).toInt = (μ.1 40 2).toInt + 1 := by rw [an_add (by rw [e1i]; omega) (by rw [e1i]; omega), e1i]
    have n3 := an_div (x := (μ.1 40 1) + (1 : Int32)) (y := 30) (by omega) (by decide)
    rw [n1, e30] at n3
    have n4 : (((μ.1 40 1) + (1 : Int32)) / (30 : Int32) * (30 : Int32)).toInt = ((μ.1 40 1).toInt + 1) / 30 * 30 := by rw [an_mul (by rw [e30, n3]; omega) (by rw [e30, n3]; omega), e30, n3]
    have n5 : (((μ.1 40 1) + (1 : Int32)) - ((μ.1 40 1) + (1 : Int32)) / (30 : Int32) * (30 : Int32)).toInt = ((μ.1 40 1).toInt + 1) % 30 := by
      rw [an_sub (by rw [n1, n4]; omega) (by rw [n1, n4]; omega), n1, n4]; omega
    have n6 : (if (μ.1 40 2) + (1 : Int32) < (30 : Int32) then (μ.1 40 2) + (1 : Int32) else (30 : Int32)).toInt = (if (μ.1 40 2).toInt + 1 < 30 then (μ.1 40 2).toInt + 1 else 30) := by
      by_cases z : (μ.1 40 2).toInt + 1 < 30
      · rw [if_pos z, if_pos (Int32.lt_iff_toInt_lt.mpr (by rw [n2, e30]; exact z)), n2]
      · rw [if_neg z, if_neg (fun y => z (by have := Int32.lt_iff_toInt_lt.mp y; rw [n2, e30] at this; exact this)), e30]
    have e2 : μ'.2 = μ34.2 := by rw [hμ]; rfl
    have eo : ∀ a j, a ≠ 40 → μ'.1 a j = μ34.1 a j := fun a j z => by rw [hμ, xpi_ne (fun y => z y.1), xpi_ne (fun y => z y.1)]
    refine ⟨rfl, hOK_2 e2 hO3, hsI_2 e2 hI3, by omega, ?_, ?_, ?_⟩
    · rw [hμ, xpi_ne (fun y => absurd y.2 (by decide)), xpi_at]; exact n5
    · rw [hμ, xpi_at]; exact n6
    · have ej : μ'.2.2 = (xnk 41 (μ.1 40 1).toInt.toNat μ).2.2 := by rw [e2, k1]; rfl
      refine ⟨μ.2.2.2, by rw [ej]; exact xnk_a, tcp_cg k3 (fun a j _ b => xnk_i (by omega)) (fun a j b _ => eo a j (by omega)), fun a j b d f => ?_, fun a j b d => ?_, by rw [e2, k1]; rfl, by rw [ej]; exact Nat.le_add_right _ _⟩
      · rw [eo a j d, k2 a j f]; exact xnk_i b
      · rw [ej]; exact xnk_r b d
  · replace h := tx_aload_n (p' := 33) h em0_32 rfl rfl
    replace h := tx_aload_n (p' := 34) h em0_33 rfl rfl
    obtain ⟨r34_1, μ34_1, hE34_1, h⟩ := tx_invV (na := 2) (mn := 49) (as := [.inr (.inl (μ.2.2.1 41 (μ.1 40 1).toInt.toNat)), .inr (.inl (some 28))]) (rest := []) (p' := 37) h em0_34 ((congrFun xo_1 20).trans rfl) xm_49 rfl rfl
    obtain ⟨c, hc⟩ := Option.ne_none_iff_exists'.mp c11
    rw [hc] at hE34_1
    have hs9 := hI.2.1 41 _ c (Or.inl ⟨rfl, by omega⟩) hc
    obtain ⟨rfl, k1, k2, k3⟩ := ex_become_c28 hE34_1 hO hs9.2.2.1 hs9.2.2.2 hs9.1
    replace h : eT xq_0 _ 37 [some (.inr (.inl (some 40))), some (.inr (.inl (some 28))), some (.inr (.inl (μ.2.2.1 41 (μ.1 40 1).toInt.toNat)))] [] μ34_1 r μ' := h
    replace h := tx_aload_n (p' := 38) h em0_37 rfl rfl
    replace h := tx_aload_n (p' := 39) h em0_38 rfl rfl
    replace h := tx_getf (c := 0) (j := 1) (p' := 42) h em0_39 ((congrFun xo_1 15).trans rfl) rfl rfl (by decide) rfl
    replace h := tx_iconst (v := 1) (p' := 43) h em0_42 (by decide +kernel) rfl
    replace h := tx_iadd (p' := 44) h em0_43 rfl
    replace h := tx_bipush (v := 30) (p' := 46) h em0_44 (by decide +kernel) rfl
    obtain ⟨hz46_1, h⟩ := tx_irem (p' := 47) h em0_46 rfl
    replace h := tx_putf (a := 40) (c := 0) (j := 1) (p' := 50) h em0_47 ((congrFun xo_1 15).trans rfl) rfl
    replace h := tx_aload_n (p' := 51) h em0_50 rfl rfl
    replace h := tx_bipush (v := 30) (p' := 53) h em0_51 (by decide +kernel) rfl
    replace h := tx_aload_n (p' := 54) h em0_53 rfl rfl
    replace h := tx_getf (c := 0) (j := 2) (p' := 57) h em0_54 ((congrFun xo_1 24).trans rfl) rfl rfl (by decide) rfl
    replace h : eT xq_0 _ 57 [some (.inr (.inl (some 40))), some (.inr (.inl (some 28))), some (.inr (.inl (μ.2.2.1 41 (μ.1 40 1).toInt.toNat)))] [.inl (μ34_1.1 40 2), .inl (30 : Int32), .inr (.inl (some 40))] (xpi μ34_1 40 1 (((μ34_1.1 40 1) + (1 : Int32)) - ((μ34_1.1 40 1) + (1 : Int32)) / (30 : Int32) * (30 : Int32))) r μ' := h
    replace h := tx_iconst (v := 1) (p' := 58) h em0_57 (by decide +kernel) rfl
    replace h := tx_iadd (p' := 59) h em0_58 rfl
    replace h := tx_min (p' := 62) h em0_59 ((congrFun xo_1 27).trans rfl) rfl
    replace h := tx_putf (a := 40) (c := 0) (j := 2) (p' := 65) h em0_62 ((congrFun xo_1 24).trans rfl) rfl
    obtain ⟨rfl, hμ⟩ := tx_return h em0_65
    replace hμ : μ' = (xpi (xpi μ34_1 40 1 (((μ34_1.1 40 1) + (1 : Int32)) - ((μ34_1.1 40 1) + (1 : Int32)) / (30 : Int32) * (30 : Int32))) 40 2 (if ((μ34_1.1 40 2) + (1 : Int32)) < (30 : Int32) then ((μ34_1.1 40 2) + (1 : Int32)) else (30 : Int32))) := hμ
    have e1i : (1 : Int32).toInt = 1 := by decide
    have e30 : (30 : Int32).toInt = 30 := by decide
    have hN := hO.1
    have q1 : μ34_1.1 40 1 = μ.1 40 1 := k2 40 1 (by have := hs9.1; omega)
    have q2 : μ34_1.1 40 2 = μ.1 40 2 := k2 40 2 (by have := hs9.1; omega)
    have hI3 : hsI μ34_1 := hsI_2 k1 hI
    have hO3 : hOK μ34_1 := hOK_2 k1 hO
    rw [q1, q2] at hμ
    have n1 : ((μ.1 40 1) + (1 : Int32)).toInt = (μ.1 40 1).toInt + 1 := by rw [an_add (by rw [e1i]; omega) (by rw [e1i]; omega), e1i]
    have n2 : ((μ.1 40 2) + (1 : Int32)).toInt = (μ.1 40 2).toInt + 1 := by rw [an_add (by rw [e1i]; omega) (by rw [e1i]; omega), e1i]
    have n3 := an_div (x := (μ.1 40 1) + (1 : Int32)) (y := 30) (by omega) (by decide)
    rw [n1, e30] at n3
    have n4 : (((μ.1 40 1) + (1 : Int32)) / (30 : Int32) * (30 : Int32)).toInt = ((μ.1 40 1).toInt + 1) / 30 * 30 := by rw [an_mul (by rw [e30, n3]; omega) (by rw [e30, n3]; omega), e30, n3]
    have n5 : (((μ.1 40 1) + (1 : Int32)) - ((μ.1 40 1) + (1 : Int32)) / (30 : Int32) * (30 : Int32)).toInt = ((μ.1 40 1).toInt + 1) % 30 := by
      rw [an_sub (by rw [n1, n4]; omega) (by rw [n1, n4]; omega), n1, n4]; omega
    have n6 : (if (μ.1 40 2) + (1 : Int32) < (30 : Int32) then (μ.1 40 2) + (1 : Int32) else (30 : Int32)).toInt = (if (μ.1 40 2).toInt + 1 < 30 then (μ.1 40 2).toInt + 1 else 30) := by
      by_cases z : (μ.1 40 2).toInt + 1 < 30
      · rw [if_pos z, if_pos (Int32.lt_iff_toInt_lt.mpr (by rw [n2, e30]; exact z)), n2]
      · rw [if_neg z, if_neg (fun y => z (by have := Int32.lt_iff_toInt_lt.mp y; rw [n2, e30] at this; exact this)), e30]
    have e2 : μ'.2 = μ34_1.2 := by rw [hμ]; rfl
    have eo : ∀ a j, a ≠ 40 → μ'.1 a j = μ34_1.1 a j := fun a j z => by rw [hμ, xpi_ne (fun y => z y.1), xpi_ne (fun y => z y.1)]
    refine ⟨rfl, hOK_2 e2 hO3, hsI_2 e2 hI3, by omega, ?_, ?_, ?_⟩
    · rw [hμ, xpi_ne (fun y => absurd y.2 (by decide)), xpi_at]; exact n5
    · rw [hμ, xpi_at]; exact n6
    · have ej : μ'.2.2 = μ.2.2 := by rw [e2, k1]
      refine ⟨c, by rw [ej]; exact hc, tcp_cg k3 (fun a j _ b => rfl) (fun a j b _ => eo a j (by have := hs9.1; omega)), fun a j b d f => ?_, fun a j b d => by rw [ej], by rw [e2, k1], by rw [ej]; exact Nat.le_refl _⟩
      rw [eo a j d, k2 a j f]
