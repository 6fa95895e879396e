/-! ===== the laws of the class's script ===== -/
def kDef (k : Nat) : kLw := ([], [if k = 3 then (1, 0) else if k = 1 then (0, 0) else (0, 1)])
def lwOf (F : Nat → Option kLw) (k : Nat) : kLw := (F k).getD (kDef k)
/-- a law of the class's script at cell c -/
def lC1 (c k : Nat) (L : kLw) (μ : xM) : Prop := ∃ s : Nat, (μ.1 (c + 7) k).toInt = s ∧ (s : Int) + (lay s L).length ≤ (μ.1 c 14).toInt ∧ ∀ i : Nat, i < (lay s L).length → (μ.1 (c + 8) (s + i)).toInt = ((lay s L).getD i (0, 0)).1 ∧ (μ.1 (c + 9) (s + i)).toInt = ((lay s L).getD i (0, 0)).2
def lC (c : Nat) (F : Nat → Option kLw) (μ : xM) : Prop := (0 ≤ (μ.1 c 14).toInt ∧ (μ.1 c 14).toInt ≤ 408) ∧ ∀ k : Nat, k < 4 → kOkL (lwOf F k) ∧ lC1 c k (lwOf F k) μ
theorem lC_cg {c : Nat} {F : Nat → Option kLw} {μ ν : xM} (h : lC c F μ) (h1 : ∀ k j, c + 7 ≤ k → k ≤ c + 9 → ν.1 k j = μ.1 k j) (h2 : ν.1 c 14 = μ.1 c 14) : lC c F ν := by
  unfold lC lC1 at *
  simp only [h2, h1 (c + 7) _ (by omega) (by omega), h1 (c + 8) _ (by omega) (by omega), h1 (c + 9) _ (by omega) (by omega)]
  exact h
theorem lC1_n {s : Nat} {L : kLw} {μ μ' : xM} (h : aP μ μ' (lay s L)) (hs : (s : Int) = (μ.1 13 14).toInt) {k : Nat} (h20 : μ'.1 20 k = μ.1 13 14) : lC1 13 k L μ' := by
  obtain ⟨a1, a2, a3, a4⟩ := h
  refine ⟨s, by show (μ'.1 20 k).toInt = _; rw [h20]; exact hs.symm, by omega, fun i hi => ?_⟩
  have := a4 i hi
  rw [show (μ.1 13 14).toInt.toNat = s by omega] at this
  exact this
theorem lC1_o {k : Nat} {L : kLw} {C : List kOp} {μ μ' : xM} (h : lC1 13 k L μ) (hP : aP μ μ' C) (h20 : μ'.1 20 k = μ.1 20 k) : lC1 13 k L μ' := by
  obtain ⟨s, b1, b2, b3⟩ := h
  obtain ⟨a1, a2, a3, a4⟩ := hP
  refine ⟨s, by show (μ'.1 20 k).toInt = _; rw [h20]; exact b1, by omega, fun i hi => ?_⟩
  have e := a3 (s + i) (by omega)
  show (μ'.1 21 (s + i)).toInt = _ ∧ (μ'.1 22 (s + i)).toInt = _
  rw [e.1, e.2]
  exact b3 i hi
theorem lC1_e {k : Nat} {L : kLw} {μ μ' : xM} (h : lC1 13 k L μ) (h1 : ∀ c j, 20 ≤ c → c ≤ 22 → (c = 20 → j = k) → μ'.1 c j = μ.1 c j) (h2 : μ'.1 13 14 = μ.1 13 14) : lC1 13 k L μ' := by
  obtain ⟨s, b1, b2, b3⟩ := h
  refine ⟨s, by show (μ'.1 20 k).toInt = _; rw [h1 20 k (by decide) (by decide) (fun _ => rfl)]; exact b1, by rw [h2]; exact b2, fun i hi => ?_⟩
  show (μ'.1 21 (s + i)).toInt = _ ∧ (μ'.1 22 (s + i)).toInt = _
  rw [h1 21 _ (by decide) (by decide) (fun q => by omega), h1 22 _ (by decide) (by decide) (fun q => by omega)]
  exact b3 i hi
theorem lC_law {lw : Int32} {F : Nat → Option kLw} {μ μ' : xM} {x : Int} (hz : lwZ lw μ μ') (hx : lw.toInt = x) (hx0 : 0 ≤ x ∧ x ≤ 3) (h0 : 0 ≤ (μ.1 13 14).toInt) (h4 : cA μ' ≤ 400) (h : lC 13 F μ) : lC 13 (fun k => if (k : Int) = x then some (kLF (cK μ) (cV μ) 4 (cA μ + 2)) else F k) μ' := by
  obtain ⟨ν, z1, rfl, z2, z3, z4⟩ := hz
  obtain ⟨-, h5⟩ := h
  have e14 : (xpi ν 20 lw.toInt.toNat (μ.1 13 14)).1 13 14 = ν.1 13 14 := xpi_ne (fun q => absurd q.1 (by decide))
  have hst := z1.2.1
  refine ⟨by rw [e14]; omega, fun k hk => ?_⟩
  by_cases q : (k : Int) = x
  · have e : lwOf (fun k => if (k : Int) = x then some (kLF (cK μ) (cV μ) 4 (cA μ + 2)) else F k) k = kLF (cK μ) (cV μ) 4 (cA μ + 2) := by
      unfold lwOf
      show (if (k : Int) = x then some _ else F k).getD _ = _
      rw [if_pos q]
      rfl
    rw [e]
    have hP : aP μ (xpi ν 20 lw.toInt.toNat (μ.1 13 14)) (lay (μ.1 13 14).toInt.toNat (kLF (cK μ) (cV μ) 4 (cA μ + 2))) := ⟨hOK_2 rfl z1.1, by rw [e14]; exact z1.2.1, fun j hj => ⟨(xpi_ne (fun q => absurd q.1 (by decide))).trans (z1.2.2.1 j hj).1, (xpi_ne (fun q => absurd q.1 (by decide))).trans (z1.2.2.1 j hj).2⟩, fun i hi => by rw [xpi_ne (fun q => absurd q.1 (by decide)), xpi_ne (fun q => absurd q.1 (by decide))]; exact z1.2.2.2 i hi⟩
    exact ⟨z3, lC1_n hP (by omega) (by rw [show k = lw.toInt.toNat by omega]; exact xpi_at)⟩
  · have e : lwOf (fun k => if (k : Int) = x then some (kLF (cK μ) (cV μ) 4 (cA μ + 2)) else F k) k = lwOf F k := by
      unfold lwOf
      show (if (k : Int) = x then some _ else F k).getD _ = _
      rw [if_neg q]
    rw [e]
    obtain ⟨h6, h7⟩ := h5 k hk
    exact ⟨h6, lC1_e (lC1_o h7 z1 (z2 k)) (fun c j h1 h2 h3 => xpi_ne (fun q2 => by
      have e1 := h3 q2.1
      omega)) e14⟩
theorem aP_20 {μ : xM} {j : Nat} {v : Int32} (hO : hOK μ) : aP μ (xpi μ 20 j v) [] := ⟨hOK_2 rfl hO, (Int.add_zero _).symm, fun i _ => ⟨xpi_ne (fun q => absurd q.1 (by decide)), xpi_ne (fun q => absurd q.1 (by decide))⟩, fun i hi => absurd hi (Nat.not_lt_zero i)⟩
/-- the parser's script, its laws too; steps against tokens -/
def zSL (S : kSt) (ω : xM) : Prop := sC 13 S ω ∧ lC 13 S.2.2.2 ω ∧ (ω.1 13 14).toInt ≤ 8 + cA ω
/-- steps, operands, laws' starts stand -/
def zEE (μ μ' : xM) : Prop := (∀ k j, 20 ≤ k → k ≤ 22 → μ'.1 k j = μ.1 k j) ∧ μ'.1 13 14 = μ.1 13 14
noncomputable def zB9 (W : hW) : Bool := hpB W 13 14 && (hpA W 20 && (hpA W 21 && hpA W 22))
theorem zEE_w {W : hW} {μ μ' : xM} (hk : zB9 W = true) (h : hRm (hP W) (hQ W) μ μ') (hO : hOK μ) : zEE μ μ' := by
  unfold zB9 at hk
  rw [Bool.and_eq_true, Bool.and_eq_true, Bool.and_eq_true] at hk
  refine ⟨fun k j h1 h2 => ?_, hSt h hO (by decide) hk.1⟩
  have h3 : k = 20 ∨ k = 21 ∨ k = 22 := by omega
  rcases h3 with rfl | rfl | rfl
  · exact hSt h hO (by decide) (hpA_ok hk.2.1 j)
  · exact hSt h hO (by decide) (hpA_ok hk.2.2.1 j)
  · exact hSt h hO (by decide) (hpA_ok hk.2.2.2 j)
theorem kStep_nl {K : Int → Int} {lt : Int → List Int} {vl : Int → Int} {lw : Int → kLw} {a : Int} {S : kSt} (hk : K a = 128 ∨ K a = 129 ∨ K a = 134 ∨ K a = 135 ∨ K a = 136) : (kStep K lt vl lw a S).2.2.2 = S.2.2.2 := by
  unfold kStep
  by_cases c1 : K a = 128
  · rw [if_pos c1]
  · rw [if_neg c1]
    by_cases c2 : K a = 129
    · rw [if_pos c2]
    · rw [if_neg c2]
      by_cases c3 : K a = 134
      · rw [if_pos c3]
      · rw [if_neg c3]
        by_cases c4 : K a = 135
        · rw [if_pos c4]
        · rw [if_neg c4, if_pos (by omega)]
theorem kStep_lw {K : Int → Int} {lt : Int → List Int} {vl : Int → Int} {lw : Int → kLw} {a : Int} {S : kSt} (hk : 130 ≤ K a ∧ K a ≤ 133) : (kStep K lt vl lw a S).2.2.2 = fun k : Nat => if (k : Int) = K a - 130 then some (lw (a + 2)) else S.2.2.2 k := by
  unfold kStep
  rw [if_neg (by omega), if_neg (by omega), if_neg (by omega), if_neg (by omega), if_neg (by omega)]
theorem zSL_keep {lw : Int → kLw} {S : kSt} {ω ω' : xM} {E : Int} (hs : (pTell (cK ω) (cH ω) (cU ω) (cA ω)).2 = 0) (ho : oT E ω ω') (hz : zEE ω ω') (hk : cK ω (cA ω) = 128 ∨ cK ω (cA ω) = 129 ∨ cK ω (cA ω) = 134 ∨ cK ω (cA ω) = 135 ∨ cK ω (cA ω) = 136) (hC : zSL S ω) (hc : sC 13 (kStep (cK ω) (cT ω) (cV ω) lw (cA ω) S) ω') : zSL (kStep (cK ω) (cT ω) (cV ω) lw (cA ω) S) ω' := by
  obtain ⟨o1, o2, o3⟩ := ho
  obtain ⟨s1, s2, s3⟩ := hC
  refine ⟨hc, by rw [kStep_nl hk]; exact lC_cg s2 (fun k j h1 h2 => hz.1 k j h1 h2) hz.2, ?_⟩
  rw [hz.2]
  rcases o2 with ⟨b1, b2, -⟩ | ⟨b1, -⟩
  · omega
  · exact absurd hs b1
theorem zSL_law {lw : Int → kLw} {l0 : Int32} {S : kSt} {ω ω' : xM} (hz : lwZ l0 ω ω') (hx : l0.toInt = cK ω (cA ω) - 130) (hk : 130 ≤ cK ω (cA ω) ∧ cK ω (cA ω) ≤ 133) (h4 : cA ω' ≤ 400) (hlw : lw (cA ω + 2) = kLF (cK ω) (cV ω) 4 (cA ω + 2)) (hC : zSL S ω) (hc : sC 13 (kStep (cK ω) (cT ω) (cV ω) lw (cA ω) S) ω') : zSL (kStep (cK ω) (cT ω) (cV ω) lw (cA ω) S) ω' := by
  obtain ⟨s1, s2, s3⟩ := hC
  have h9 := lC_law hz hx (by omega) s2.1.1 h4 s2
  refine ⟨hc, by rw [kStep_lw hk, hlw]; exact h9, ?_⟩
  obtain ⟨ν, z1, rfl, z2, z3, z4⟩ := hz
  rw [xpi_ne (fun q => absurd q.1 (by decide))]
  exact z4
set_option maxRecDepth 10000 in
set_option maxHeartbeats 4000000 in
theorem ex_lay {a u v : Int32} {u0 v0 : Int} {μ μ' : xM} {r : Option zV} (h0 : Ex gx xq_45 [.inr (.inl (some 13)), .inl a, .inl u, .inl v] μ r μ') (hO : hOK μ) (h0s : 0 ≤ (μ.1 13 14).toInt) (h4s : (μ.1 13 14).toInt ≤ 400) (hu : u.toInt = u0) (hv : v.toInt = v0) : aP μ μ' [(u0, v0), (7, 0)] ∧ μ'.1 20 a.toInt.toNat = μ.1 13 14 ∧ ∀ j, ¬ j = a.toInt.toNat → μ'.1 20 j = μ.1 20 j := by
  obtain ⟨n, h⟩ := tx_in (L := [some (.inr (.inl (some 13))), some (.inl a), some (.inl u), some (.inl v)]) h0 rfl
  have h407 : ((xpi μ 20 a.toInt.toNat (μ.1 13 14)).1 13 14).toInt ≤ 407 := by show (μ.1 13 14).toInt ≤ 407; omega
  replace h := tx_aload_n (p' := 1) h em45_0 rfl rfl
  replace h := tx_getc (c := 6) (j := 11) (p' := 4) h em45_1 ((congrFun xo_7 32).trans rfl) rfl rfl rfl
  replace h := tx_iload_n (p' := 5) h em45_4 rfl rfl
  replace h := tx_aload_n (p' := 6) h em45_5 rfl rfl
  replace h := tx_getf (c := 6) (j := 14) (p' := 9) h em45_6 ((congrFun xo_7 66).trans rfl) rfl rfl (by decide) rfl
  obtain ⟨hb9, h⟩ := tx_iast (len := 4) (p' := 10) h em45_9 rfl rfl
  replace hb9 : (0 : Int) ≤ a.toInt ∧ a.toInt < 4 := hb9
  replace h := tx_aload_n (p' := 11) h em45_10 rfl rfl
  replace h := tx_iload_n (p' := 12) h em45_11 rfl rfl
  replace h := tx_iload_n (p' := 13) h em45_12 rfl rfl
  obtain ⟨r13, μ13, hE13, h⟩ := tx_invV (na := 3) (mn := 43) (as := [.inr (.inl (some 13)), .inl u, .inl v]) (rest := []) (p' := 16) h em45_13 ((congrFun xo_7 75).trans rfl) xm_43 rfl rfl
  have ha13 := ex_add2 hE13 (hOK_2 rfl hO) (by exact h0s)
  obtain ⟨rfl, hp13, -⟩ := ex_add hE13
  replace h : eT xq_45 _ 16 [some (.inr (.inl (some 13))), some (.inl a), some (.inl u), some (.inl v)] [] μ13 r μ' := h
  replace h := tx_aload_n (p' := 17) h em45_16 rfl rfl
  replace h := tx_bipush (v := 7) (p' := 19) h em45_17 (by decide +kernel) rfl
  replace h := tx_iconst (v := 0) (p' := 20) h em45_19 (by decide +kernel) rfl
  obtain ⟨r20, μ20, hE20, h⟩ := tx_invV (na := 3) (mn := 43) (as := [.inr (.inl (some 13)), .inl (7 : Int32), .inl (0 : Int32)]) (rest := []) (p' := 23) h em45_20 ((congrFun xo_7 75).trans rfl) xm_43 rfl rfl
  have ha20 := ex_add2 hE20 ha13.1 (by have := (ha13.2 h407).2.1; rw [this]; show 0 ≤ (μ.1 13 14).toInt + 1; omega)
  obtain ⟨rfl, hp20, -⟩ := ex_add hE20
  replace h : eT xq_45 _ 23 [some (.inr (.inl (some 13))), some (.inl a), some (.inl u), some (.inl v)] [] μ20 r μ' := h
  obtain ⟨rfl, hμ⟩ := tx_return h em45_23
  have g1 := ha13.2 h407
  have g2 := ha20.2 (by rw [g1.2.1]; show (μ.1 13 14).toInt + 1 ≤ 407; omega)
  rw [hu, hv] at g1
  rw [show (7 : Int32).toInt = 7 by decide, show (0 : Int32).toInt = 0 by decide] at g2
  rw [hμ]
  have e20 : ∀ j, μ20.1 20 j = (xpi μ 20 a.toInt.toNat (μ.1 13 14)).1 20 j := fun j => (hp20.1 20 j (by decide) (by decide) (by decide) (by decide)).trans (hp13.1 20 j (by decide) (by decide) (by decide) (by decide))
  exact ⟨aP_tr h0s (aP_20 (j := a.toInt.toNat) (v := μ.1 13 14) hO) (aP_tr h0s g1 g2), by rw [e20, xpi_at], fun j hj => by rw [e20, xpi_ne (fun q => hj q.2)]⟩
set_option maxRecDepth 10000 in
set_option maxHeartbeats 4000000 in
theorem ex_wipe3 {μ μ' : xM} {r : Option zV} (h0 : Ex gx xq_47 [.inr (.inl (some 13))] μ r μ') (hO : hOK μ) : lC 13 kS0.2.2.2 μ' ∧ (μ'.1 13 14).toInt = 8 := by
  obtain ⟨n, h⟩ := tx_in (L := [some (.inr (.inl (some 13)))]) h0 rfl
  replace h := tx_aload_n (p' := 1) h em47_0 rfl rfl
  replace h := tx_iconst (v := 0) (p' := 2) h em47_1 (by decide +kernel) rfl
  replace h := tx_putf (a := 13) (c := 6) (j := 0) (p' := 5) h em47_2 ((congrFun xo_7 44).trans rfl) rfl
  replace h := tx_aload_n (p' := 6) h em47_5 rfl rfl
  replace h := tx_iconst (v := 0) (p' := 7) h em47_6 (by decide +kernel) rfl
  replace h := tx_putf (a := 13) (c := 6) (j := 1) (p' := 10) h em47_7 ((congrFun xo_7 48).trans rfl) rfl
  replace h := tx_aload_n (p' := 11) h em47_10 rfl rfl
  replace h := tx_bipush (v := 20) (p' := 13) h em47_11 (by decide +kernel) rfl
  replace h := tx_putf (a := 13) (c := 6) (j := 4) (p' := 16) h em47_13 ((congrFun xo_7 51).trans rfl) rfl
  replace h := tx_aload_n (p' := 17) h em47_16 rfl rfl
  replace h := tx_iconst (v := 0) (p' := 18) h em47_17 (by decide +kernel) rfl
  replace h := tx_putf (a := 13) (c := 6) (j := 2) (p' := 21) h em47_18 ((congrFun xo_7 54).trans rfl) rfl
  replace h := tx_aload_n (p' := 22) h em47_21 rfl rfl
  replace h := tx_iconst (v := 0) (p' := 23) h em47_22 (by decide +kernel) rfl
  replace h := tx_putf (a := 13) (c := 6) (j := 3) (p' := 26) h em47_23 ((congrFun xo_7 57).trans rfl) rfl
  replace h := tx_aload_n (p' := 27) h em47_26 rfl rfl
  replace h := tx_getc (c := 6) (j := 5) (p' := 30) h em47_27 ((congrFun xo_7 13).trans rfl) rfl rfl rfl
  replace h := tx_iconst (v := 0) (p' := 31) h em47_30 (by decide +kernel) rfl
  obtain ⟨r31, μ31, hE31, h⟩ := tx_invS (na := 2) (mn := 207) (as := [.inr (.inl (some 14)), .inl (0 : Int32)]) (rest := []) (p' := 34) h em47_31 ((congrFun xo_7 60).trans rfl) xm_207 rfl rfl
  obtain ⟨rfl, hf31, hf312⟩ := fill_14 hE31
  have hz31 := fill2_14 hE31
  replace h : eT xq_47 _ 34 [some (.inr (.inl (some 13)))] [] μ31 r μ' := h
  replace h := tx_aload_n (p' := 35) h em47_34 rfl rfl
  replace h := tx_getc (c := 6) (j := 10) (p' := 38) h em47_35 ((congrFun xo_7 29).trans rfl) rfl rfl rfl
  replace h := tx_iconst (v := 0) (p' := 39) h em47_38 (by decide +kernel) rfl
  obtain ⟨r39, μ39, hE39, h⟩ := tx_invS (na := 2) (mn := 207) (as := [.inr (.inl (some 19)), .inl (0 : Int32)]) (rest := []) (p' := 42) h em47_39 ((congrFun xo_7 60).trans rfl) xm_207 rfl rfl
  obtain ⟨rfl, hf39, hf392⟩ := fill_19 hE39
  have hz39 := fill2_19 hE39
  replace h : eT xq_47 _ 42 [some (.inr (.inl (some 13)))] [] μ39 r μ' := h
  replace h := tx_aload_n (p' := 43) h em47_42 rfl rfl
  replace h := tx_iconst (v := 0) (p' := 44) h em47_43 (by decide +kernel) rfl
  replace h := tx_putf (a := 13) (c := 6) (j := 14) (p' := 47) h em47_44 ((congrFun xo_7 66).trans rfl) rfl
  replace h := tx_aload_n (p' := 48) h em47_47 rfl rfl
  replace h := tx_iconst (v := 0) (p' := 49) h em47_48 (by decide +kernel) rfl
  replace h := tx_iconst (v := 0) (p' := 50) h em47_49 (by decide +kernel) rfl
  replace h := tx_iconst (v := 1) (p' := 51) h em47_50 (by decide +kernel) rfl
  obtain ⟨r51, μ51, hE51, h⟩ := tx_invV (na := 4) (mn := 45) (as := [.inr (.inl (some 13)), .inl (0 : Int32), .inl (0 : Int32), .inl (1 : Int32)]) (rest := []) (p' := 54) h em47_51 ((congrFun xo_7 69).trans rfl) xm_45 rfl rfl
  have hn51 : ((xpi μ39 13 14 (0 : Int32)).1 13 14).toInt = 0 := by show (0 : Int32).toInt = 0; decide
  have hy51 := ex_lay (u0 := 0) (v0 := 1) hE51 (hOK_2 (hf392.trans (hf312.trans rfl)) hO) (by omega) (by omega) (by decide) (by decide)
  have er51 := ex_void [0, 1, 4, 5, 6, 9, 10, 11, 12, 13, 16, 17, 19, 20, 23, 24] (by decide +kernel) hE51
  subst er51
  replace h : eT xq_47 _ 54 [some (.inr (.inl (some 13)))] [] μ51 r μ' := h
  replace h := tx_aload_n (p' := 55) h em47_54 rfl rfl
  replace h := tx_iconst (v := 1) (p' := 56) h em47_55 (by decide +kernel) rfl
  replace h := tx_iconst (v := 0) (p' := 57) h em47_56 (by decide +kernel) rfl
  replace h := tx_iconst (v := 0) (p' := 58) h em47_57 (by decide +kernel) rfl
  obtain ⟨r58, μ58, hE58, h⟩ := tx_invV (na := 4) (mn := 45) (as := [.inr (.inl (some 13)), .inl (1 : Int32), .inl (0 : Int32), .inl (0 : Int32)]) (rest := []) (p' := 61) h em47_58 ((congrFun xo_7 69).trans rfl) xm_45 rfl rfl
  have hn58 : (μ51.1 13 14).toInt = 2 := by have q := hy51.1.2.1; rw [hn51] at q; exact q
  have hy58 := ex_lay (u0 := 0) (v0 := 0) hE58 hy51.1.1 (by omega) (by omega) (by decide) (by decide)
  have er58 := ex_void [0, 1, 4, 5, 6, 9, 10, 11, 12, 13, 16, 17, 19, 20, 23, 24] (by decide +kernel) hE58
  subst er58
  replace h : eT xq_47 _ 61 [some (.inr (.inl (some 13)))] [] μ58 r μ' := h
  replace h := tx_aload_n (p' := 62) h em47_61 rfl rfl
  replace h := tx_iconst (v := 2) (p' := 63) h em47_62 (by decide +kernel) rfl
  replace h := tx_iconst (v := 0) (p' := 64) h em47_63 (by decide +kernel) rfl
  replace h := tx_iconst (v := 1) (p' := 65) h em47_64 (by decide +kernel) rfl
  obtain ⟨r65, μ65, hE65, h⟩ := tx_invV (na := 4) (mn := 45) (as := [.inr (.inl (some 13)), .inl (2 : Int32), .inl (0 : Int32), .inl (1 : Int32)]) (rest := []) (p' := 68) h em47_65 ((congrFun xo_7 69).trans rfl) xm_45 rfl rfl
  have hn65 : (μ58.1 13 14).toInt = 4 := by have q := hy58.1.2.1; rw [hn58] at q; exact q
  have hy65 := ex_lay (u0 := 0) (v0 := 1) hE65 hy58.1.1 (by omega) (by omega) (by decide) (by decide)
  have er65 := ex_void [0, 1, 4, 5, 6, 9, 10, 11, 12, 13, 16, 17, 19, 20, 23, 24] (by decide +kernel) hE65
  subst er65
  replace h : eT xq_47 _ 68 [some (.inr (.inl (some 13)))] [] μ65 r μ' := h
  replace h := tx_aload_n (p' := 69) h em47_68 rfl rfl
  replace h := tx_iconst (v := 3) (p' := 70) h em47_69 (by decide +kernel) rfl
  replace h := tx_iconst (v := 1) (p' := 71) h em47_70 (by decide +kernel) rfl
  replace h := tx_iconst (v := 0) (p' := 72) h em47_71 (by decide +kernel) rfl
  obtain ⟨r72, μ72, hE72, h⟩ := tx_invV (na := 4) (mn := 45) (as := [.inr (.inl (some 13)), .inl (3 : Int32), .inl (1 : Int32), .inl (0 : Int32)]) (rest := []) (p' := 75) h em47_72 ((congrFun xo_7 69).trans rfl) xm_45 rfl rfl
  have hn72 : (μ65.1 13 14).toInt = 6 := by have q := hy65.1.2.1; rw [hn65] at q; exact q
  have hy72 := ex_lay (u0 := 1) (v0 := 0) hE72 hy65.1.1 (by omega) (by omega) (by decide) (by decide)
  have er72 := ex_void [0, 1, 4, 5, 6, 9, 10, 11, 12, 13, 16, 17, 19, 20, 23, 24] (by decide +kernel) hE72
  subst er72
  replace h : eT xq_47 _ 75 [some (.inr (.inl (some 13)))] [] μ72 r μ' := h
  obtain ⟨rfl, hμ⟩ := tx_return h em47_75
  rw [hμ]
  have q72 := hy72.1.2.1
  rw [hn72] at q72
  have q72 : (μ72.1 13 14).toInt = 8 := q72
  have a1 := hy51.1
  have a2 := hy58.1
  have a3 := hy65.1
  have a4 := hy72.1
  have c0 : μ72.1 20 0 = (xpi μ39 13 14 (0 : Int32)).1 13 14 := (hy72.2.2 0 (by decide)).trans ((hy65.2.2 0 (by decide)).trans ((hy58.2.2 0 (by decide)).trans hy51.2.1))
  have c1 : μ72.1 20 1 = μ51.1 13 14 := (hy72.2.2 1 (by decide)).trans ((hy65.2.2 1 (by decide)).trans hy58.2.1)
  have c2 : μ72.1 20 2 = μ58.1 13 14 := (hy72.2.2 2 (by decide)).trans hy65.2.1
  have c3 : μ72.1 20 3 = μ65.1 13 14 := hy72.2.1
  have l0 : lC1 13 0 (kDef 0) μ51 := lC1_n (s := 0) a1 (by omega) hy51.2.1
  have l1 : lC1 13 1 (kDef 1) μ58 := lC1_n (s := 2) a2 (by omega) hy58.2.1
  have l2 : lC1 13 2 (kDef 2) μ65 := lC1_n (s := 4) a3 (by omega) hy65.2.1
  have l3 : lC1 13 3 (kDef 3) μ72 := lC1_n (s := 6) a4 (by omega) hy72.2.1
  refine ⟨⟨by omega, fun k hk => ?_⟩, q72⟩
  have ok : ∀ o : kOp, o.1 = 0 ∨ o.1 = 1 → kOkL ([], [o]) := fun o ho => ⟨fun X hX => absurd hX List.not_mem_nil, by
    obtain ⟨x, y⟩ := o
    rcases ho with rfl | rfl
    · exact eOk_mono (by decide) eOk_int
    · exact eOk_mono (by decide) eOk_var⟩
  have hk4 : k = 0 ∨ k = 1 ∨ k = 2 ∨ k = 3 := by omega
  rcases hk4 with rfl | rfl | rfl | rfl
  · exact ⟨ok (0, 1) (Or.inl rfl), lC1_o (lC1_o (lC1_o l0 a2 (hy58.2.2 0 (by decide))) a3 (hy65.2.2 0 (by decide))) a4 (hy72.2.2 0 (by decide))⟩
  · exact ⟨ok (0, 0) (Or.inl rfl), lC1_o (lC1_o l1 a3 (hy65.2.2 1 (by decide))) a4 (hy72.2.2 1 (by decide))⟩
  · exact ⟨ok (0, 1) (Or.inl rfl), lC1_o l2 a4 (hy72.2.2 2 (by decide))⟩
  · exact ⟨ok (1, 0) (Or.inr rfl), l3⟩
theorem zl_A {E : Int} {ω ω' : xM} (ho : oT E ω ω') (hs : (pTell (cK ω) (cH ω) (cU ω) (cA ω)).2 = 0) (hE : E ≤ 400) : cA ω' ≤ 400 := by
  obtain ⟨o1, o2, o3⟩ := ho
  rcases o2 with ⟨b1, b2, b3, -⟩ | ⟨b1, -⟩
  · omega
  · exact absurd hs b1
/-- how the loop stands, with what is told: U in the end -/
def zaJ (lw : Int → kLw) (i : Int) (U : kSt) (ν ω : xM) : Prop := (ω.1 12 4).toInt = 0 → hOK ω ∧ ∃ S, zSL S ω ∧ kWf S ∧ U = kText (cK ν) (cT ν) (cV ν) lw (401 - i).toNat (cA ω) (cH ω) (cU ω) S
def zpQ (U : kSt) (μ' : xM) : Prop := hOK μ' ∧ (sC 13 U μ' ∧ lC 13 U.2.2.2 μ') ∧ kWf U
theorem zaJ_s {lw : Int → kLw} {E i : Int} {T : Int × Int} {U : kSt} {ν ω ω' : xM} (hT : T.1 = 0) (h : paI E i T ν ω) (h0 : (ω.1 12 4).toInt = 0) (hk : ¬ cK ω (cA ω) = 0) (ho : oT E ω ω') (hJ : zaJ lw i U ν ω) (hc : (pTell (cK ω) (cH ω) (cU ω) (cA ω)).2 = 0 → (pLater (cK ω) (cP ω) (cm ω) (cl ω) (cV ω) (cN ω) (cA ω) (cW ω)).1 = 0 → ∀ S, zSL S ω → kWf S → zSL (kStep (cK ω) (cT ω) (cV ω) lw (cA ω) S) ω' ∧ hOK ω') : zaJ lw (i + 1) U ν ω' := by
  intro hf
  have hn := paI_s h h0 hk ho
  obtain ⟨hO, S, s1, s2, s3⟩ := hJ h0
  obtain ⟨o1, o2, o3⟩ := ho
  obtain ⟨g1, g2, g3⟩ := h
  obtain ⟨n1, n2, n3⟩ := hn
  have hsc : (pTell (cK ω) (cH ω) (cU ω) (cA ω)).2 = 0 := by
    rcases o2 with ⟨b1, -⟩ | ⟨b1, b2, -⟩
    · exact b1
    · exact absurd (b2.symm.trans hf) b1
  obtain ⟨c1, c2, c3, c4, c5⟩ := o3 hsc
  have hw0 : (cW ω').1 = 0 := by
    rcases n3 with ⟨-, -, -, -, -, -, a7⟩ | ⟨a1, -⟩
    · rw [a7] at hT
      exact pText_0 _ _ _ _ _ _ hT
    · exact absurd hf a1
  rw [c2] at hw0
  obtain ⟨d1, d2⟩ := hc hsc hw0 S s1 s2
  have hA : 0 ≤ cA ω ∧ cA ω ≤ E ∧ 0 ≤ i ∧ i ≤ cA ω := by
    rcases g3 with ⟨-, -, a3, a4, a5, a6, -⟩ | ⟨a1, -⟩
    · exact ⟨a3, a4, a5, a6⟩
    · exact absurd h0 a1
  have hA' : cA ω' ≤ E ∧ cA ω' = (pTell (cK ω) (cH ω) (cU ω) (cA ω)).1 := by
    rcases o2 with ⟨-, -, b3, b4, -⟩ | ⟨b1, -⟩
    · exact ⟨b3, b4⟩
    · exact absurd hsc b1
  have eH : cH ω = (S.1.length : Int) := s1.1.1.1
  have eU : cU ω = (S.2.1.length : Int) := s1.1.1.2.1
  refine ⟨d2, _, d1, ?_, ?_⟩
  · rw [eH, eU] at hsc
    refine kWf_s s2 hsc hw0 (fun t t0 t1 tk tl => ?_) (fun t t0 t1 tk => ?_)
    · rw [← eH, ← eU, ← hA'.2] at t1
      exact cT_ok g2 (by omega) (by omega) tk (bl2_t.mp tl)
    · rw [← eH, ← eU, ← hA'.2] at t1
      exact int4 g2 (by omega) (by omega) tk
  · have hE := g2.1
    rw [s3, show (401 - i).toNat = (401 - (i + 1)).toNat + 1 by omega, ← gE_K g1, ← gE_cT g1, ← gE_V g1]
    show (if cK ω (cA ω) = 0 then S else if (pTell (cK ω) (cH ω) (cU ω) (cA ω)).2 = 0 then kText _ _ _ _ _ _ _ _ _ else S) = _
    rw [if_neg hk, if_pos hsc, c3, c4, hA'.2]
set_option maxRecDepth 10000 in
set_option maxHeartbeats 4000000 in
theorem zpa_house {lw : Int → kLw} {U : kSt} {E : Int} {T : Int × Int} {ν μ' : xM} {r : Option zV} {n : Int32} {m : Nat} (hlw : lw = kLF (cK ν) (cV ν) 4) (hE4 : E ≤ 400) (hT : T.1 = 0) (ih : ∀ m2, m2 < m → ∀ (i : Int32) (ω : xM), eT xq_16 m2 41 [some (.inr (.inl (some 12))), some (.inl n), some (.inl i)] [] ω r μ' → paI E i.toInt T ν ω → zaJ lw i.toInt U ν ω → zpQ U μ') {i : Int32} {ω : xM} (hI : paI E i.toInt T ν ω) (hJ : zaJ lw i.toInt U ν ω) (h0 : (ω.1 12 4).toInt = 0) (hk0 : ¬ cK ω (cA ω) = 0) (hkk : cK ω (cA ω) = 128) (h : eT xq_16 m 66 [some (.inr (.inl (some 12))), some (.inl n), some (.inl i)] [.inl (ω.1 24 (cA ω).toNat)] ω r μ') : zpQ U μ' := by
  have e1i : (1 : Int32).toInt = 1 := by decide
  have hA : cA ω ≤ 400 ∧ (0 ≤ cA ω ∧ cA ω ≤ E ∧ nmI E ω ∧ cTV ω E ∧ 0 ≤ i.toInt ∧ i.toInt ≤ cA ω) := by
    obtain ⟨g1, g2, g3⟩ := hI
    rcases g3 with ⟨a1, a2, a3, a4, a5, a6, a7⟩ | ⟨a1, -⟩
    · have := g2.1
      exact ⟨by omega, a3, a4, a2, g2, a5, a6⟩
    · exact absurd h0 a1
  obtain ⟨hA, hA0, hAE, hnm, htv, hi0, hiA⟩ := hA
  have hi9 := hA
  obtain ⟨hO, -⟩ := hJ h0
  have hx : (ω.1 24 (cA ω).toNat).toInt = cK ω (cA ω) := rfl
  obtain ⟨t9, ht9, h⟩ := tx_tsw h em16_66
  have e9 : t9 = 116 := by
    have := tsw_k ht9 (k := 0) (off := 50) rfl (by omega) (by omega)
    omega
  subst e9
  replace h : eT xq_16 _ 116 [some (.inr (.inl (some 12))), some (.inl n), some (.inl i)] [] ω r μ' := h
  replace h := tx_aload_n (p' := 117) h em16_116 rfl rfl
  obtain ⟨r117, μ117, hE117, h⟩ := tx_invV (na := 1) (mn := 17) (as := [.inr (.inl (some 12))]) (rest := []) (p' := 120) h em16_117 ((congrFun xo_3 57).trans rfl) xm_17 rfl rfl
  obtain ⟨rfl, ho⟩ := ex_house hE117 hA0 hAE htv hnm hkk
  have hc := fun (hs : (pTell (cK ω) (cH ω) (cU ω) (cA ω)).2 = 0) (_ : (pLater (cK ω) (cP ω) (cm ω) (cl ω) (cV ω) (cN ω) (cA ω) (cW ω)).1 = 0) S (hC : zSL S ω) (_ : kWf S) => And.intro (zSL_keep hs ho (zEE_w (by decide +kernel) (hf_17_0 hE117 (hEn0 (by decide)) hO).2 hO) (by omega) hC (kc_house (lw := lw) hE117 hA0 hAE htv hnm hO hs hC.1 hkk (tell_h0 hkk hs).1)) ((hf_17_0 hE117 (hEn0 (by decide)) hO).2 hO).1
  replace h : eT xq_16 _ 120 [some (.inr (.inl (some 12))), some (.inl n), some (.inl i)] [] μ117 r μ' := h
  replace h := tx_goto (t := 179) h em16_120 (by decide)
  replace h := tx_iinc (v := 1) (p' := 182) h em16_179 (by decide +kernel) rfl rfl
  replace h : eT xq_16 _ 182 [some (.inr (.inl (some 12))), some (.inl n), some (.inl (i + 1))] [] μ117 r μ' := h
  obtain ⟨n2, hn2, h⟩ := tx_gotoS (t := 41) h em16_182 (by decide)
  have hi1 : (i + 1).toInt = i.toInt + 1 := by rw [an_add (by rw [e1i]; omega) (by rw [e1i]; omega), e1i]
  refine ih n2 hn2 _ _ h ?_ ?_
  · rw [hi1]
    exact paI_s hI h0 hk0 ho
  · rw [hi1]
    exact zaJ_s hT hI h0 hk0 ho hJ hc
set_option maxRecDepth 10000 in
set_option maxHeartbeats 4000000 in
theorem zpa_verse {lw : Int → kLw} {U : kSt} {E : Int} {T : Int × Int} {ν μ' : xM} {r : Option zV} {n : Int32} {m : Nat} (hlw : lw = kLF (cK ν) (cV ν) 4) (hE4 : E ≤ 400) (hT : T.1 = 0) (ih : ∀ m2, m2 < m → ∀ (i : Int32) (ω : xM), eT xq_16 m2 41 [some (.inr (.inl (some 12))), some (.inl n), some (.inl i)] [] ω r μ' → paI E i.toInt T ν ω → zaJ lw i.toInt U ν ω → zpQ U μ') {i : Int32} {ω : xM} (hI : paI E i.toInt T ν ω) (hJ : zaJ lw i.toInt U ν ω) (h0 : (ω.1 12 4).toInt = 0) (hk0 : ¬ cK ω (cA ω) = 0) (hkk : cK ω (cA ω) = 129) (h : eT xq_16 m 66 [some (.inr (.inl (some 12))), some (.inl n), some (.inl i)] [.inl (ω.1 24 (cA ω).toNat)] ω r μ') : zpQ U μ' := by
  have e1i : (1 : Int32).toInt = 1 := by decide
  have hA : cA ω ≤ 400 ∧ (0 ≤ cA ω ∧ cA ω ≤ E ∧ nmI E ω ∧ cTV ω E ∧ 0 ≤ i.toInt ∧ i.toInt ≤ cA ω) := by
    obtain ⟨g1, g2, g3⟩ := hI
    rcases g3 with ⟨a1, a2, a3, a4, a5, a6, a7⟩ | ⟨a1, -⟩
    · have := g2.1
      exact ⟨by omega, a3, a4, a2, g2, a5, a6⟩
    · exact absurd h0 a1
  obtain ⟨hA, hA0, hAE, hnm, htv, hi0, hiA⟩ := hA
  have hi9 := hA
  obtain ⟨hO, -⟩ := hJ h0
  have hx : (ω.1 24 (cA ω).toNat).toInt = cK ω (cA ω) := rfl
  obtain ⟨t9, ht9, h⟩ := tx_tsw h em16_66
  have e9 : t9 = 123 := by
    have := tsw_k ht9 (k := 1) (off := 57) rfl (by omega) (by omega)
    omega
  subst e9
  replace h : eT xq_16 _ 123 [some (.inr (.inl (some 12))), some (.inl n), some (.inl i)] [] ω r μ' := h
  replace h := tx_aload_n (p' := 124) h em16_123 rfl rfl
  obtain ⟨r124, μ124, hE124, h⟩ := tx_invV (na := 1) (mn := 20) (as := [.inr (.inl (some 12))]) (rest := []) (p' := 127) h em16_124 ((congrFun xo_3 60).trans rfl) xm_20 rfl rfl
  obtain ⟨rfl, ho⟩ := ex_verse hE124 hA0 hAE htv hnm hkk
  have hc := fun (hs : (pTell (cK ω) (cH ω) (cU ω) (cA ω)).2 = 0) (hw : (pLater (cK ω) (cP ω) (cm ω) (cl ω) (cV ω) (cN ω) (cA ω) (cW ω)).1 = 0) S (hC : zSL S ω) (hW : kWf S) => And.intro (zSL_keep hs ho (zEE_w (by decide +kernel) (hf_20_0 hE124 (hEn0 (by decide)) hO).2 hO) (by omega) hC (kc_verse (lw := lw) hE124 hA0 hAE htv hnm hO hs hC.1 hkk (tell_v0 hkk hs).1 (fun w => (kWf_V hW w).1) (bl2_t.mp ((pLater_0 hw).2.2.1 hkk).1))) ((hf_20_0 hE124 (hEn0 (by decide)) hO).2 hO).1
  replace h : eT xq_16 _ 127 [some (.inr (.inl (some 12))), some (.inl n), some (.inl i)] [] μ124 r μ' := h
  replace h := tx_goto (t := 179) h em16_127 (by decide)
  replace h := tx_iinc (v := 1) (p' := 182) h em16_179 (by decide +kernel) rfl rfl
  replace h : eT xq_16 _ 182 [some (.inr (.inl (some 12))), some (.inl n), some (.inl (i + 1))] [] μ124 r μ' := h
  obtain ⟨n2, hn2, h⟩ := tx_gotoS (t := 41) h em16_182 (by decide)
  have hi1 : (i + 1).toInt = i.toInt + 1 := by rw [an_add (by rw [e1i]; omega) (by rw [e1i]; omega), e1i]
  refine ih n2 hn2 _ _ h ?_ ?_
  · rw [hi1]
    exact paI_s hI h0 hk0 ho
  · rw [hi1]
    exact zaJ_s hT hI h0 hk0 ho hJ hc
set_option maxRecDepth 10000 in
set_option maxHeartbeats 4000000 in
theorem zpa_law0 {lw : Int → kLw} {U : kSt} {E : Int} {T : Int × Int} {ν μ' : xM} {r : Option zV} {n : Int32} {m : Nat} (hlw : lw = kLF (cK ν) (cV ν) 4) (hE4 : E ≤ 400) (hT : T.1 = 0) (ih : ∀ m2, m2 < m → ∀ (i : Int32) (ω : xM), eT xq_16 m2 41 [some (.inr (.inl (some 12))), some (.inl n), some (.inl i)] [] ω r μ' → paI E i.toInt T ν ω → zaJ lw i.toInt U ν ω → zpQ U μ') {i : Int32} {ω : xM} (hI : paI E i.toInt T ν ω) (hJ : zaJ lw i.toInt U ν ω) (h0 : (ω.1 12 4).toInt = 0) (hk0 : ¬ cK ω (cA ω) = 0) (hkk : cK ω (cA ω) = 130) (h : eT xq_16 m 66 [some (.inr (.inl (some 12))), some (.inl n), some (.inl i)] [.inl (ω.1 24 (cA ω).toNat)] ω r μ') : zpQ U μ' := by
  have e1i : (1 : Int32).toInt = 1 := by decide
  have hA : cA ω ≤ 400 ∧ (0 ≤ cA ω ∧ cA ω ≤ E ∧ nmI E ω ∧ cTV ω E ∧ 0 ≤ i.toInt ∧ i.toInt ≤ cA ω) := by
    obtain ⟨g1, g2, g3⟩ := hI
    rcases g3 with ⟨a1, a2, a3, a4, a5, a6, a7⟩ | ⟨a1, -⟩
    · have := g2.1
      exact ⟨by omega, a3, a4, a2, g2, a5, a6⟩
    · exact absurd h0 a1
  obtain ⟨hA, hA0, hAE, hnm, htv, hi0, hiA⟩ := hA
  have hi9 := hA
  obtain ⟨hO, -⟩ := hJ h0
  have hx : (ω.1 24 (cA ω).toNat).toInt = cK ω (cA ω) := rfl
  obtain ⟨t9, ht9, h⟩ := tx_tsw h em16_66
  have e9 : t9 = 130 := by
    have := tsw_k ht9 (k := 2) (off := 64) rfl (by omega) (by omega)
    omega
  subst e9
  replace h : eT xq_16 _ 130 [some (.inr (.inl (some 12))), some (.inl n), some (.inl i)] [] ω r μ' := h
  replace h := tx_aload_n (p' := 131) h em16_130 rfl rfl
  replace h := tx_iconst (v := 0) (p' := 132) h em16_131 (by decide +kernel) rfl
  obtain ⟨r132, μ132, hE132, h⟩ := tx_invV (na := 2) (mn := 18) (as := [.inr (.inl (some 12)), .inl (0 : Int32)]) (rest := []) (p' := 135) h em16_132 ((congrFun xo_3 63).trans rfl) xm_18 rfl rfl
  have ho := oT_law (by omega) hnm (ex_law hE132 hA0 hAE htv (by omega))
  have er : r132 = none := ex_law_n hE132
  subst er
  have hsf := sF_w (by decide +kernel) (hf_18_0 hE132 (hEn0 (by decide)) hO).2 hO
  have hc := fun (hs : (pTell (cK ω) (cH ω) (cU ω) (cA ω)).2 = 0) (_ : (pLater (cK ω) (cP ω) (cm ω) (cl ω) (cV ω) (cN ω) (cA ω) (cW ω)).1 = 0) S (hC : zSL S ω) (_ : kWf S) => And.intro (zSL_law (ex_law2 hE132 hA0 hAE htv (by omega) hO ⟨hC.2.1.1.1, hC.2.2⟩ (by rw [← pTell_l (h := cH ω) (v := cU ω) (by omega)]; exact hs)) (by rw [hkk]; decide) (by omega) (zl_A ho hs (by omega)) (by rw [hlw, gE_K hI.1, gE_V hI.1]) hC (show sC 13 (kStep (cK ω) (cT ω) (cV ω) lw (cA ω) S) μ132 by
    unfold kStep
    rw [if_neg (by omega), if_neg (by omega), if_neg (by omega), if_neg (by omega), if_neg (by omega)]
    exact sC_law (sF_C hsf hC.1))) hsf.1
  replace h : eT xq_16 _ 135 [some (.inr (.inl (some 12))), some (.inl n), some (.inl i)] [] μ132 r μ' := h
  replace h := tx_goto (t := 179) h em16_135 (by decide)
  replace h := tx_iinc (v := 1) (p' := 182) h em16_179 (by decide +kernel) rfl rfl
  replace h : eT xq_16 _ 182 [some (.inr (.inl (some 12))), some (.inl n), some (.inl (i + 1))] [] μ132 r μ' := h
  obtain ⟨n2, hn2, h⟩ := tx_gotoS (t := 41) h em16_182 (by decide)
  have hi1 : (i + 1).toInt = i.toInt + 1 := by rw [an_add (by rw [e1i]; omega) (by rw [e1i]; omega), e1i]
  refine ih n2 hn2 _ _ h ?_ ?_
  · rw [hi1]
    exact paI_s hI h0 hk0 ho
  · rw [hi1]
    exact zaJ_s hT hI h0 hk0 ho hJ hc
set_option maxRecDepth 10000 in
set_option maxHeartbeats 4000000 in
theorem zpa_law1 {lw : Int → kLw} {U : kSt} {E : Int} {T : Int × Int} {ν μ' : xM} {r : Option zV} {n : Int32} {m : Nat} (hlw : lw = kLF (cK ν) (cV ν) 4) (hE4 : E ≤ 400) (hT : T.1 = 0) (ih : ∀ m2, m2 < m → ∀ (i : Int32) (ω : xM), eT xq_16 m2 41 [some (.inr (.inl (some 12))), some (.inl n), some (.inl i)] [] ω r μ' → paI E i.toInt T ν ω → zaJ lw i.toInt U ν ω → zpQ U μ') {i : Int32} {ω : xM} (hI : paI E i.toInt T ν ω) (hJ : zaJ lw i.toInt U ν ω) (h0 : (ω.1 12 4).toInt = 0) (hk0 : ¬ cK ω (cA ω) = 0) (hkk : cK ω (cA ω) = 131) (h : eT xq_16 m 66 [some (.inr (.inl (some 12))), some (.inl n), some (.inl i)] [.inl (ω.1 24 (cA ω).toNat)] ω r μ') : zpQ U μ' := by
  have e1i : (1 : Int32).toInt = 1 := by decide
  have hA : cA ω ≤ 400 ∧ (0 ≤ cA ω ∧ cA ω ≤ E ∧ nmI E ω ∧ cTV ω E ∧ 0 ≤ i.toInt ∧ i.toInt ≤ cA ω) := by
    obtain ⟨g1, g2, g3⟩ := hI
    rcases g3 with ⟨a1, a2, a3, a4, a5, a6, a7⟩ | ⟨a1, -⟩
    · have := g2.1
      exact ⟨by omega, a3, a4, a2, g2, a5, a6⟩
    · exact absurd h0 a1
  obtain ⟨hA, hA0, hAE, hnm, htv, hi0, hiA⟩ := hA
  have hi9 := hA
  obtain ⟨hO, -⟩ := hJ h0
  have hx : (ω.1 24 (cA ω).toNat).toInt = cK ω (cA ω) := rfl
  obtain ⟨t9, ht9, h⟩ := tx_tsw h em16_66
  have e9 : t9 = 138 := by
    have := tsw_k ht9 (k := 3) (off := 72) rfl (by omega) (by omega)
    omega
  subst e9
  replace h : eT xq_16 _ 138 [some (.inr (.inl (some 12))), some (.inl n), some (.inl i)] [] ω r μ' := h
  replace h := tx_aload_n (p' := 139) h em16_138 rfl rfl
  replace h := tx_iconst (v := 1) (p' := 140) h em16_139 (by decide +kernel) rfl
  obtain ⟨r140, μ140, hE140, h⟩ := tx_invV (na := 2) (mn := 18) (as := [.inr (.inl (some 12)), .inl (1 : Int32)]) (rest := []) (p' := 143) h em16_140 ((congrFun xo_3 63).trans rfl) xm_18 rfl rfl
  have ho := oT_law (by omega) hnm (ex_law hE140 hA0 hAE htv (by omega))
  have er : r140 = none := ex_law_n hE140
  subst er
  have hsf := sF_w (by decide +kernel) (hf_18_0 hE140 (hEn0 (by decide)) hO).2 hO
  have hc := fun (hs : (pTell (cK ω) (cH ω) (cU ω) (cA ω)).2 = 0) (_ : (pLater (cK ω) (cP ω) (cm ω) (cl ω) (cV ω) (cN ω) (cA ω) (cW ω)).1 = 0) S (hC : zSL S ω) (_ : kWf S) => And.intro (zSL_law (ex_law2 hE140 hA0 hAE htv (by omega) hO ⟨hC.2.1.1.1, hC.2.2⟩ (by rw [← pTell_l (h := cH ω) (v := cU ω) (by omega)]; exact hs)) (by rw [hkk]; decide) (by omega) (zl_A ho hs (by omega)) (by rw [hlw, gE_K hI.1, gE_V hI.1]) hC (show sC 13 (kStep (cK ω) (cT ω) (cV ω) lw (cA ω) S) μ140 by
    unfold kStep
    rw [if_neg (by omega), if_neg (by omega), if_neg (by omega), if_neg (by omega), if_neg (by omega)]
    exact sC_law (sF_C hsf hC.1))) hsf.1
  replace h : eT xq_16 _ 143 [some (.inr (.inl (some 12))), some (.inl n), some (.inl i)] [] μ140 r μ' := h
  replace h := tx_goto (t := 179) h em16_143 (by decide)
  replace h := tx_iinc (v := 1) (p' := 182) h em16_179 (by decide +kernel) rfl rfl
  replace h : eT xq_16 _ 182 [some (.inr (.inl (some 12))), some (.inl n), some (.inl (i + 1))] [] μ140 r μ' := h
  obtain ⟨n2, hn2, h⟩ := tx_gotoS (t := 41) h em16_182 (by decide)
  have hi1 : (i + 1).toInt = i.toInt + 1 := by rw [an_add (by rw [e1i]; omega) (by rw [e1i]; omega), e1i]
  refine ih n2 hn2 _ _ h ?_ ?_
  · rw [hi1]
    exact paI_s hI h0 hk0 ho
  · rw [hi1]
    exact zaJ_s hT hI h0 hk0 ho hJ hc
set_option maxRecDepth 10000 in
set_option maxHeartbeats 4000000 in
theorem zpa_law2 {lw : Int → kLw} {U : kSt} {E : Int} {T : Int × Int} {ν μ' : xM} {r : Option zV} {n : Int32} {m : Nat} (hlw : lw = kLF (cK ν) (cV ν) 4) (hE4 : E ≤ 400) (hT : T.1 = 0) (ih : ∀ m2, m2 < m → ∀ (i : Int32) (ω : xM), eT xq_16 m2 41 [some (.inr (.inl (some 12))), some (.inl n), some (.inl i)] [] ω r μ' → paI E i.toInt T ν ω → zaJ lw i.toInt U ν ω → zpQ U μ') {i : Int32} {ω : xM} (hI : paI E i.toInt T ν ω) (hJ : zaJ lw i.toInt U ν ω) (h0 : (ω.1 12 4).toInt = 0) (hk0 : ¬ cK ω (cA ω) = 0) (hkk : cK ω (cA ω) = 132) (h : eT xq_16 m 66 [some (.inr (.inl (some 12))), some (.inl n), some (.inl i)] [.inl (ω.1 24 (cA ω).toNat)] ω r μ') : zpQ U μ' := by
  have e1i : (1 : Int32).toInt = 1 := by decide
  have hA : cA ω ≤ 400 ∧ (0 ≤ cA ω ∧ cA ω ≤ E ∧ nmI E ω ∧ cTV ω E ∧ 0 ≤ i.toInt ∧ i.toInt ≤ cA ω) := by
    obtain ⟨g1, g2, g3⟩ := hI
    rcases g3 with ⟨a1, a2, a3, a4, a5, a6, a7⟩ | ⟨a1, -⟩
    · have := g2.1
      exact ⟨by omega, a3, a4, a2, g2, a5, a6⟩
    · exact absurd h0 a1
  obtain ⟨hA, hA0, hAE, hnm, htv, hi0, hiA⟩ := hA
  have hi9 := hA
  obtain ⟨hO, -⟩ := hJ h0
  have hx : (ω.1 24 (cA ω).toNat).toInt = cK ω (cA ω) := rfl
  obtain ⟨t9, ht9, h⟩ := tx_tsw h em16_66
  have e9 : t9 = 146 := by
    have := tsw_k ht9 (k := 4) (off := 80) rfl (by omega) (by omega)
    omega
  subst e9
  replace h : eT xq_16 _ 146 [some (.inr (.inl (some 12))), some (.inl n), some (.inl i)] [] ω r μ' := h
  replace h := tx_aload_n (p' := 147) h em16_146 rfl rfl
  replace h := tx_iconst (v := 2) (p' := 148) h em16_147 (by decide +kernel) rfl
  obtain ⟨r148, μ148, hE148, h⟩ := tx_invV (na := 2) (mn := 18) (as := [.inr (.inl (some 12)), .inl (2 : Int32)]) (rest := []) (p' := 151) h em16_148 ((congrFun xo_3 63).trans rfl) xm_18 rfl rfl
  have ho := oT_law (by omega) hnm (ex_law hE148 hA0 hAE htv (by omega))
  have er : r148 = none := ex_law_n hE148
  subst er
  have hsf := sF_w (by decide +kernel) (hf_18_0 hE148 (hEn0 (by decide)) hO).2 hO
  have hc := fun (hs : (pTell (cK ω) (cH ω) (cU ω) (cA ω)).2 = 0) (_ : (pLater (cK ω) (cP ω) (cm ω) (cl ω) (cV ω) (cN ω) (cA ω) (cW ω)).1 = 0) S (hC : zSL S ω) (_ : kWf S) => And.intro (zSL_law (ex_law2 hE148 hA0 hAE htv (by omega) hO ⟨hC.2.1.1.1, hC.2.2⟩ (by rw [← pTell_l (h := cH ω) (v := cU ω) (by omega)]; exact hs)) (by rw [hkk]; decide) (by omega) (zl_A ho hs (by omega)) (by rw [hlw, gE_K hI.1, gE_V hI.1]) hC (show sC 13 (kStep (cK ω) (cT ω) (cV ω) lw (cA ω) S) μ148 by
    unfold kStep
    rw [if_neg (by omega), if_neg (by omega), if_neg (by omega), if_neg (by omega), if_neg (by omega)]
    exact sC_law (sF_C hsf hC.1))) hsf.1
  replace h : eT xq_16 _ 151 [some (.inr (.inl (some 12))), some (.inl n), some (.inl i)] [] μ148 r μ' := h
  replace h := tx_goto (t := 179) h em16_151 (by decide)
  replace h := tx_iinc (v := 1) (p' := 182) h em16_179 (by decide +kernel) rfl rfl
  replace h : eT xq_16 _ 182 [some (.inr (.inl (some 12))), some (.inl n), some (.inl (i + 1))] [] μ148 r μ' := h
  obtain ⟨n2, hn2, h⟩ := tx_gotoS (t := 41) h em16_182 (by decide)
  have hi1 : (i + 1).toInt = i.toInt + 1 := by rw [an_add (by rw [e1i]; omega) (by rw [e1i]; omega), e1i]
  refine ih n2 hn2 _ _ h ?_ ?_
  · rw [hi1]
    exact paI_s hI h0 hk0 ho
  · rw [hi1]
    exact zaJ_s hT hI h0 hk0 ho hJ hc
set_option maxRecDepth 10000 in
set_option maxHeartbeats 4000000 in
theorem zpa_law3 {lw : Int → kLw} {U : kSt} {E : Int} {T : Int × Int} {ν μ' : xM} {r : Option zV} {n : Int32} {m : Nat} (hlw : lw = kLF (cK ν) (cV ν) 4) (hE4 : E ≤ 400) (hT : T.1 = 0) (ih : ∀ m2, m2 < m → ∀ (i : Int32) (ω : xM), eT xq_16 m2 41 [some (.inr (.inl (some 12))), some (.inl n), some (.inl i)] [] ω r μ' → paI E i.toInt T ν ω → zaJ lw i.toInt U ν ω → zpQ U μ') {i : Int32} {ω : xM} (hI : paI E i.toInt T ν ω) (hJ : zaJ lw i.toInt U ν ω) (h0 : (ω.1 12 4).toInt = 0) (hk0 : ¬ cK ω (cA ω) = 0) (hkk : cK ω (cA ω) = 133) (h : eT xq_16 m 66 [some (.inr (.inl (some 12))), some (.inl n), some (.inl i)] [.inl (ω.1 24 (cA ω).toNat)] ω r μ') : zpQ U μ' := by
  have e1i : (1 : Int32).toInt = 1 := by decide
  have hA : cA ω ≤ 400 ∧ (0 ≤ cA ω ∧ cA ω ≤ E ∧ nmI E ω ∧ cTV ω E ∧ 0 ≤ i.toInt ∧ i.toInt ≤ cA ω) := by
    obtain ⟨g1, g2, g3⟩ := hI
    rcases g3 with ⟨a1, a2, a3, a4, a5, a6, a7⟩ | ⟨a1, -⟩
    · have := g2.1
      exact ⟨by omega, a3, a4, a2, g2, a5, a6⟩
    · exact absurd h0 a1
  obtain ⟨hA, hA0, hAE, hnm, htv, hi0, hiA⟩ := hA
  have hi9 := hA
  obtain ⟨hO, -⟩ := hJ h0
  have hx : (ω.1 24 (cA ω).toNat).toInt = cK ω (cA ω) := rfl
  obtain ⟨t9, ht9, h⟩ := tx_tsw h em16_66
  have e9 : t9 = 154 := by
    have := tsw_k ht9 (k := 5) (off := 88) rfl (by omega) (by omega)
    omega
  subst e9
  replace h : eT xq_16 _ 154 [some (.inr (.inl (some 12))), some (.inl n), some (.inl i)] [] ω r μ' := h
  replace h := tx_aload_n (p' := 155) h em16_154 rfl rfl
  replace h := tx_iconst (v := 3) (p' := 156) h em16_155 (by decide +kernel) rfl
  obtain ⟨r156, μ156, hE156, h⟩ := tx_invV (na := 2) (mn := 18) (as := [.inr (.inl (some 12)), .inl (3 : Int32)]) (rest := []) (p' := 159) h em16_156 ((congrFun xo_3 63).trans rfl) xm_18 rfl rfl
  have ho := oT_law (by omega) hnm (ex_law hE156 hA0 hAE htv (by omega))
  have er : r156 = none := ex_law_n hE156
  subst er
  have hsf := sF_w (by decide +kernel) (hf_18_0 hE156 (hEn0 (by decide)) hO).2 hO
  have hc := fun (hs : (pTell (cK ω) (cH ω) (cU ω) (cA ω)).2 = 0) (_ : (pLater (cK ω) (cP ω) (cm ω) (cl ω) (cV ω) (cN ω) (cA ω) (cW ω)).1 = 0) S (hC : zSL S ω) (_ : kWf S) => And.intro (zSL_law (ex_law2 hE156 hA0 hAE htv (by omega) hO ⟨hC.2.1.1.1, hC.2.2⟩ (by rw [← pTell_l (h := cH ω) (v := cU ω) (by omega)]; exact hs)) (by rw [hkk]; decide) (by omega) (zl_A ho hs (by omega)) (by rw [hlw, gE_K hI.1, gE_V hI.1]) hC (show sC 13 (kStep (cK ω) (cT ω) (cV ω) lw (cA ω) S) μ156 by
    unfold kStep
    rw [if_neg (by omega), if_neg (by omega), if_neg (by omega), if_neg (by omega), if_neg (by omega)]
    exact sC_law (sF_C hsf hC.1))) hsf.1
  replace h : eT xq_16 _ 159 [some (.inr (.inl (some 12))), some (.inl n), some (.inl i)] [] μ156 r μ' := h
  replace h := tx_goto (t := 179) h em16_159 (by decide)
  replace h := tx_iinc (v := 1) (p' := 182) h em16_179 (by decide +kernel) rfl rfl
  replace h : eT xq_16 _ 182 [some (.inr (.inl (some 12))), some (.inl n), some (.inl (i + 1))] [] μ156 r μ' := h
  obtain ⟨n2, hn2, h⟩ := tx_gotoS (t := 41) h em16_182 (by decide)
  have hi1 : (i + 1).toInt = i.toInt + 1 := by rw [an_add (by rw [e1i]; omega) (by rw [e1i]; omega), e1i]
  refine ih n2 hn2 _ _ h ?_ ?_
  · rw [hi1]
    exact paI_s hI h0 hk0 ho
  · rw [hi1]
    exact zaJ_s hT hI h0 hk0 ho hJ hc
set_option maxRecDepth 10000 in
set_option maxHeartbeats 4000000 in
theorem zpa_num0 {lw : Int → kLw} {U : kSt} {E : Int} {T : Int × Int} {ν μ' : xM} {r : Option zV} {n : Int32} {m : Nat} (hlw : lw = kLF (cK ν) (cV ν) 4) (hE4 : E ≤ 400) (hT : T.1 = 0) (ih : ∀ m2, m2 < m → ∀ (i : Int32) (ω : xM), eT xq_16 m2 41 [some (.inr (.inl (some 12))), some (.inl n), some (.inl i)] [] ω r μ' → paI E i.toInt T ν ω → zaJ lw i.toInt U ν ω → zpQ U μ') {i : Int32} {ω : xM} (hI : paI E i.toInt T ν ω) (hJ : zaJ lw i.toInt U ν ω) (h0 : (ω.1 12 4).toInt = 0) (hk0 : ¬ cK ω (cA ω) = 0) (hkk : cK ω (cA ω) = 134) (h : eT xq_16 m 66 [some (.inr (.inl (some 12))), some (.inl n), some (.inl i)] [.inl (ω.1 24 (cA ω).toNat)] ω r μ') : zpQ U μ' := by
  have e1i : (1 : Int32).toInt = 1 := by decide
  have hA : cA ω ≤ 400 ∧ (0 ≤ cA ω ∧ cA ω ≤ E ∧ nmI E ω ∧ cTV ω E ∧ 0 ≤ i.toInt ∧ i.toInt ≤ cA ω) := by
    obtain ⟨g1, g2, g3⟩ := hI
    rcases g3 with ⟨a1, a2, a3, a4, a5, a6, a7⟩ | ⟨a1, -⟩
    · have := g2.1
      exact ⟨by omega, a3, a4, a2, g2, a5, a6⟩
    · exact absurd h0 a1
  obtain ⟨hA, hA0, hAE, hnm, htv, hi0, hiA⟩ := hA
  have hi9 := hA
  obtain ⟨hO, -⟩ := hJ h0
  have hx : (ω.1 24 (cA ω).toNat).toInt = cK ω (cA ω) := rfl
  obtain ⟨t9, ht9, h⟩ := tx_tsw h em16_66
  have e9 : t9 = 162 := by
    have := tsw_k ht9 (k := 6) (off := 96) rfl (by omega) (by omega)
    omega
  subst e9
  replace h : eT xq_16 _ 162 [some (.inr (.inl (some 12))), some (.inl n), some (.inl i)] [] ω r μ' := h
  replace h := tx_aload_n (p' := 163) h em16_162 rfl rfl
  replace h := tx_aload_n (p' := 164) h em16_163 rfl rfl
  obtain ⟨r164, μ164, hE164, h⟩ := tx_invV (na := 1) (mn := 13) (as := [.inr (.inl (some 12))]) (rest := [.inr (.inl (some 12))]) (p' := 167) h em16_164 ((congrFun xo_3 53).trans rfl) xm_13 rfl rfl
  obtain ⟨rfl, hm164⟩ := ex_next hE164 (by have := hA; omega)
  rw [hm164] at h
  replace h : eT xq_16 _ 167 [some (.inr (.inl (some 12))), some (.inl n), some (.inl i)] [.inl (ω.1 24 (cA ω).toNat), .inr (.inl (some 12))] ω r μ' := h
  obtain ⟨r167, μ167, hE167, h⟩ := tx_invV (na := 2) (mn := 19) (as := [.inr (.inl (some 12)), .inl (ω.1 24 (cA ω).toNat)]) (rest := []) (p' := 170) h em16_167 ((congrFun xo_3 67).trans rfl) xm_19 rfl rfl
  obtain ⟨rfl, ho⟩ := ex_number hE167 hA0 hAE htv hnm rfl (by show 134 ≤ cK ω (cA ω) ∧ cK ω (cA ω) ≤ 136; omega)
  have hc := fun (hs : (pTell (cK ω) (cH ω) (cU ω) (cA ω)).2 = 0) (_ : (pLater (cK ω) (cP ω) (cm ω) (cl ω) (cV ω) (cN ω) (cA ω) (cW ω)).1 = 0) S (hC : zSL S ω) (_ : kWf S) => And.intro (zSL_keep hs ho (zEE_w (by decide +kernel) (hf_19_0 hE167 (hEn0 (by decide)) hO).2 hO) (by omega) hC (kc_number (lw := lw) hE167 hA0 hAE htv hnm hO hs hC.1 rfl (by show 134 ≤ cK ω (cA ω) ∧ cK ω (cA ω) ≤ 136; omega))) ((hf_19_0 hE167 (hEn0 (by decide)) hO).2 hO).1
  replace h : eT xq_16 _ 170 [some (.inr (.inl (some 12))), some (.inl n), some (.inl i)] [] μ167 r μ' := h
  replace h := tx_goto (t := 179) h em16_170 (by decide)
  replace h := tx_iinc (v := 1) (p' := 182) h em16_179 (by decide +kernel) rfl rfl
  replace h : eT xq_16 _ 182 [some (.inr (.inl (some 12))), some (.inl n), some (.inl (i + 1))] [] μ167 r μ' := h
  obtain ⟨n2, hn2, h⟩ := tx_gotoS (t := 41) h em16_182 (by decide)
  have hi1 : (i + 1).toInt = i.toInt + 1 := by rw [an_add (by rw [e1i]; omega) (by rw [e1i]; omega), e1i]
  refine ih n2 hn2 _ _ h ?_ ?_
  · rw [hi1]
    exact paI_s hI h0 hk0 ho
  · rw [hi1]
    exact zaJ_s hT hI h0 hk0 ho hJ hc
set_option maxRecDepth 10000 in
set_option maxHeartbeats 4000000 in
theorem zpa_num1 {lw : Int → kLw} {U : kSt} {E : Int} {T : Int × Int} {ν μ' : xM} {r : Option zV} {n : Int32} {m : Nat} (hlw : lw = kLF (cK ν) (cV ν) 4) (hE4 : E ≤ 400) (hT : T.1 = 0) (ih : ∀ m2, m2 < m → ∀ (i : Int32) (ω : xM), eT xq_16 m2 41 [some (.inr (.inl (some 12))), some (.inl n), some (.inl i)] [] ω r μ' → paI E i.toInt T ν ω → zaJ lw i.toInt U ν ω → zpQ U μ') {i : Int32} {ω : xM} (hI : paI E i.toInt T ν ω) (hJ : zaJ lw i.toInt U ν ω) (h0 : (ω.1 12 4).toInt = 0) (hk0 : ¬ cK ω (cA ω) = 0) (hkk : cK ω (cA ω) = 135) (h : eT xq_16 m 66 [some (.inr (.inl (some 12))), some (.inl n), some (.inl i)] [.inl (ω.1 24 (cA ω).toNat)] ω r μ') : zpQ U μ' := by
  have e1i : (1 : Int32).toInt = 1 := by decide
  have hA : cA ω ≤ 400 ∧ (0 ≤ cA ω ∧ cA ω ≤ E ∧ nmI E ω ∧ cTV ω E ∧ 0 ≤ i.toInt ∧ i.toInt ≤ cA ω) := by
    obtain ⟨g1, g2, g3⟩ := hI
    rcases g3 with ⟨a1, a2, a3, a4, a5, a6, a7⟩ | ⟨a1, -⟩
    · have := g2.1
      exact ⟨by omega, a3, a4, a2, g2, a5, a6⟩
    · exact absurd h0 a1
  obtain ⟨hA, hA0, hAE, hnm, htv, hi0, hiA⟩ := hA
  have hi9 := hA
  obtain ⟨hO, -⟩ := hJ h0
  have hx : (ω.1 24 (cA ω).toNat).toInt = cK ω (cA ω) := rfl
  obtain ⟨t9, ht9, h⟩ := tx_tsw h em16_66
  have e9 : t9 = 162 := by
    have := tsw_k ht9 (k := 7) (off := 96) rfl (by omega) (by omega)
    omega
  subst e9
  replace h : eT xq_16 _ 162 [some (.inr (.inl (some 12))), some (.inl n), some (.inl i)] [] ω r μ' := h
  replace h := tx_aload_n (p' := 163) h em16_162 rfl rfl
  replace h := tx_aload_n (p' := 164) h em16_163 rfl rfl
  obtain ⟨r164, μ164, hE164, h⟩ := tx_invV (na := 1) (mn := 13) (as := [.inr (.inl (some 12))]) (rest := [.inr (.inl (some 12))]) (p' := 167) h em16_164 ((congrFun xo_3 53).trans rfl) xm_13 rfl rfl
  obtain ⟨rfl, hm164⟩ := ex_next hE164 (by have := hA; omega)
  rw [hm164] at h
  replace h : eT xq_16 _ 167 [some (.inr (.inl (some 12))), some (.inl n), some (.inl i)] [.inl (ω.1 24 (cA ω).toNat), .inr (.inl (some 12))] ω r μ' := h
  obtain ⟨r167, μ167, hE167, h⟩ := tx_invV (na := 2) (mn := 19) (as := [.inr (.inl (some 12)), .inl (ω.1 24 (cA ω).toNat)]) (rest := []) (p' := 170) h em16_167 ((congrFun xo_3 67).trans rfl) xm_19 rfl rfl
  obtain ⟨rfl, ho⟩ := ex_number hE167 hA0 hAE htv hnm rfl (by show 134 ≤ cK ω (cA ω) ∧ cK ω (cA ω) ≤ 136; omega)
  have hc := fun (hs : (pTell (cK ω) (cH ω) (cU ω) (cA ω)).2 = 0) (_ : (pLater (cK ω) (cP ω) (cm ω) (cl ω) (cV ω) (cN ω) (cA ω) (cW ω)).1 = 0) S (hC : zSL S ω) (_ : kWf S) => And.intro (zSL_keep hs ho (zEE_w (by decide +kernel) (hf_19_0 hE167 (hEn0 (by decide)) hO).2 hO) (by omega) hC (kc_number (lw := lw) hE167 hA0 hAE htv hnm hO hs hC.1 rfl (by show 134 ≤ cK ω (cA ω) ∧ cK ω (cA ω) ≤ 136; omega))) ((hf_19_0 hE167 (hEn0 (by decide)) hO).2 hO).1
  replace h : eT xq_16 _ 170 [some (.inr (.inl (some 12))), some (.inl n), some (.inl i)] [] μ167 r μ' := h
  replace h := tx_goto (t := 179) h em16_170 (by decide)
  replace h := tx_iinc (v := 1) (p' := 182) h em16_179 (by decide +kernel) rfl rfl
  replace h : eT xq_16 _ 182 [some (.inr (.inl (some 12))), some (.inl n), some (.inl (i + 1))] [] μ167 r μ' := h
  obtain ⟨n2, hn2, h⟩ := tx_gotoS (t := 41) h em16_182 (by decide)
  have hi1 : (i + 1).toInt = i.toInt + 1 := by rw [an_add (by rw [e1i]; omega) (by rw [e1i]; omega), e1i]
  refine ih n2 hn2 _ _ h ?_ ?_
  · rw [hi1]
    exact paI_s hI h0 hk0 ho
  · rw [hi1]
    exact zaJ_s hT hI h0 hk0 ho hJ hc
set_option maxRecDepth 10000 in
set_option maxHeartbeats 4000000 in
theorem zpa_num2 {lw : Int → kLw} {U : kSt} {E : Int} {T : Int × Int} {ν μ' : xM} {r : Option zV} {n : Int32} {m : Nat} (hlw : lw = kLF (cK ν) (cV ν) 4) (hE4 : E ≤ 400) (hT : T.1 = 0) (ih : ∀ m2, m2 < m → ∀ (i : Int32) (ω : xM), eT xq_16 m2 41 [some (.inr (.inl (some 12))), some (.inl n), some (.inl i)] [] ω r μ' → paI E i.toInt T ν ω → zaJ lw i.toInt U ν ω → zpQ U μ') {i : Int32} {ω : xM} (hI : paI E i.toInt T ν ω) (hJ : zaJ lw i.toInt U ν ω) (h0 : (ω.1 12 4).toInt = 0) (hk0 : ¬ cK ω (cA ω) = 0) (hkk : cK ω (cA ω) = 136) (h : eT xq_16 m 66 [some (.inr (.inl (some 12))), some (.inl n), some (.inl i)] [.inl (ω.1 24 (cA ω).toNat)] ω r μ') : zpQ U μ' := by
  have e1i : (1 : Int32).toInt = 1 := by decide
  have hA : cA ω ≤ 400 ∧ (0 ≤ cA ω ∧ cA ω ≤ E ∧ nmI E ω ∧ cTV ω E ∧ 0 ≤ i.toInt ∧ i.toInt ≤ cA ω) := by
    obtain ⟨g1, g2, g3⟩ := hI
    rcases g3 with ⟨a1, a2, a3, a4, a5, a6, a7⟩ | ⟨a1, -⟩
    · have := g2.1
      exact ⟨by omega, a3, a4, a2, g2, a5, a6⟩
    · exact absurd h0 a1
  obtain ⟨hA, hA0, hAE, hnm, htv, hi0, hiA⟩ := hA
  have hi9 := hA
  obtain ⟨hO, -⟩ := hJ h0
  have hx : (ω.1 24 (cA ω).toNat).toInt = cK ω (cA ω) := rfl
  obtain ⟨t9, ht9, h⟩ := tx_tsw h em16_66
  have e9 : t9 = 162 := by
    have := tsw_k ht9 (k := 8) (off := 96) rfl (by omega) (by omega)
    omega
  subst e9
  replace h : eT xq_16 _ 162 [some (.inr (.inl (some 12))), some (.inl n), some (.inl i)] [] ω r μ' := h
  replace h := tx_aload_n (p' := 163) h em16_162 rfl rfl
  replace h := tx_aload_n (p' := 164) h em16_163 rfl rfl
  obtain ⟨r164, μ164, hE164, h⟩ := tx_invV (na := 1) (mn := 13) (as := [.inr (.inl (some 12))]) (rest := [.inr (.inl (some 12))]) (p' := 167) h em16_164 ((congrFun xo_3 53).trans rfl) xm_13 rfl rfl
  obtain ⟨rfl, hm164⟩ := ex_next hE164 (by have := hA; omega)
  rw [hm164] at h
  replace h : eT xq_16 _ 167 [some (.inr (.inl (some 12))), some (.inl n), some (.inl i)] [.inl (ω.1 24 (cA ω).toNat), .inr (.inl (some 12))] ω r μ' := h
  obtain ⟨r167, μ167, hE167, h⟩ := tx_invV (na := 2) (mn := 19) (as := [.inr (.inl (some 12)), .inl (ω.1 24 (cA ω).toNat)]) (rest := []) (p' := 170) h em16_167 ((congrFun xo_3 67).trans rfl) xm_19 rfl rfl
  obtain ⟨rfl, ho⟩ := ex_number hE167 hA0 hAE htv hnm rfl (by show 134 ≤ cK ω (cA ω) ∧ cK ω (cA ω) ≤ 136; omega)
  have hc := fun (hs : (pTell (cK ω) (cH ω) (cU ω) (cA ω)).2 = 0) (_ : (pLater (cK ω) (cP ω) (cm ω) (cl ω) (cV ω) (cN ω) (cA ω) (cW ω)).1 = 0) S (hC : zSL S ω) (_ : kWf S) => And.intro (zSL_keep hs ho (zEE_w (by decide +kernel) (hf_19_0 hE167 (hEn0 (by decide)) hO).2 hO) (by omega) hC (kc_number (lw := lw) hE167 hA0 hAE htv hnm hO hs hC.1 rfl (by show 134 ≤ cK ω (cA ω) ∧ cK ω (cA ω) ≤ 136; omega))) ((hf_19_0 hE167 (hEn0 (by decide)) hO).2 hO).1
  replace h : eT xq_16 _ 170 [some (.inr (.inl (some 12))), some (.inl n), some (.inl i)] [] μ167 r μ' := h
  replace h := tx_goto (t := 179) h em16_170 (by decide)
  replace h := tx_iinc (v := 1) (p' := 182) h em16_179 (by decide +kernel) rfl rfl
  replace h : eT xq_16 _ 182 [some (.inr (.inl (some 12))), some (.inl n), some (.inl (i + 1))] [] μ167 r μ' := h
  obtain ⟨n2, hn2, h⟩ := tx_gotoS (t := 41) h em16_182 (by decide)
  have hi1 : (i + 1).toInt = i.toInt + 1 := by rw [an_add (by rw [e1i]; omega) (by rw [e1i]; omega), e1i]
  refine ih n2 hn2 _ _ h ?_ ?_
  · rw [hi1]
    exact paI_s hI h0 hk0 ho
  · rw [hi1]
    exact zaJ_s hT hI h0 hk0 ho hJ hc
set_option maxRecDepth 10000 in
set_option maxHeartbeats 4000000 in
theorem zpa_else {lw : Int → kLw} {U : kSt} {E : Int} {T : Int × Int} {ν μ' : xM} {r : Option zV} {n : Int32} {m : Nat} (hlw : lw = kLF (cK ν) (cV ν) 4) (hE4 : E ≤ 400) (hT : T.1 = 0) (ih : ∀ m2, m2 < m → ∀ (i : Int32) (ω : xM), eT xq_16 m2 41 [some (.inr (.inl (some 12))), some (.inl n), some (.inl i)] [] ω r μ' → paI E i.toInt T ν ω → zaJ lw i.toInt U ν ω → zpQ U μ') {i : Int32} {ω : xM} (hI : paI E i.toInt T ν ω) (hJ : zaJ lw i.toInt U ν ω) (h0 : (ω.1 12 4).toInt = 0) (hk0 : ¬ cK ω (cA ω) = 0) (hkk : cK ω (cA ω) < 128 ∨ 136 < cK ω (cA ω)) (h : eT xq_16 m 66 [some (.inr (.inl (some 12))), some (.inl n), some (.inl i)] [.inl (ω.1 24 (cA ω).toNat)] ω r μ') : zpQ U μ' := by
  have e1i : (1 : Int32).toInt = 1 := by decide
  have hA : cA ω ≤ 400 ∧ (0 ≤ cA ω ∧ cA ω ≤ E ∧ nmI E ω ∧ cTV ω E ∧ 0 ≤ i.toInt ∧ i.toInt ≤ cA ω) := by
    obtain ⟨g1, g2, g3⟩ := hI
    rcases g3 with ⟨a1, a2, a3, a4, a5, a6, a7⟩ | ⟨a1, -⟩
    · have := g2.1
      exact ⟨by omega, a3, a4, a2, g2, a5, a6⟩
    · exact absurd h0 a1
  obtain ⟨hA, hA0, hAE, hnm, htv, hi0, hiA⟩ := hA
  have hi9 := hA
  obtain ⟨hO, -⟩ := hJ h0
  have hx : (ω.1 24 (cA ω).toNat).toInt = cK ω (cA ω) := rfl
  obtain ⟨t9, ht9, h⟩ := tx_tsw h em16_66
  have e9 : t9 = 173 := by
    have := tsw_d ht9 (by decide) (by omega)
    omega
  subst e9
  replace h : eT xq_16 _ 173 [some (.inr (.inl (some 12))), some (.inl n), some (.inl i)] [] ω r μ' := h
  replace h := tx_aload_n (p' := 174) h em16_173 rfl rfl
  replace h := tx_iconst (v := 1) (p' := 175) h em16_174 (by decide +kernel) rfl
  obtain ⟨r175, μ175, hE175, h⟩ := tx_invV (na := 2) (mn := 10) (as := [.inr (.inl (some 12)), .inl (1 : Int32)]) (rest := []) (p' := 178) h em16_175 ((congrFun xo_3 70).trans rfl) xm_10 rfl rfl
  obtain ⟨rfl, hmf⟩ := ex_fail hE175 hA
  have ho := oT_else (e := E) (μ := ω) (by omega)
  rw [← hmf] at ho
  have hc := fun (hs : (pTell (cK ω) (cH ω) (cU ω) (cA ω)).2 = 0) (_ : (pLater (cK ω) (cP ω) (cm ω) (cl ω) (cV ω) (cN ω) (cA ω) (cW ω)).1 = 0) S (_ : zSL S ω) (_ : kWf S) => (absurd hs (by rw [pTell_e hkk]; show ¬ (1 : Int) = 0; decide) : zSL (kStep (cK ω) (cT ω) (cV ω) lw (cA ω) S) μ175 ∧ hOK μ175)
  replace h : eT xq_16 _ 178 [some (.inr (.inl (some 12))), some (.inl n), some (.inl i)] [.inl (0 : Int32)] μ175 r μ' := h
  replace h := tx_pop (p' := 179) h em16_178 rfl
  replace h := tx_iinc (v := 1) (p' := 182) h em16_179 (by decide +kernel) rfl rfl
  replace h : eT xq_16 _ 182 [some (.inr (.inl (some 12))), some (.inl n), some (.inl (i + 1))] [] μ175 r μ' := h
  obtain ⟨n2, hn2, h⟩ := tx_gotoS (t := 41) h em16_182 (by decide)
  have hi1 : (i + 1).toInt = i.toInt + 1 := by rw [an_add (by rw [e1i]; omega) (by rw [e1i]; omega), e1i]
  refine ih n2 hn2 _ _ h ?_ ?_
  · rw [hi1]
    exact paI_s hI h0 hk0 ho
  · rw [hi1]
    exact zaJ_s hT hI h0 hk0 ho hJ hc
set_option maxRecDepth 10000 in
set_option maxHeartbeats 4000000 in
theorem zpa_loop {lw : Int → kLw} {U : kSt} {E : Int} {T : Int × Int} {ν μ' : xM} {r : Option zV} {n : Int32} (hlw : lw = kLF (cK ν) (cV ν) 4) (hE4 : E ≤ 400) (hT : T.1 = 0) : ∀ m : Nat, ∀ (i : Int32) (ω : xM), eT xq_16 m 41 [some (.inr (.inl (some 12))), some (.inl n), some (.inl i)] [] ω r μ' → paI E i.toInt T ν ω → zaJ lw i.toInt U ν ω → zpQ U μ' := by
  have e1i : (1 : Int32).toInt = 1 := by decide
  intro m
  induction m using Nat.strongRecOn with
  | ind m ih =>
  intro i ω h hI hJ
  have h185 : eT xq_16 m 185 [some (.inr (.inl (some 12))), some (.inl n), some (.inl i)] [] ω r μ' → (400 < i.toInt ∨ ¬ (ω.1 12 4).toInt = 0 ∨ cK ω (cA ω) = 0) → zpQ U μ' := by
    intro h hx
    replace h := tx_aload_n (p' := 186) h em16_185 rfl rfl
    replace h := tx_getf (c := 2) (j := 4) (p' := 189) h em16_186 ((congrFun xo_3 44).trans rfl) rfl rfl (by decide) rfl
    rcases tx_if (t := 208) (p' := 192) h em16_189 (by decide) rfl with ⟨c189, h⟩ | ⟨c189, h⟩
    · replace c189 : ¬ (ω.1 12 4).toInt = 0 := c189
      replace h := tx_aload_n (p' := 209) h em16_208 rfl rfl
      replace h := tx_getf (c := 2) (j := 4) (p' := 212) h em16_209 ((congrFun xo_3 44).trans rfl) rfl rfl (by decide) rfl
      obtain ⟨rfl, hμ⟩ := tx_ireturn h em16_212
      exfalso
      obtain ⟨g1, g2, g3⟩ := hI
      rcases g3 with ⟨a1, -⟩ | ⟨a1, a2⟩
      · omega
      · rw [a2] at hT; omega
    · replace c189 : ¬ ¬ (ω.1 12 4).toInt = 0 := c189
      replace h := tx_aload_n (p' := 193) h em16_192 rfl rfl
      replace h := tx_aload_n (p' := 194) h em16_193 rfl rfl
      replace h := tx_getf (c := 2) (j := 6) (p' := 197) h em16_194 ((congrFun xo_3 47).trans rfl) rfl rfl (by decide) rfl
      replace h := tx_putf (a := 12) (c := 2) (j := 4) (p' := 200) h em16_197 ((congrFun xo_3 44).trans rfl) rfl
      replace h := tx_aload_n (p' := 201) h em16_200 rfl rfl
      replace h := tx_aload_n (p' := 202) h em16_201 rfl rfl
      replace h := tx_getf (c := 2) (j := 7) (p' := 205) h em16_202 ((congrFun xo_3 74).trans rfl) rfl rfl (by decide) rfl
      replace h : eT xq_16 _ 205 [some (.inr (.inl (some 12))), some (.inl n), some (.inl i)] [.inl (ω.1 12 7), .inr (.inl (some 12))] (xpi ω 12 4 (ω.1 12 6)) r μ' := h
      replace h := tx_putf (a := 12) (c := 2) (j := 5) (p' := 208) h em16_205 ((congrFun xo_3 77).trans rfl) rfl
      replace h := tx_aload_n (p' := 209) h em16_208 rfl rfl
      replace h := tx_getf (c := 2) (j := 4) (p' := 212) h em16_209 ((congrFun xo_3 44).trans rfl) rfl rfl (by decide) rfl
      replace h : eT xq_16 _ 212 [some (.inr (.inl (some 12))), some (.inl n), some (.inl i)] [.inl (ω.1 12 6)] (xpi (xpi ω 12 4 (ω.1 12 6)) 12 5 (ω.1 12 7)) r μ' := h
      obtain ⟨rfl, hμ⟩ := tx_ireturn h em16_212
      rw [hμ]
      obtain ⟨g1, g2, g3⟩ := hI
      rcases g3 with ⟨a1, a2, a3, a4, a5, a6, a7⟩ | ⟨a1, -⟩
      · obtain ⟨hO, S, s1, s2, s3⟩ := hJ a1
        have hw : U = S := by
          rw [s3]
          rcases hx with hx | hx | hx
          · have := g2.1; omega
          · exact absurd a1 hx
          · rw [gE_K g1] at hx
            have := g2.1
            rw [show (401 - i.toInt).toNat = (400 - i.toInt).toNat + 1 by omega]
            show (if cK ν (cA ω) = 0 then S else _) = S
            rw [if_pos hx]
        rw [hw]
        exact ⟨hO, ⟨sC_cg (fun k j h1 _ => (xpi_ne (fun q => by omega)).trans (xpi_ne (fun q => by omega))) s1.1, lC_cg s1.2.1 (fun k j h1 _ => (xpi_ne (fun q => by omega)).trans (xpi_ne (fun q => by omega))) ((xpi_ne (fun q => absurd q.1 (by decide))).trans (xpi_ne (fun q => absurd q.1 (by decide))))⟩, s2⟩
      · omega
  have h55 : eT xq_16 m 55 [some (.inr (.inl (some 12))), some (.inl n), some (.inl i)] [] ω r μ' → (ω.1 12 4).toInt = 0 → i.toInt ≤ 400 → zpQ U μ' := by
    intro h h0 hi4
    have hA : cA ω ≤ 400 := by
      obtain ⟨g1, g2, g3⟩ := hI
      rcases g3 with ⟨a1, a2, a3, a4, -⟩ | ⟨a1, -⟩
      · have := g2.1; omega
      · exact absurd h0 a1
    replace h := tx_aload_n (p' := 56) h em16_55 rfl rfl
    obtain ⟨r56, μ56, hE56, h⟩ := tx_invV (na := 1) (mn := 13) (as := [.inr (.inl (some 12))]) (rest := []) (p' := 59) h em16_56 ((congrFun xo_3 53).trans rfl) xm_13 rfl rfl
    obtain ⟨rfl, hm56⟩ := ex_next hE56 (by have := hA; omega)
    rw [hm56] at h
    replace h : eT xq_16 _ 59 [some (.inr (.inl (some 12))), some (.inl n), some (.inl i)] [.inl (ω.1 24 (cA ω).toNat)] ω r μ' := h
    rcases tx_if (t := 185) (p' := 62) h em16_59 (by decide) rfl with ⟨c59, h⟩ | ⟨c59, h⟩
    · replace c59 : (ω.1 24 (cA ω).toNat).toInt = 0 := c59
      exact h185 h (Or.inr (Or.inr (by unfold cK; omega)))
    · replace c59 : ¬ (ω.1 24 (cA ω).toNat).toInt = 0 := c59
      replace h := tx_aload_n (p' := 63) h em16_62 rfl rfl
      obtain ⟨r63, μ63, hE63, h⟩ := tx_invV (na := 1) (mn := 13) (as := [.inr (.inl (some 12))]) (rest := []) (p' := 66) h em16_63 ((congrFun xo_3 53).trans rfl) xm_13 rfl rfl
      obtain ⟨rfl, hm63⟩ := ex_next hE63 (by have := hA; omega)
      rw [hm63] at h
      replace h : eT xq_16 _ 66 [some (.inr (.inl (some 12))), some (.inl n), some (.inl i)] [.inl (ω.1 24 (cA ω).toNat)] ω r μ' := h
      have hk0 : ¬ cK ω (cA ω) = 0 := by unfold cK; omega
      have hx : (ω.1 24 (cA ω).toNat).toInt = cK ω (cA ω) := rfl
      by_cases a : 128 ≤ cK ω (cA ω) ∧ cK ω (cA ω) ≤ 136
      · have h7 : cK ω (cA ω) = 128 ∨ cK ω (cA ω) = 129 ∨ cK ω (cA ω) = 130 ∨ cK ω (cA ω) = 131 ∨ cK ω (cA ω) = 132 ∨ cK ω (cA ω) = 133 ∨ cK ω (cA ω) = 134 ∨ cK ω (cA ω) = 135 ∨ cK ω (cA ω) = 136 := by omega
        rcases h7 with e | e | e | e | e | e | e | e | e
        · exact zpa_house hlw hE4 hT ih hI hJ h0 hk0 e h
        · exact zpa_verse hlw hE4 hT ih hI hJ h0 hk0 e h
        · exact zpa_law0 hlw hE4 hT ih hI hJ h0 hk0 e h
        · exact zpa_law1 hlw hE4 hT ih hI hJ h0 hk0 e h
        · exact zpa_law2 hlw hE4 hT ih hI hJ h0 hk0 e h
        · exact zpa_law3 hlw hE4 hT ih hI hJ h0 hk0 e h
        · exact zpa_num0 hlw hE4 hT ih hI hJ h0 hk0 e h
        · exact zpa_num1 hlw hE4 hT ih hI hJ h0 hk0 e h
        · exact zpa_num2 hlw hE4 hT ih hI hJ h0 hk0 e h
      · exact zpa_else hlw hE4 hT ih hI hJ h0 hk0 (by omega) h
  replace h := tx_iload_n (p' := 42) h em16_41 rfl rfl
  replace h := tx_sipush (v := 400) (p' := 45) h em16_42 (by decide +kernel) rfl
  rcases tx_icmp (t := 185) (p' := 48) h em16_45 (by decide) rfl with ⟨c45, h⟩ | ⟨c45, h⟩
  · replace c45 : 400 < i.toInt := c45
    exact h185 h (Or.inl (by omega))
  · replace c45 : ¬ 400 < i.toInt := c45
    replace h := tx_aload_n (p' := 49) h em16_48 rfl rfl
    replace h := tx_getf (c := 2) (j := 4) (p' := 52) h em16_49 ((congrFun xo_3 44).trans rfl) rfl rfl (by decide) rfl
    rcases tx_if (t := 185) (p' := 55) h em16_52 (by decide) rfl with ⟨c52, h⟩ | ⟨c52, h⟩
    · replace c52 : ¬ (ω.1 12 4).toInt = 0 := c52
      exact h185 h (Or.inr (Or.inl (by omega)))
    · replace c52 : ¬ ¬ (ω.1 12 4).toInt = 0 := c52
      exact h55 h (by omega) (by omega)
set_option maxRecDepth 10000 in
set_option maxHeartbeats 4000000 in
theorem kz_parse {nn : Int32} {μ μ' : xM} {r : Option zV} (h0 : Ex gx xq_16 [.inr (.inl (some 12)), .inl nn] μ r μ') (hn0 : 0 ≤ nn.toInt) (hn1 : nn.toInt ≤ 2000) (hO : hOK μ) : ∃ (x : Int32) (E : Int) (w : Int × Int), r = some (.inl x) ∧ pqE μ μ' ∧ cTV μ' E ∧ tkC (kB μ 1) nn.toInt (cP μ') (cS μ') (cK μ') E ∧ (∀ a, 0 ≤ a → a < E → 2 ≤ cK μ' a) ∧ (E < 400 → cK μ' E ≤ 1) ∧ w.1 = 0 ∧ x.toInt = (cTx μ' 401 0 0 0 [] w).1 ∧ (¬ (cTx μ' 401 0 0 0 [] w).1 = 0 → (μ'.1 12 5).toInt = (cTx μ' 401 0 0 0 [] w).2) ∧ ((cTx μ' 401 0 0 0 [] w).1 = 0 → zpQ (kText (cK μ') (cT μ') (cV μ') (kLF (cK μ') (cV μ') 4) 401 0 0 0 kS0) μ') := by
  obtain ⟨n, h⟩ := tx_in (L := [some (.inr (.inl (some 12))), some (.inl nn), none]) h0 rfl
  replace h := tx_aload_n (p' := 1) h em16_0 rfl rfl
  replace h := tx_getc (c := 2) (j := 0) (p' := 4) h em16_1 ((congrFun xo_3 12).trans rfl) rfl rfl rfl
  obtain ⟨r4, μ4, hE4, h⟩ := tx_invV (na := 1) (mn := 47) (as := [.inr (.inl (some 13))]) (rest := []) (p' := 7) h em16_4 ((congrFun xo_3 33).trans rfl) xm_47 rfl rfl
  obtain ⟨rfl, hwi, hz0, hz1⟩ := ex_wipe hE4
  obtain ⟨hO4, hC4⟩ := ex_wipe2 hE4 hO
  obtain ⟨hL4, hn4⟩ := ex_wipe3 hE4 hO
  replace h : eT xq_16 _ 7 [some (.inr (.inl (some 12))), some (.inl nn), none] [] μ4 r μ' := h
  replace h := tx_aload_n (p' := 8) h em16_7 rfl rfl
  replace h := tx_getc (c := 2) (j := 1) (p' := 11) h em16_8 ((congrFun xo_3 21).trans rfl) rfl rfl rfl
  replace h := tx_aload_n (p' := 12) h em16_11 rfl rfl
  replace h := tx_getc (c := 2) (j := 2) (p' := 15) h em16_12 ((congrFun xo_3 29).trans rfl) rfl rfl rfl
  replace h := tx_iload_n (p' := 16) h em16_15 rfl rfl
  obtain ⟨r16, μ16, hE16, h⟩ := tx_invV (na := 3) (mn := 48) (as := [.inr (.inl (some 23)), .inr (.inl (some 1)), .inl nn]) (rest := []) (p' := 19) h em16_16 ((congrFun xo_3 36).trans rfl) xm_48 rfl rfl
  have hS16 := sE_w (μ := μ4) (by decide +kernel) (hf_48_0 hE16 (hEn1 (by decide) (by decide)) hO4).2 hO4
  obtain ⟨rfl, htF, E, htC, htK, htE⟩ := ex_scan hE16 hn0 hn1
  replace h : eT xq_16 _ 19 [some (.inr (.inl (some 12))), some (.inl nn), none] [] μ16 r μ' := h
  replace h := tx_aload_n (p' := 20) h em16_19 rfl rfl
  replace h := tx_iconst (v := 0) (p' := 21) h em16_20 (by decide +kernel) rfl
  replace h := tx_putf (a := 12) (c := 2) (j := 3) (p' := 24) h em16_21 ((congrFun xo_3 40).trans rfl) rfl
  replace h := tx_aload_n (p' := 25) h em16_24 rfl rfl
  replace h := tx_iconst (v := 0) (p' := 26) h em16_25 (by decide +kernel) rfl
  replace h := tx_putf (a := 12) (c := 2) (j := 4) (p' := 29) h em16_26 ((congrFun xo_3 44).trans rfl) rfl
  replace h := tx_aload_n (p' := 30) h em16_29 rfl rfl
  replace h := tx_iconst (v := 0) (p' := 31) h em16_30 (by decide +kernel) rfl
  replace h := tx_putf (a := 12) (c := 2) (j := 6) (p' := 34) h em16_31 ((congrFun xo_3 47).trans rfl) rfl
  replace h := tx_aload_n (p' := 35) h em16_34 rfl rfl
  replace h := tx_iconst (v := 0) (p' := 36) h em16_35 (by decide +kernel) rfl
  replace h := tx_putf (a := 12) (c := 2) (j := 9) (p' := 39) h em16_36 ((congrFun xo_3 50).trans rfl) rfl
  replace h := tx_iconst (v := 0) (p' := 40) h em16_39 (by decide +kernel) rfl
  replace h := tx_istore_n (p' := 41) h em16_40 rfl
  replace h : eT xq_16 _ 41 [some (.inr (.inl (some 12))), some (.inl nn), some (.inl (0 : Int32))] [] (xpi (xpi (xpi (xpi μ16 12 3 (0 : Int32)) 12 4 (0 : Int32)) 12 6 (0 : Int32)) 12 9 (0 : Int32)) r μ' := h
  have hq : pqE μ (xpi (xpi (xpi (xpi μ16 12 3 (0 : Int32)) 12 4 (0 : Int32)) 12 6 (0 : Int32)) 12 9 (0 : Int32)) := ⟨fun k j hk => by rw [xpi_ne (fun q => by omega), xpi_ne (fun q => by omega), xpi_ne (fun q => by omega), xpi_ne (fun q => by omega), htF.1 k j (by omega) (by omega) (by omega), hwi.1 k j (by omega)], htF.2.trans hwi.2⟩
  have eB : kB μ4 1 = kB μ 1 := by funext i; unfold kB; rw [hwi.1 1 _ (by decide)]
  rw [eB] at htC
  have e3 : cK (xpi (xpi (xpi (xpi μ16 12 3 (0 : Int32)) 12 4 (0 : Int32)) 12 6 (0 : Int32)) 12 9 (0 : Int32)) = cK μ16 ∧ cP (xpi (xpi (xpi (xpi μ16 12 3 (0 : Int32)) 12 4 (0 : Int32)) 12 6 (0 : Int32)) 12 9 (0 : Int32)) = cP μ16 ∧ cS (xpi (xpi (xpi (xpi μ16 12 3 (0 : Int32)) 12 4 (0 : Int32)) 12 6 (0 : Int32)) 12 9 (0 : Int32)) = cS μ16 := ⟨by rw [cK_p.1, cK_p.1, cK_p.1, cK_p.1], by rw [cK_p.2.1, cK_p.2.1, cK_p.2.1, cK_p.2.1], by rw [cK_p.2.2, cK_p.2.2, cK_p.2.2, cK_p.2.2]⟩
  have htv0 : cTV (xpi (xpi (xpi (xpi μ16 12 3 (0 : Int32)) 12 4 (0 : Int32)) 12 6 (0 : Int32)) 12 9 (0 : Int32)) E := by
    refine cTV_of (n := nn.toInt) (μ := μ) hn1 (by rw [e3.1, e3.2.1, e3.2.2]; exact htC) (by rw [e3.1]; exact htE) (fun j => hq.1 1 j (by decide))
  have z13 : ∀ j, (xpi (xpi (xpi (xpi μ16 12 3 (0 : Int32)) 12 4 (0 : Int32)) 12 6 (0 : Int32)) 12 9 (0 : Int32)).1 13 j = μ4.1 13 j := fun j => (htF.1 13 j (by decide) (by decide) (by decide))
  have eH : cH (xpi (xpi (xpi (xpi μ16 12 3 (0 : Int32)) 12 4 (0 : Int32)) 12 6 (0 : Int32)) 12 9 (0 : Int32)) = 0 := by unfold cH; rw [z13 0, hz0]; decide
  have eU : cU (xpi (xpi (xpi (xpi μ16 12 3 (0 : Int32)) 12 4 (0 : Int32)) 12 6 (0 : Int32)) 12 9 (0 : Int32)) = 0 := by unfold cU; rw [z13 1, hz1]; decide
  have e9 : ((xpi (xpi (xpi (xpi μ16 12 3 (0 : Int32)) 12 4 (0 : Int32)) 12 6 (0 : Int32)) 12 9 (0 : Int32)).1 12 9).toInt = 0 := by rw [xpi_at]; decide
  have eN : cN (xpi (xpi (xpi (xpi μ16 12 3 (0 : Int32)) 12 4 (0 : Int32)) 12 6 (0 : Int32)) 12 9 (0 : Int32)) = [] := by unfold cN cNn; rw [e9]; rfl
  have eA : cA (xpi (xpi (xpi (xpi μ16 12 3 (0 : Int32)) 12 4 (0 : Int32)) 12 6 (0 : Int32)) 12 9 (0 : Int32)) = 0 := by unfold cA; rfl
  have hI : paI E (0 : Int32).toInt (cTx (xpi (xpi (xpi (xpi μ16 12 3 (0 : Int32)) 12 4 (0 : Int32)) 12 6 (0 : Int32)) 12 9 (0 : Int32)) 401 0 0 0 [] (cW (xpi (xpi (xpi (xpi μ16 12 3 (0 : Int32)) 12 4 (0 : Int32)) 12 6 (0 : Int32)) 12 9 (0 : Int32)))) (xpi (xpi (xpi (xpi μ16 12 3 (0 : Int32)) 12 4 (0 : Int32)) 12 6 (0 : Int32)) 12 9 (0 : Int32)) (xpi (xpi (xpi (xpi μ16 12 3 (0 : Int32)) 12 4 (0 : Int32)) 12 6 (0 : Int32)) 12 9 (0 : Int32)) := by
    refine ⟨gE_rf, htv0, Or.inl ⟨rfl, ⟨by rw [eH]; omega, by rw [eU]; omega, by rw [e9, eH, eU]; decide, fun i hi => ?_⟩, by rw [eA]; omega, by rw [eA]; exact htC.1.1, by decide, by rw [eA]; decide, by rw [eA, eH, eU, eN]; rfl⟩⟩
    exfalso
    unfold cNn at hi
    rw [e9] at hi
    exact absurd (show i < 0 from hi) (Nat.not_lt_zero i)
  obtain ⟨l1, x, l2, l3, l4⟩ := pa_loop _ _ _ h hI
  refine ⟨x, E, cW (xpi (xpi (xpi (xpi μ16 12 3 (0 : Int32)) 12 4 (0 : Int32)) 12 6 (0 : Int32)) 12 9 (0 : Int32)), l2, ⟨fun k j hk => (l1.1 k j (by omega) (by omega)).trans (hq.1 k j hk), l1.2.trans hq.2⟩, gE_TV l1 htv0, ?_, ?_, ?_, by unfold cW; rfl, ?_, ?_, fun hz => ?_⟩
  · rw [gE_K l1, gE_P l1, gE_S l1, e3.1, e3.2.1, e3.2.2]; exact htC
  · rw [gE_K l1, e3.1]; exact htK
  · rw [gE_K l1, e3.1]; exact htE
  · rw [gE_cTx l1]; exact l3
  · rw [gE_cTx l1]; exact l4
  · rw [gE_cTx l1] at hz
    rw [gE_K l1, gE_cT l1, gE_V l1]
    refine zpa_loop rfl htC.1.2 hz _ _ _ h hI (fun _ => ⟨hS16.1, kS0, ⟨?_, ?_, ?_⟩, kWf_0, by rw [eA, eH, eU]; rfl⟩)
    rotate_left
    · exact lC_cg hL4 (fun k j a b => (xpi_ne (fun q => by omega)).trans ((xpi_ne (fun q => by omega)).trans ((xpi_ne (fun q => by omega)).trans ((xpi_ne (fun q => by omega)).trans (hS16.2 k j (by omega) (by omega)))))) (z13 14)
    · rw [z13 14, eA]; omega
    exact sC_cg (fun k j a b => (xpi_ne (fun q => by omega)).trans ((xpi_ne (fun q => by omega)).trans ((xpi_ne (fun q => by omega)).trans (xpi_ne (fun q => by omega))))) (sE_C hS16 hC4)
