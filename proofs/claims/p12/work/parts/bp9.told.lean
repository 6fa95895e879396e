/-! ===== WHAT IS TOLD IS THE SAME ON BOTH SIDES ===== -/
noncomputable def kW8 (W : hW) : Bool := (List.range 5).all (fun j => hpB W 2 j) && ((List.range 6).all (fun k => hpA W (3 + k)) && ((List.range 10).all (fun k => hpA W (84 + k)) && hpB W 75 2))
/-- what is told stands, on both sides -/
def tS (μ μ' : xM) : Prop := hOK μ' ∧ (∀ j, j < 5 → μ'.1 2 j = μ.1 2 j) ∧ (∀ k j, 3 ≤ k → k ≤ 8 → μ'.1 k j = μ.1 k j) ∧ (∀ k j, 84 ≤ k → k ≤ 93 → μ'.1 k j = μ.1 k j) ∧ μ'.1 75 2 = μ.1 75 2
theorem tS_tr {μ ν μ' : xM} (h1 : tS μ ν) (h2 : tS ν μ') : tS μ μ' := ⟨h2.1, fun j a => (h2.2.1 j a).trans (h1.2.1 j a), fun k j a b => (h2.2.2.1 k j a b).trans (h1.2.2.1 k j a b), fun k j a b => (h2.2.2.2.1 k j a b).trans (h1.2.2.2.1 k j a b), h2.2.2.2.2.trans h1.2.2.2.2⟩
theorem tS_w {W : hW} {μ μ' : xM} (hk : kW8 W = true) (h : hRm (hP W) (hQ W) μ μ') (hO : hOK μ) : tS μ μ' := by
  unfold kW8 at hk
  rw [Bool.and_eq_true, Bool.and_eq_true, Bool.and_eq_true] at hk
  obtain ⟨h1, h2, h3, h4⟩ := hk
  refine ⟨(h hO).1, fun j hj => hSt h hO (by decide) (List.all_eq_true.mp h1 j (List.mem_range.mpr hj)), fun k j a b => hSt h hO (by omega) (hpA_ok ?_ j), fun k j a b => hSt h hO (by omega) (hpA_ok ?_ j), hSt h hO (by decide) h4⟩
  · have := List.all_eq_true.mp h2 (k - 3) (List.mem_range.mpr (by omega))
    rw [show 3 + (k - 3) = k by omega] at this
    exact this
  · have := List.all_eq_true.mp h3 (k - 84) (List.mem_range.mpr (by omega))
    rw [show 84 + (k - 84) = k by omega] at this
    exact this
noncomputable def kR8 (c mn : Nat) : Bool := (hvs mn).any (fun p => (p.1.1 == some c && p.1.2 == none) && kW8 p.2)
theorem kR8_ok {c mn : Nat} {q : xP} {as : List zV} {r : Option zV} {μ μ' : xM} (hc : c < 119) (hm : xMB mn = some q) (hk : kR8 c mn = true) (h : Ex gx q (.inr (.inl (some c)) :: as) μ r μ') (hO : hOK μ) : tS μ μ' := by
  unfold kR8 at hk
  rw [List.any_eq_true] at hk
  obtain ⟨p, hp, hk⟩ := hk
  rw [Bool.and_eq_true, Bool.and_eq_true] at hk
  have e1 : p.1.1 = some c := by simpa using hk.1.1
  have e2 : p.1.2 = none := by simpa using hk.1.2
  have e : p.1 = (some c, none) := by
    obtain ⟨⟨x, y⟩, W⟩ := p
    have e1 : x = some c := e1
    have e2 : y = none := e2
    rw [e1, e2]
  exact tS_w hk.2 (hAll hV0 (hV0 mn q hm p hp) (by rw [e]; exact hEn0 hc) h hO).2 hO
/-- what is told, on both sides -/
def tR (μ : xM) : Prop := ∃ (S : kSt) (s : Nat), s ≤ 1 ∧ (μ.1 75 2).toInt = (s : Int) ∧ kWf S ∧ sC 2 S μ ∧ sM s S μ
theorem tR_s {μ μ' : xM} (h : tS μ μ') (hR : tR μ) : tR μ' := by
  obtain ⟨S, s, a1, a2, a3, a4, a5⟩ := hR
  refine ⟨S, s, a1, by rw [h.2.2.2.2]; exact a2, a3, ?_, sM_cg h.2.2.2.1 a5⟩
  unfold sC
  simp only [h.2.1 0 (by decide), h.2.1 1 (by decide), h.2.1 2 (by decide), h.2.1 3 (by decide), h.2.1 4 (by decide), h.2.2.1 3 _ (by decide) (by decide), h.2.2.1 4 _ (by decide) (by decide), h.2.2.1 5 _ (by decide) (by decide), h.2.2.1 6 _ (by decide) (by decide), h.2.2.1 7 _ (by decide) (by decide), h.2.2.1 8 _ (by decide) (by decide)]
  exact a4
abbrev xq_111 : xP := (⟨"CapitalCase", "wants", "(II)I"⟩, prog_1_method_15_code, 3, (some .int))
abbrev xq_197 : xP := (⟨"CapitalCaseModel", "wants", "(II)I"⟩, prog_14_method_74_code, 3, (some .int))
abbrev xq_91 : xP := (⟨"CapitalCase", "isVerse", "(I)Z"⟩, prog_1_method_10_code, 2, (some .boolean))
abbrev xq_155 : xP := (⟨"CapitalCaseModel", "isVerse", "(I)Z"⟩, prog_14_method_45_code, 2, (some .boolean))
abbrev xq_148 : xP := (⟨"CapitalCaseModel", "in", "(III)Z"⟩, prog_14_method_40_code, 3, (some .boolean))
set_option maxRecDepth 10000 in
set_option maxHeartbeats 4000000 in
theorem ex_in {a lo hi : Int32} {μ μ' : xM} {r : Option zV} (h0 : Ex gx xq_148 [.inl a, .inl lo, .inl hi] μ r μ') : μ' = μ ∧ ((r = some (.inl 1) ∧ lo.toInt ≤ a.toInt ∧ a.toInt ≤ hi.toInt) ∨ (r = some (.inl 0) ∧ ¬ (lo.toInt ≤ a.toInt ∧ a.toInt ≤ hi.toInt))) := by
  obtain ⟨n, h⟩ := tx_in (L := [some (.inl a), some (.inl lo), some (.inl hi)]) h0 rfl
  replace h := tx_iload_n (p' := 1) h em148_0 rfl rfl
  replace h := tx_iload_n (p' := 2) h em148_1 rfl rfl
  rcases tx_icmp (t := 14) (p' := 5) h em148_2 (by decide) rfl with ⟨c2, h⟩ | ⟨c2, h⟩
  · replace c2 : a.toInt < lo.toInt := c2
    replace h := tx_iconst (v := 0) (p' := 15) h em148_14 (by decide +kernel) rfl
    obtain ⟨rfl, hμ⟩ := tx_ireturn h em148_15
    first
      | exact ⟨hμ, Or.inl ⟨rfl, by omega, by omega⟩⟩
      | exact ⟨hμ, Or.inr ⟨rfl, by omega⟩⟩
  · replace c2 : ¬ a.toInt < lo.toInt := c2
    replace h := tx_iload_n (p' := 6) h em148_5 rfl rfl
    replace h := tx_iload_n (p' := 7) h em148_6 rfl rfl
    rcases tx_icmp (t := 14) (p' := 10) h em148_7 (by decide) rfl with ⟨c7, h⟩ | ⟨c7, h⟩
    · replace c7 : hi.toInt < a.toInt := c7
      replace h := tx_iconst (v := 0) (p' := 15) h em148_14 (by decide +kernel) rfl
      obtain ⟨rfl, hμ⟩ := tx_ireturn h em148_15
      first
        | exact ⟨hμ, Or.inl ⟨rfl, by omega, by omega⟩⟩
        | exact ⟨hμ, Or.inr ⟨rfl, by omega⟩⟩
    · replace c7 : ¬ hi.toInt < a.toInt := c7
      replace h := tx_iconst (v := 1) (p' := 11) h em148_10 (by decide +kernel) rfl
      replace h := tx_goto (t := 15) h em148_11 (by decide)
      obtain ⟨rfl, hμ⟩ := tx_ireturn h em148_15
      first
        | exact ⟨hμ, Or.inl ⟨rfl, by omega, by omega⟩⟩
        | exact ⟨hμ, Or.inr ⟨rfl, by omega⟩⟩
set_option maxRecDepth 10000 in
set_option maxHeartbeats 4000000 in
theorem ex_cisVerse {a : Int32} {V : Int} {μ μ' : xM} {r : Option zV} (h0 : Ex gx xq_91 [.inr (.inl (some 0)), .inl a] μ r μ') (hV : (μ.1 2 1).toInt = V) : μ' = μ ∧ ((r = some (.inl 1) ∧ 0 ≤ a.toInt ∧ a.toInt < V) ∨ (r = some (.inl 0) ∧ ¬ (0 ≤ a.toInt ∧ a.toInt < V))) := by
  obtain ⟨n, h⟩ := tx_in (L := [some (.inr (.inl (some 0))), some (.inl a)]) h0 rfl
  replace h := tx_iload_n (p' := 1) h em91_0 rfl rfl
  rcases tx_if (t := 19) (p' := 4) h em91_1 (by decide) rfl with ⟨c1, h⟩ | ⟨c1, h⟩
  · replace c1 : a.toInt < 0 := c1
    replace h := tx_iconst (v := 0) (p' := 20) h em91_19 (by decide +kernel) rfl
    obtain ⟨rfl, hμ⟩ := tx_ireturn h em91_20
    first
      | exact ⟨hμ, Or.inl ⟨rfl, by omega, by omega⟩⟩
      | exact ⟨hμ, Or.inr ⟨rfl, by omega⟩⟩
  · replace c1 : ¬ a.toInt < 0 := c1
    replace h := tx_iload_n (p' := 5) h em91_4 rfl rfl
    replace h := tx_aload_n (p' := 6) h em91_5 rfl rfl
    replace h := tx_getc (c := 11) (j := 0) (p' := 9) h em91_6 ((congrFun xo_0 23).trans rfl) rfl rfl rfl
    replace h := tx_getf (c := 6) (j := 1) (p' := 12) h em91_9 ((congrFun xo_0 141).trans rfl) rfl rfl (by decide) rfl
    rcases tx_icmp (t := 19) (p' := 15) h em91_12 (by decide) rfl with ⟨c12, h⟩ | ⟨c12, h⟩
    · replace c12 : (μ.1 2 1).toInt ≤ a.toInt := c12
      replace h := tx_iconst (v := 0) (p' := 20) h em91_19 (by decide +kernel) rfl
      obtain ⟨rfl, hμ⟩ := tx_ireturn h em91_20
      first
        | exact ⟨hμ, Or.inl ⟨rfl, by omega, by omega⟩⟩
        | exact ⟨hμ, Or.inr ⟨rfl, by omega⟩⟩
    · replace c12 : ¬ (μ.1 2 1).toInt ≤ a.toInt := c12
      replace h := tx_iconst (v := 1) (p' := 16) h em91_15 (by decide +kernel) rfl
      replace h := tx_goto (t := 20) h em91_16 (by decide)
      obtain ⟨rfl, hμ⟩ := tx_ireturn h em91_20
      first
        | exact ⟨hμ, Or.inl ⟨rfl, by omega, by omega⟩⟩
        | exact ⟨hμ, Or.inr ⟨rfl, by omega⟩⟩
set_option maxRecDepth 10000 in
set_option maxHeartbeats 4000000 in
theorem ex_misVerse {a : Int32} {V : Int} {μ μ' : xM} {r : Option zV} (h0 : Ex gx xq_155 [.inr (.inl (some 75)), .inl a] μ r μ') (hV : (μ.1 86 (μ.1 75 2).toInt.toNat).toInt = V) (hV0 : 0 ≤ V ∧ V ≤ 7) : μ' = μ ∧ ((r = some (.inl 1) ∧ 0 ≤ a.toInt ∧ a.toInt < V) ∨ (r = some (.inl 0) ∧ ¬ (0 ≤ a.toInt ∧ a.toInt < V))) := by
  obtain ⟨n, h⟩ := tx_in (L := [some (.inr (.inl (some 75))), some (.inl a)]) h0 rfl
  have e1i : (1 : Int32).toInt = 1 := by decide
  have e0i : (0 : Int32).toInt = 0 := by decide
  have ev : ((μ.1 86 (μ.1 75 2).toInt.toNat) - (1 : Int32)).toInt = V - 1 := by rw [an_sub (by rw [e1i]; omega) (by rw [e1i]; omega), e1i, hV]
  replace h := tx_iload_n (p' := 1) h em155_0 rfl rfl
  replace h := tx_iconst (v := 0) (p' := 2) h em155_1 (by decide +kernel) rfl
  replace h := tx_aload_n (p' := 3) h em155_2 rfl rfl
  replace h := tx_getc (c := 12) (j := 4) (p' := 6) h em155_3 ((congrFun xo_12 49).trans rfl) rfl rfl rfl
  replace h := tx_aload_n (p' := 7) h em155_6 rfl rfl
  replace h := tx_getf (c := 12) (j := 2) (p' := 10) h em155_7 ((congrFun xo_12 230).trans rfl) rfl rfl (by decide) rfl
  obtain ⟨hb10, h⟩ := tx_iald (len := 2) (p' := 11) h em155_10 rfl rfl
  replace hb10 : (0 : Int) ≤ (μ.1 75 2).toInt ∧ (μ.1 75 2).toInt < 2 := hb10
  replace h := tx_iconst (v := 1) (p' := 12) h em155_11 (by decide +kernel) rfl
  replace h := tx_isub (p' := 13) h em155_12 rfl
  obtain ⟨r13, μ13, hE13, h⟩ := tx_invS (na := 3) (mn := 148) (as := [.inl a, .inl (0 : Int32), .inl ((μ.1 86 (μ.1 75 2).toInt.toNat) - (1 : Int32))]) (rest := []) (p' := 16) h em155_13 ((congrFun xo_12 324).trans rfl) xm_148 rfl rfl
  obtain ⟨hm, ⟨rfl, i131, i132⟩ | ⟨rfl, i131⟩⟩ := ex_in hE13
  · rw [hm] at h
    replace h : eT xq_155 _ 16 [some (.inr (.inl (some 75))), some (.inl a)] [.inl (1 : Int32)] μ r μ' := h
    obtain ⟨rfl, hμ⟩ := tx_ireturn h em155_16
    first
      | exact ⟨hμ, Or.inl ⟨rfl, by omega, by omega⟩⟩
      | exact ⟨hμ, Or.inr ⟨rfl, by omega⟩⟩
  · rw [hm] at h
    replace h : eT xq_155 _ 16 [some (.inr (.inl (some 75))), some (.inl a)] [.inl (0 : Int32)] μ r μ' := h
    obtain ⟨rfl, hμ⟩ := tx_ireturn h em155_16
    first
      | exact ⟨hμ, Or.inl ⟨rfl, by omega, by omega⟩⟩
      | exact ⟨hμ, Or.inr ⟨rfl, by omega⟩⟩
/-- what wants answers -/
def wQ (S : kSt) (a d : Int32) (x : Int) : Prop := ((0 ≤ a.toInt ∧ a.toInt < (S.2.1.length : Int)) ∧ 0 ≤ d.toInt ∧ d.toInt < ((kV S a.toInt.toNat).1.length : Int) ∧ x = (kV S a.toInt.toNat).1.getD d.toInt.toNat 0) ∨ (¬ ((0 ≤ a.toInt ∧ a.toInt < (S.2.1.length : Int)) ∧ 0 ≤ d.toInt ∧ d.toInt < ((kV S a.toInt.toNat).1.length : Int)) ∧ x = -1)
theorem wQ_1 {S : kSt} {a d : Int32} {x y : Int} (h : wQ S a d x) (g : wQ S a d y) : x = y := by
  rcases h with ⟨h1, h2, h3, h4⟩ | ⟨h1, h2⟩
  · rcases g with ⟨-, -, -, g4⟩ | ⟨g1, -⟩
    · rw [h4, g4]
    · exact absurd ⟨h1, h2, h3⟩ g1
  · rcases g with ⟨g1, g2, g3, -⟩ | ⟨-, g2⟩
    · exact absurd ⟨g1, g2, g3⟩ h1
    · rw [h2, g2]
set_option maxRecDepth 10000 in
set_option maxHeartbeats 4000000 in
theorem ex_cwants {a d : Int32} {S : kSt} {μ μ' : xM} {r : Option zV} (h0 : Ex gx xq_111 [.inr (.inl (some 0)), .inl a, .inl d] μ r μ') (hW : kWf S) (hC : sC 2 S μ) : ∃ x : Int32, r = some (.inl x) ∧ wQ S a d x.toInt := by
  obtain ⟨n, h⟩ := tx_in (L := [some (.inr (.inl (some 0))), some (.inl a), some (.inl d)]) h0 rfl
  replace h := tx_aload_n (p' := 1) h em111_0 rfl rfl
  replace h := tx_iload_n (p' := 2) h em111_1 rfl rfl
  obtain ⟨r2, μ2, hE2, h⟩ := tx_invV (na := 2) (mn := 91) (as := [.inr (.inl (some 0)), .inl a]) (rest := []) (p' := 5) h em111_2 ((congrFun xo_0 175).trans rfl) xm_91 rfl rfl
  obtain ⟨hm, ⟨rfl, v1, v2⟩ | ⟨rfl, v1⟩⟩ := ex_cisVerse hE2 hC.1.2.1
  · rw [hm] at h
    obtain ⟨d1, d2, d3, d4⟩ := hC.2.2.1 a.toInt.toNat (by omega)
    have d5 : (μ.1 6 a.toInt.toNat).toInt = ((kV S a.toInt.toNat).1.length : Int) := d3
    have h8 := (kWf_V hW a.toInt.toNat).1
    replace h : eT xq_111 _ 5 [some (.inr (.inl (some 0))), some (.inl a), some (.inl d)] [.inl (1 : Int32)] μ r μ' := h
    rcases tx_if (t := 25) (p' := 8) h em111_5 (by decide) rfl with ⟨c5, h⟩ | ⟨c5, h⟩
    · replace c5 : (1 : Int) = (0 : Int) := c5
      exfalso
      omega
    · replace c5 : ¬ (1 : Int) = (0 : Int) := c5
      replace h := tx_iload_n (p' := 9) h em111_8 rfl rfl
      rcases tx_if (t := 25) (p' := 12) h em111_9 (by decide) rfl with ⟨c9, h⟩ | ⟨c9, h⟩
      · replace c9 : d.toInt < 0 := c9
        replace h := tx_iconst (v := (-1)) (p' := 26) h em111_25 (by decide +kernel) rfl
        obtain ⟨rfl, hμ⟩ := tx_ireturn h em111_26
        exact ⟨-1, rfl, Or.inr ⟨fun q => by omega, by decide⟩⟩
      · replace c9 : ¬ d.toInt < 0 := c9
        replace h := tx_iload_n (p' := 13) h em111_12 rfl rfl
        replace h := tx_aload_n (p' := 14) h em111_13 rfl rfl
        replace h := tx_getc (c := 11) (j := 0) (p' := 17) h em111_14 ((congrFun xo_0 23).trans rfl) rfl rfl rfl
        replace h := tx_getc (c := 6) (j := 8) (p' := 20) h em111_17 ((congrFun xo_0 184).trans rfl) rfl rfl rfl
        replace h := tx_iload_n (p' := 21) h em111_20 rfl rfl
        obtain ⟨hb21, h⟩ := tx_iald (len := 7) (p' := 22) h em111_21 rfl rfl
        replace hb21 : (0 : Int) ≤ a.toInt ∧ a.toInt < 7 := hb21
        rcases tx_icmp (t := 27) (p' := 25) h em111_22 (by decide) rfl with ⟨c22, h⟩ | ⟨c22, h⟩
        · replace c22 : d.toInt < (μ.1 6 a.toInt.toNat).toInt := c22
          replace h := tx_aload_n (p' := 28) h em111_27 rfl rfl
          replace h := tx_getc (c := 11) (j := 0) (p' := 31) h em111_28 ((congrFun xo_0 23).trans rfl) rfl rfl rfl
          replace h := tx_getc (c := 6) (j := 9) (p' := 34) h em111_31 ((congrFun xo_0 202).trans rfl) rfl rfl rfl
          replace h := tx_iload_n (p' := 35) h em111_34 rfl rfl
          replace h := tx_bipush (v := 8) (p' := 37) h em111_35 (by decide +kernel) rfl
          replace h := tx_imul (p' := 38) h em111_37 rfl
          replace h := tx_iload_n (p' := 39) h em111_38 rfl rfl
          replace h := tx_iadd (p' := 40) h em111_39 rfl
          obtain ⟨hb40, h⟩ := tx_iald (len := 56) (p' := 41) h em111_40 rfl rfl
          replace hb40 : (0 : Int) ≤ ((a * (8 : Int32)) + d).toInt ∧ ((a * (8 : Int32)) + d).toInt < 56 := hb40
          obtain ⟨rfl, hμ⟩ := tx_ireturn h em111_41
          have e8 : (8 : Int32).toInt = 8 := by decide
          have h7 := hW.2.1
          have em : (a * (8 : Int32)).toInt = a.toInt * 8 := by rw [an_mul (by rw [e8]; omega) (by rw [e8]; omega), e8]
          have ea : (a * (8 : Int32) + d).toInt = a.toInt * 8 + d.toInt := by rw [an_add (by rw [em]; omega) (by rw [em]; omega), em]
          refine ⟨_, rfl, Or.inl ⟨⟨v1, v2⟩, by omega, by omega, ?_⟩⟩
          rw [show (a * (8 : Int32) + d).toInt.toNat = 8 * a.toInt.toNat + d.toInt.toNat by omega]
          exact d4 _ (by omega)
        · replace c22 : ¬ d.toInt < (μ.1 6 a.toInt.toNat).toInt := c22
          replace h := tx_iconst (v := (-1)) (p' := 26) h em111_25 (by decide +kernel) rfl
          obtain ⟨rfl, hμ⟩ := tx_ireturn h em111_26
          exact ⟨-1, rfl, Or.inr ⟨fun q => by omega, by decide⟩⟩
  · rw [hm] at h
    replace h : eT xq_111 _ 5 [some (.inr (.inl (some 0))), some (.inl a), some (.inl d)] [.inl (0 : Int32)] μ r μ' := h
    rcases tx_if (t := 25) (p' := 8) h em111_5 (by decide) rfl with ⟨c5_1, h⟩ | ⟨c5_1, h⟩
    · replace c5_1 : (0 : Int) = (0 : Int) := c5_1
      replace h := tx_iconst (v := (-1)) (p' := 26) h em111_25 (by decide +kernel) rfl
      obtain ⟨rfl, hμ⟩ := tx_ireturn h em111_26
      exact ⟨-1, rfl, Or.inr ⟨fun q => v1 q.1, by decide⟩⟩
    · replace c5_1 : ¬ (0 : Int) = (0 : Int) := c5_1
      exfalso
      omega
set_option maxRecDepth 10000 in
set_option maxHeartbeats 4000000 in
theorem ex_mwants {a d : Int32} {S : kSt} {s : Nat} {μ μ' : xM} {r : Option zV} (h0 : Ex gx xq_197 [.inr (.inl (some 75)), .inl a, .inl d] μ r μ') (hW : kWf S) (hs1 : s ≤ 1) (hs : (μ.1 75 2).toInt = (s : Int)) (hM : sM s S μ) : ∃ x : Int32, r = some (.inl x) ∧ wQ S a d x.toInt := by
  obtain ⟨n, h⟩ := tx_in (L := [some (.inr (.inl (some 75))), some (.inl a), some (.inl d)]) h0 rfl
  have es : (μ.1 75 2).toInt.toNat = s := by omega
  replace h := tx_aload_n (p' := 1) h em197_0 rfl rfl
  replace h := tx_iload_n (p' := 2) h em197_1 rfl rfl
  obtain ⟨r2, μ2, hE2, h⟩ := tx_invV (na := 2) (mn := 155) (as := [.inr (.inl (some 75)), .inl a]) (rest := []) (p' := 5) h em197_2 ((congrFun xo_12 417).trans rfl) xm_155 rfl rfl
  obtain ⟨hm, ⟨rfl, v1, v2⟩ | ⟨rfl, v1⟩⟩ := ex_misVerse (V := (S.2.1.length : Int)) hE2 (by rw [es]; exact hM.1.2.1) ⟨by omega, by have := hW.2.1; omega⟩
  · rw [hm] at h
    obtain ⟨d1, d2, -, -⟩ := hM.2.2 a.toInt.toNat (by omega)
    have h8 := (kWf_V hW a.toInt.toNat).1
    replace h : eT xq_197 _ 5 [some (.inr (.inl (some 75))), some (.inl a), some (.inl d)] [.inl (1 : Int32)] μ r μ' := h
    rcases tx_if (t := 54) (p' := 8) h em197_5 (by decide) rfl with ⟨c5, h⟩ | ⟨c5, h⟩
    · replace c5 : (1 : Int) = (0 : Int) := c5
      exfalso
      omega
    · replace c5 : ¬ (1 : Int) = (0 : Int) := c5
      replace h := tx_iload_n (p' := 9) h em197_8 rfl rfl
      replace h := tx_iconst (v := 0) (p' := 10) h em197_9 (by decide +kernel) rfl
      replace h := tx_aload_n (p' := 11) h em197_10 rfl rfl
      replace h := tx_getc (c := 12) (j := 36) (p' := 14) h em197_11 ((congrFun xo_12 52).trans rfl) rfl rfl rfl
      replace h := tx_bipush (v := 7) (p' := 16) h em197_14 (by decide +kernel) rfl
      replace h := tx_aload_n (p' := 17) h em197_16 rfl rfl
      replace h := tx_getf (c := 12) (j := 2) (p' := 20) h em197_17 ((congrFun xo_12 230).trans rfl) rfl rfl (by decide) rfl
      replace h := tx_imul (p' := 21) h em197_20 rfl
      replace h := tx_iload_n (p' := 22) h em197_21 rfl rfl
      replace h := tx_iadd (p' := 23) h em197_22 rfl
      obtain ⟨hb23, h⟩ := tx_iald (len := 14) (p' := 24) h em197_23 rfl rfl
      replace hb23 : (0 : Int) ≤ (((7 : Int32) * (μ.1 75 2)) + a).toInt ∧ (((7 : Int32) * (μ.1 75 2)) + a).toInt < 14 := hb23
      replace h := tx_iconst (v := 1) (p' := 25) h em197_24 (by decide +kernel) rfl
      replace h := tx_isub (p' := 26) h em197_25 rfl
      obtain ⟨r26, μ26, hE26, h⟩ := tx_invS (na := 3) (mn := 148) (as := [.inl d, .inl (0 : Int32), .inl ((μ.1 87 (((7 : Int32) * (μ.1 75 2)) + a).toInt.toNat) - (1 : Int32))]) (rest := []) (p' := 29) h em197_26 ((congrFun xo_12 324).trans rfl) xm_148 rfl rfl
      obtain ⟨hm, ⟨rfl, i261, i262⟩ | ⟨rfl, i261⟩⟩ := ex_in hE26
      · rw [hm] at h
        replace h : eT xq_197 _ 29 [some (.inr (.inl (some 75))), some (.inl a), some (.inl d)] [.inl (1 : Int32)] μ r μ' := h
        rcases tx_if (t := 54) (p' := 32) h em197_29 (by decide) rfl with ⟨c29, h⟩ | ⟨c29, h⟩
        · replace c29 : (1 : Int) = (0 : Int) := c29
          exfalso
          omega
        · replace c29 : ¬ (1 : Int) = (0 : Int) := c29
          replace h := tx_aload_n (p' := 33) h em197_32 rfl rfl
          replace h := tx_getc (c := 12) (j := 37) (p' := 36) h em197_33 ((congrFun xo_12 55).trans rfl) rfl rfl rfl
          replace h := tx_bipush (v := 8) (p' := 38) h em197_36 (by decide +kernel) rfl
          replace h := tx_bipush (v := 7) (p' := 40) h em197_38 (by decide +kernel) rfl
          replace h := tx_aload_n (p' := 41) h em197_40 rfl rfl
          replace h := tx_getf (c := 12) (j := 2) (p' := 44) h em197_41 ((congrFun xo_12 230).trans rfl) rfl rfl (by decide) rfl
          replace h := tx_imul (p' := 45) h em197_44 rfl
          replace h := tx_iload_n (p' := 46) h em197_45 rfl rfl
          replace h := tx_iadd (p' := 47) h em197_46 rfl
          replace h := tx_imul (p' := 48) h em197_47 rfl
          replace h := tx_iload_n (p' := 49) h em197_48 rfl rfl
          replace h := tx_iadd (p' := 50) h em197_49 rfl
          obtain ⟨hb50, h⟩ := tx_iald (len := 112) (p' := 51) h em197_50 rfl rfl
          replace hb50 : (0 : Int) ≤ (((8 : Int32) * (((7 : Int32) * (μ.1 75 2)) + a)) + d).toInt ∧ (((8 : Int32) * (((7 : Int32) * (μ.1 75 2)) + a)) + d).toInt < 112 := hb50
          replace h := tx_goto (t := 55) h em197_51 (by decide)
          obtain ⟨rfl, hμ⟩ := tx_ireturn h em197_55
          have e7 : (7 : Int32).toInt = 7 := by decide
          have e1i : (1 : Int32).toInt = 1 := by decide
          have h7 := hW.2.1
          have k1 : ((7 : Int32) * (μ.1 75 2)).toInt = 7 * (s : Int) := by rw [an_mul (by rw [e7, hs]; omega) (by rw [e7, hs]; omega), e7, hs]
          have k2 : ((7 : Int32) * (μ.1 75 2) + a).toInt = 7 * (s : Int) + a.toInt := by rw [an_add (by rw [k1]; omega) (by rw [k1]; omega), k1]
          have k3 : ((7 : Int32) * (μ.1 75 2) + a).toInt.toNat = 7 * s + a.toInt.toNat := by omega
          rw [k3] at i262
          have ek : ((μ.1 87 (7 * s + a.toInt.toNat)) - (1 : Int32)).toInt = ((kV S a.toInt.toNat).1.length : Int) - 1 := by rw [an_sub (by rw [e1i]; omega) (by rw [e1i]; omega), e1i, d1]
          have e0i : (0 : Int32).toInt = 0 := by decide
          have e8 : (8 : Int32).toInt = 8 := by decide
          have k4 : ((8 : Int32) * ((7 : Int32) * (μ.1 75 2) + a)).toInt = 8 * (7 * (s : Int) + a.toInt) := by rw [an_mul (by rw [e8, k2]; omega) (by rw [e8, k2]; omega), e8, k2]
          have k5 : ((8 : Int32) * ((7 : Int32) * (μ.1 75 2) + a) + d).toInt = 8 * (7 * (s : Int) + a.toInt) + d.toInt := by rw [an_add (by rw [k4]; omega) (by rw [k4]; omega), k4]
          refine ⟨_, rfl, Or.inl ⟨⟨v1, v2⟩, by omega, by omega, ?_⟩⟩
          rw [show ((8 : Int32) * ((7 : Int32) * (μ.1 75 2) + a) + d).toInt.toNat = 8 * (7 * s + a.toInt.toNat) + d.toInt.toNat by omega]
          exact d2 _ (by omega)
      · rw [hm] at h
        replace h : eT xq_197 _ 29 [some (.inr (.inl (some 75))), some (.inl a), some (.inl d)] [.inl (0 : Int32)] μ r μ' := h
        rcases tx_if (t := 54) (p' := 32) h em197_29 (by decide) rfl with ⟨c29_1, h⟩ | ⟨c29_1, h⟩
        · replace c29_1 : (0 : Int) = (0 : Int) := c29_1
          replace h := tx_iconst (v := (-1)) (p' := 55) h em197_54 (by decide +kernel) rfl
          obtain ⟨rfl, hμ⟩ := tx_ireturn h em197_55
          have e7 : (7 : Int32).toInt = 7 := by decide
          have e1i : (1 : Int32).toInt = 1 := by decide
          have h7 := hW.2.1
          have k1 : ((7 : Int32) * (μ.1 75 2)).toInt = 7 * (s : Int) := by rw [an_mul (by rw [e7, hs]; omega) (by rw [e7, hs]; omega), e7, hs]
          have k2 : ((7 : Int32) * (μ.1 75 2) + a).toInt = 7 * (s : Int) + a.toInt := by rw [an_add (by rw [k1]; omega) (by rw [k1]; omega), k1]
          have k3 : ((7 : Int32) * (μ.1 75 2) + a).toInt.toNat = 7 * s + a.toInt.toNat := by omega
          rw [k3] at i261
          have ek : ((μ.1 87 (7 * s + a.toInt.toNat)) - (1 : Int32)).toInt = ((kV S a.toInt.toNat).1.length : Int) - 1 := by rw [an_sub (by rw [e1i]; omega) (by rw [e1i]; omega), e1i, d1]
          have e0i : (0 : Int32).toInt = 0 := by decide
          exact ⟨-1, rfl, Or.inr ⟨fun q => i261 (by omega), by decide⟩⟩
        · replace c29_1 : ¬ (0 : Int) = (0 : Int) := c29_1
          exfalso
          omega
  · rw [hm] at h
    replace h : eT xq_197 _ 5 [some (.inr (.inl (some 75))), some (.inl a), some (.inl d)] [.inl (0 : Int32)] μ r μ' := h
    rcases tx_if (t := 54) (p' := 8) h em197_5 (by decide) rfl with ⟨c5_1, h⟩ | ⟨c5_1, h⟩
    · replace c5_1 : (0 : Int) = (0 : Int) := c5_1
      replace h := tx_iconst (v := (-1)) (p' := 55) h em197_54 (by decide +kernel) rfl
      obtain ⟨rfl, hμ⟩ := tx_ireturn h em197_55
      exact ⟨-1, rfl, Or.inr ⟨fun q => v1 q.1, by decide⟩⟩
    · replace c5_1 : ¬ (0 : Int) = (0 : Int) := c5_1
      exfalso
      omega
/-- both read the same, and it tells the same -/
theorem tR_read {r r' : Option zV} {μ μ1 μ2 : xM} (h1 : Ex gx xq_98 [.inr (.inl (some 0))] μ r μ1) (h2 : Ex gx xq_180 [.inr (.inl (some 75))] μ1 r' μ2) (hT : lwT μ) (hO : hOK μ) (hR : tR μ) : hOK μ2 ∧ tR μ2 := by
  obtain ⟨⟨xx, e1, e2⟩, -⟩ := lwT_read h1 h2 hT
  obtain ⟨c1, c2, c3, c4, c5, c6⟩ := hT
  obtain ⟨x0, ν0, E0, w0, -, -, -, -, -, -, -, -, t8⟩ := ex_cread h1 c2
  obtain ⟨d1, d2, d3, d4, d5, d6⟩ := t8 c1
  obtain ⟨x, ν, E, w, e3, t1, t2, t3, t4, t5, t6, t7, k1, k2, k3⟩ := kx_cread (lw := fun _ => ([], [])) h1 c2 hO
  have en : (μ1.1 75 12).toInt = (μ.1 0 6).toInt := by rw [d6, c3]
  obtain ⟨y, B, ν', m, S', w', e4, u0, u1, u2, u3, u4, u5, u6, u7, u8⟩ := kx_rread (lw := fun _ => ([], [])) h2 k1 d1 (by rw [en]; exact c2) (fun j hj => by rw [d3, c4]; exact c5 j) (fun j hj => by rw [d4]; exact c6 j hj)
  have exx : xx = x := by cases e1.symm.trans e3; rfl
  have eyy : xx = y := by cases e2.symm.trans e4; rfl
  have exy : y = x := eyy.symm.trans exx
  subst exy
  rw [en] at u1 u2
  have hB : ∀ i, 0 ≤ i → i < (μ.1 0 6).toInt → B i = kB μ 1 i := fun i i0 i1 => by
    rw [u1 i i0 i1]
    unfold kB
    rw [d3, c4]
  have hU := same_cont (S0 := kS0) (lw := fun _ => ([], [])) (lw' := fun _ => ([], [])) hB t7 t2 t3 t4 u2 u3 u4 (fun _ _ _ _ _ _ _ => rfl)
  obtain ⟨r1, r2, r3, r4, r5⟩ := u0
  have f1 := (hf_98_0 h1 (hEn0 (by decide)) hO).2
  have f2 := (hf_180_0 h2 (hEn0 (by decide)) k1).2
  have a2 : ∀ j, j < 5 → μ2.1 2 j = μ1.1 2 j := fun j hj => hSt f2 k1 (by decide) (by
    have hh : ∀ j, j < 5 → hpB hw_180_0 2 j = true := by decide +kernel
    exact hh j hj)
  have a3 : ∀ k j, 3 ≤ k → k ≤ 8 → μ2.1 k j = μ1.1 k j := fun k j p q => hSt f2 k1 (by omega) (hpA_ok (by
    have hh : ∀ k, k < 9 → 3 ≤ k → hpA hw_180_0 k = true := by decide +kernel
    exact hh k (by omega) p) j)
  have b84 : ∀ k j, 84 ≤ k → k ≤ 93 → μ1.1 k j = μ.1 k j := fun k j p q => hSt f1 hO (by omega) (hpA_ok (by
    have hh : ∀ k, k < 94 → 84 ≤ k → hpA hw_98_0 k = true := by decide +kernel
    exact hh k (by omega) p) j)
  have b2 : μ1.1 75 2 = μ.1 75 2 := hSt f1 hO (by decide) (by decide +kernel)
  have sc2 : ∀ S, sC 2 S μ1 → sC 2 S μ2 := fun S h => by
    unfold sC
    simp only [a2 0 (by decide), a2 1 (by decide), a2 2 (by decide), a2 3 (by decide), a2 4 (by decide), a3 3 _ (by decide) (by decide), a3 4 _ (by decide) (by decide), a3 5 _ (by decide) (by decide), a3 6 _ (by decide) (by decide), a3 7 _ (by decide) (by decide), a3 8 _ (by decide) (by decide)]
    exact h
  refine ⟨r1, ?_⟩
  obtain ⟨S, s, p1, p2, p3, p4, p5⟩ := hR
  have e1i : (1 : Int32).toInt = 1 := by decide
  have es : ((1 : Int32) - (μ1.1 75 2)).toInt = 1 - (s : Int) := by rw [b2, an_sub (by rw [e1i, p2]; omega) (by rw [e1i, p2]; omega), e1i, p2]
  by_cases q : y.toInt = 0
  · obtain ⟨q1, q2⟩ := k3 q
    obtain ⟨q3, q4, q5⟩ := r5 q
    rw [hU] at q4
    exact ⟨_, ((1 : Int32) - (μ1.1 75 2)).toInt.toNat, by omega, by rw [q3]; omega, q2, sc2 _ q1, q4⟩
  · refine ⟨S, s, p1, by rw [r4 q, b2]; exact p2, p3, sc2 _ (sC_cg (fun k j a b => k2 q k j a (by omega)) p4), ?_⟩
    exact sM_o (s := ((1 : Int32) - (μ1.1 75 2)).toInt.toNat) (by omega) p3 r3 (sM_cg b84 p5)
/-- between the calls: the tapes are alike, and what is told -/
def lwU (μ : xM) : Prop := lwT μ ∧ hOK μ ∧ tR μ
theorem lwU_g {a b : Nat} {q q' : xP} {as as' : List zV} {r r' : Option zV} {μ μ1 μ2 : xM} (hq : xMB a = some q) (hl : kR8 0 a = true) (hq' : xMB b = some q') (hl' : kR8 75 b = true) (h : Ex gx q (.inr (.inl (some 0)) :: as) μ r μ1) (h' : Ex gx q' (.inr (.inl (some 75)) :: as') μ1 r' μ2) (hT : lwT μ2) (hR : lwU μ) : lwU μ2 := by
  have k1 := kR8_ok (by decide) hq hl h hR.2.1
  have k2 := kR8_ok (by decide) hq' hl' h' k1.1
  exact ⟨hT, k2.1, tR_s (tS_tr k1 k2) hR.2.2⟩
theorem lwU_2 {a b : Nat} {q q' : xP} {as as' : List zV} {r r' : Option zV} {μ μ1 μ2 : xM} (hq : xMB a = some q) (hl : (fL2 a && kR8 0 a) = true) (hq' : xMB b = some q') (hl' : (fL2 b && kR8 75 b) = true) (h : Ex gx q (.inr (.inl (some 0)) :: as) μ r μ1) (h' : Ex gx q' (.inr (.inl (some 75)) :: as') μ1 r' μ2) (hR : lwU μ) : lwU μ2 := by
  rw [Bool.and_eq_true] at hl hl'
  exact lwU_g hq hl.2 hq' hl'.2 h h' (lwT_2 hq hl.1 hq' hl'.1 h h' hR.1) hR
theorem lwU_feed {a b d e f : Int32} {r r' : Option zV} {μ μ1 μ2 : xM} (h1 : Ex gx xq_81 [.inr (.inl (some 0)), .inl a, .inl b, .inl d, .inl e, .inl f] μ r μ1) (h2 : Ex gx xq_134 [.inr (.inl (some 75)), .inl a, .inl b, .inl d, .inl e, .inl f] μ1 r' μ2) (hR : lwU μ) : lwU μ2 := lwU_g xm_81 (by decide +kernel) xm_134 (by decide +kernel) h1 h2 (lwT_feed h1 h2 hR.1) hR
theorem lwU_back {a : Int32} {r r' : Option zV} {μ μ1 μ2 : xM} (h1 : Ex gx xq_72 [.inr (.inl (some 0)), .inl a] μ r μ1) (h2 : Ex gx xq_119 [.inr (.inl (some 75)), .inl a] μ1 r' μ2) (hR : lwU μ) : lwU μ2 := lwU_g xm_72 (by decide +kernel) xm_119 (by decide +kernel) h1 h2 (lwT_back h1 h2 hR.1) hR
theorem lwU_read {r r' : Option zV} {μ μ1 μ2 : xM} (h1 : Ex gx xq_98 [.inr (.inl (some 0))] μ r μ1) (h2 : Ex gx xq_180 [.inr (.inl (some 75))] μ1 r' μ2) (hR : lwU μ) : (∃ x : Int32, r = some (.inl x) ∧ r' = some (.inl x)) ∧ lwU μ2 := by
  obtain ⟨hx, hT⟩ := lwT_read h1 h2 hR.1
  obtain ⟨g1, g2⟩ := tR_read h1 h2 hR.1 hR.2.1 hR.2.2
  exact ⟨hx, hT, g1, g2⟩
theorem lwU_wants {a d : Int32} {r r' : Option zV} {μ μ1 μ2 : xM} (h1 : Ex gx xq_111 [.inr (.inl (some 0)), .inl a, .inl d] μ r μ1) (h2 : Ex gx xq_197 [.inr (.inl (some 75)), .inl a, .inl d] μ1 r' μ2) (hR : lwU μ) : (∃ x : Int32, r = some (.inl x) ∧ r' = some (.inl x)) ∧ lwU μ2 := by
  refine ⟨?_, lwU_2 xm_111 (by decide +kernel) xm_197 (by decide +kernel) h1 h2 hR⟩
  have k1 := kR8_ok (c := 0) (mn := 111) (by decide) xm_111 (by decide +kernel) h1 hR.2.1
  obtain ⟨S, s, a1, a2, a3, a4, a5⟩ := hR.2.2
  obtain ⟨x, rfl, x1⟩ := ex_cwants h1 a3 a4
  obtain ⟨y, rfl, y1⟩ := ex_mwants h2 a3 a1 (by rw [k1.2.2.2.2]; exact a2) (sM_cg k1.2.2.2.1 a5)
  have e : y = x := Int32.toInt_inj.mp (wQ_1 y1 x1)
  rw [e]
  exact ⟨_, rfl, rfl⟩
