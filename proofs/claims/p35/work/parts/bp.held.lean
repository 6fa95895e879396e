/-! ===== WHAT IS HELD ===== -/
theorem hOK_r {μ : xM} {k j : Nat} {v : Option Nat} (h : hOK μ) (hk : hTw k = false) : hOK (xpr μ k j v) := ⟨h.1, fun a ha i hi => by
  show (if a = k ∧ i = j then v else μ.2.2.1 a i) = _
  rw [if_neg (fun q => by rw [q.1, hk] at ha; cases ha)]
  exact h.2 a ha i hi⟩
theorem j0x {Q : Prop} {j : Nat} (h : (j : Int) < (0 : Int32).toInt) : Q := by
  have e : (0 : Int32).toInt = 0 := by decide
  exfalso
  omega
theorem xnew_i {μ : xM} {k j : Nat} (hO : hOK μ) (hk : k < 119) : (xnew μ).1 k j = μ.1 k j := by
  show (if μ.2.2.2 ≤ k then 0 else μ.1 k j) = _
  rw [if_neg (by have := hO.1; omega)]
theorem hOK_n {μ : xM} (h : hOK μ) : hOK (xnew μ) := (hRm_n (P := fun _ _ => False) (Q := fun _ => True) h).1
/-- the cells of what is held stand -/
noncomputable def kW (W : hW) : Bool := hpA W 43 && (hpA W 117 && hqB W 42)
noncomputable def kR (c mn : Nat) : Bool := (hvs mn).any (fun p => (p.1.1 == some c && p.1.2 == none) && kW p.2)
def kS (μ μ' : xM) : Prop := hOK μ' ∧ (∀ j, μ'.1 43 j = μ.1 43 j) ∧ (∀ j, μ'.1 117 j = μ.1 117 j) ∧ ∀ j, μ'.2.2.1 42 j = μ.2.2.1 42 j
theorem kS_tr {μ ν μ' : xM} (h1 : kS μ ν) (h2 : kS ν μ') : kS μ μ' := ⟨h2.1, fun j => (h2.2.1 j).trans (h1.2.1 j), fun j => (h2.2.2.1 j).trans (h1.2.2.1 j), fun j => (h2.2.2.2 j).trans (h1.2.2.2 j)⟩
theorem kS_w {W : hW} {μ μ' : xM} (hk : kW W = true) (h : hRm (hP W) (hQ W) μ μ') (hO : hOK μ) : kS μ μ' := by
  unfold kW at hk
  rw [Bool.and_eq_true, Bool.and_eq_true] at hk
  exact ⟨(h hO).1, fun j => hSt h hO (by decide) (hpA_ok hk.1 j), fun j => hSt h hO (by decide) (hpA_ok hk.2.1 j), fun j => hStr h hO (by decide) hk.2.2 j⟩
theorem kR_ok {c mn : Nat} {q : xP} {as : List zV} {r : Option zV} {μ μ' : xM} (hc : c < 119) (hm : xMB mn = some q) (hk : kR c mn = true) (h : Ex gx q (.inr (.inl (some c)) :: as) μ r μ') (hO : hOK μ) : kS μ μ' := by
  unfold kR at hk
  rw [List.any_eq_true] at hk
  obtain ⟨p, hp, hk⟩ := hk
  rw [Bool.and_eq_true, Bool.and_eq_true] at hk
  have e1 : p.1.1 = some c := by simpa using hk.1.1
  have e2 : p.1.2 = none := by simpa using hk.1.2
  have e : p.1 = (some c, none) := by
    obtain ⟨⟨x, y⟩, W⟩ := p
    have e1 : x = some c := e1
    have e2 : y = none := e2
    rw [e1, e2]
  exact kS_w hk.2 (hAll hV0 (hV0 mn q hm p hp) (by rw [e]; exact hEn0 hc) h hO).2 hO
abbrev xq_74 : xP := (⟨"CapitalCase", "beginAnew", "()V"⟩, prog_1_method_6_code, 2, none)
abbrev xq_86 : xP := (⟨"CapitalCase", "hold", "(I)Z"⟩, prog_1_method_42_code, 2, (some .boolean))
abbrev xq_146 : xP := (⟨"CapitalCaseModel", "hold", "(I)Z"⟩, prog_14_method_111_code, 3, (some .boolean))
abbrev xq_99 : xP := (⟨"CapitalCase", "restore", "(I)Z"⟩, prog_1_method_43_code, 2, (some .boolean))
abbrev xq_182 : xP := (⟨"CapitalCaseModel", "restore", "(I)Z"⟩, prog_14_method_112_code, 3, (some .boolean))
abbrev xq_148 : xP := (⟨"CapitalCaseModel", "in", "(III)Z"⟩, prog_14_method_40_code, 3, (some .boolean))
set_option maxRecDepth 10000 in
set_option maxHeartbeats 4000000 in
theorem bh_29 {μ' : xM} {r : Option zV} : ∀ (n : Nat) (i : Int32) (ω : xM), eT xq_74 n 29 [some (.inr (.inl (some 0))), some (.inl i)] [] ω r μ' → 0 ≤ i.toInt → i.toInt ≤ 3 → (∀ j : Nat, (j : Int) < i.toInt → ω.1 43 j = 0) → ∀ j, j < 3 → μ'.1 43 j = 0 := by
  intro n
  induction n using Nat.strongRecOn with
  | ind n ih =>
  intro i ω h h0 h3 hP
  have e1i : (1 : Int32).toInt = 1 := by decide
  replace h := tx_iload_n (p' := 30) h em74_29 rfl rfl
  replace h := tx_iconst (v := 3) (p' := 31) h em74_30 (by decide +kernel) rfl
  rcases tx_icmp (t := 47) (p' := 34) h em74_31 (by decide) rfl with ⟨c31, h⟩ | ⟨c31, h⟩
  · replace c31 : 3 ≤ i.toInt := c31
    obtain ⟨rfl, hμ⟩ := tx_return h em74_47
    rw [hμ]
    exact fun j hj => hP j (by omega)
  · replace c31 : ¬ 3 ≤ i.toInt := c31
    replace h := tx_aload_n (p' := 35) h em74_34 rfl rfl
    replace h := tx_getc (c := 11) (j := 12) (p' := 38) h em74_35 ((congrFun xo_0 57).trans rfl) rfl rfl rfl
    replace h := tx_iload_n (p' := 39) h em74_38 rfl rfl
    replace h := tx_iconst (v := 0) (p' := 40) h em74_39 (by decide +kernel) rfl
    obtain ⟨hb40, h⟩ := tx_bast (len := 3) (p' := 41) h em74_40 rfl rfl
    replace hb40 : (0 : Int) ≤ i.toInt ∧ i.toInt < 3 := hb40
    replace h := tx_iinc (v := 1) (p' := 44) h em74_41 (by decide +kernel) rfl rfl
    replace h : eT xq_74 _ 44 [some (.inr (.inl (some 0))), some (.inl (i + 1))] [] (xpi ω 43 i.toInt.toNat ((0 : Int32)).toInt8.toInt32) r μ' := h
    obtain ⟨n2, hn2, h⟩ := tx_gotoS (t := 29) h em74_44 (by decide)
    have ei : (i + 1).toInt = i.toInt + 1 := by rw [an_add (by rw [e1i]; omega) (by rw [e1i]; omega), e1i]
    refine ih n2 hn2 _ _ h (by omega) (by omega) (fun j hj => ?_)
    by_cases q : j = i.toInt.toNat
    · rw [q, xpi_at]
      decide
    · rw [xpi_ne (fun z => q z.2)]
      exact hP j (by omega)
set_option maxRecDepth 10000 in
set_option maxHeartbeats 4000000 in
theorem bh_held {μ μ' : xM} {r : Option zV} (h0 : Ex gx xq_74 [.inr (.inl (some 0))] μ r μ') (hO : hOK μ) : ∀ j, j < 3 → μ'.1 43 j = 0 := by
  obtain ⟨n, h⟩ := tx_in (L := [some (.inr (.inl (some 0))), none]) h0 rfl
  replace h := tx_aload_n (p' := 1) h em74_0 rfl rfl
  replace h := tx_getc (c := 11) (j := 1) (p' := 4) h em74_1 ((congrFun xo_0 39).trans rfl) rfl rfl rfl
  replace h := tx_aload_n (p' := 5) h em74_4 rfl rfl
  replace h := tx_getc (c := 11) (j := 0) (p' := 8) h em74_5 ((congrFun xo_0 23).trans rfl) rfl rfl rfl
  obtain ⟨r8, μ8, hE8, h⟩ := tx_invV (na := 2) (mn := 50) (as := [.inr (.inl (some 28)), .inr (.inl (some 2))]) (rest := []) (p' := 11) h em74_8 ((congrFun xo_0 127).trans rfl) xm_50 rfl rfl
  have hK8 := kS_w (μ := μ) (by decide +kernel) (hf_50_0 hE8 (hEn1 (by decide) (by decide)) hO).2 hO
  have er8 := ex_void [0, 1, 4, 5, 6, 9, 10, 12, 15, 16, 19, 20, 23, 24, 27, 28, 31, 32, 35, 36, 39, 40, 41, 44, 45, 46, 49, 50, 51, 54, 55, 56, 59, 60, 61, 64, 65] (by decide +kernel) hE8
  subst er8
  replace h : eT xq_74 _ 11 [some (.inr (.inl (some 0))), none] [] μ8 r μ' := h
  replace h := tx_aload_n (p' := 12) h em74_11 rfl rfl
  replace h := tx_getc (c := 11) (j := 8) (p' := 15) h em74_12 ((congrFun xo_0 49).trans rfl) rfl rfl rfl
  replace h := tx_iconst (v := 0) (p' := 16) h em74_15 (by decide +kernel) rfl
  replace h := tx_putf (a := 40) (c := 0) (j := 2) (p' := 19) h em74_16 ((congrFun xo_0 130).trans rfl) rfl
  replace h := tx_aload_n (p' := 20) h em74_19 rfl rfl
  replace h := tx_getc (c := 11) (j := 13) (p' := 23) h em74_20 ((congrFun xo_0 64).trans rfl) rfl rfl rfl
  replace h := tx_iconst (v := 0) (p' := 24) h em74_23 (by decide +kernel) rfl
  replace h := tx_putf (a := 44) (c := 5) (j := 3) (p' := 27) h em74_24 ((congrFun xo_0 133).trans rfl) rfl
  replace h := tx_iconst (v := 0) (p' := 28) h em74_27 (by decide +kernel) rfl
  replace h := tx_istore_n (p' := 29) h em74_28 rfl
  replace h : eT xq_74 _ 29 [some (.inr (.inl (some 0))), some (.inl (0 : Int32))] [] (xpi (xpi μ8 40 2 (0 : Int32)) 44 3 (0 : Int32)) r μ' := h
  exact bh_29 _ _ _ h (by decide) (by decide) (fun j hj => j0x hj)
set_option maxRecDepth 10000 in
set_option maxHeartbeats 4000000 in
theorem rc_held {μ μ' : xM} {r : Option zV} (h0 : Ex gx xq_98 [.inr (.inl (some 0))] μ r μ') (hO : hOK μ) (hn : 0 ≤ (μ.1 0 6).toInt ∧ (μ.1 0 6).toInt ≤ 2000) : ∃ x : Int32, r = some (.inl x) ∧ (¬ x.toInt = 0 → ∀ j, μ'.1 43 j = μ.1 43 j) ∧ (x.toInt = 0 → ∀ j, j < 3 → μ'.1 43 j = 0) := by
  obtain ⟨n, h⟩ := tx_in (L := [some (.inr (.inl (some 0))), none]) h0 rfl
  replace h := tx_aload_n (p' := 1) h em98_0 rfl rfl
  replace h := tx_getc (c := 11) (j := 10) (p' := 4) h em98_1 ((congrFun xo_0 32).trans rfl) rfl rfl rfl
  replace h := tx_aload_n (p' := 5) h em98_4 rfl rfl
  replace h := tx_getf (c := 11) (j := 6) (p' := 8) h em98_5 ((congrFun xo_0 13).trans rfl) rfl rfl (by decide) rfl
  obtain ⟨r8, μ8, hE8, h⟩ := tx_invV (na := 2) (mn := 16) (as := [.inr (.inl (some 12)), .inl (μ.1 0 6)]) (rest := []) (p' := 11) h em98_8 ((congrFun xo_0 113).trans rfl) xm_16 rfl rfl
  have hK8 := kS_w (by decide +kernel) (hf_16_0 hE8 (hEn0 (by decide)) hO).2 hO
  obtain ⟨x, E, w, rfl, -⟩ := ex_parse hE8 hn.1 hn.2
  replace h : eT xq_98 _ 11 [some (.inr (.inl (some 0))), none] [.inl x] μ8 r μ' := h
  replace h := tx_istore_n (p' := 12) h em98_11 rfl
  replace h : eT xq_98 _ 12 [some (.inr (.inl (some 0))), some (.inl x)] [] μ8 r μ' := h
  replace h := tx_aload_n (p' := 13) h em98_12 rfl rfl
  replace h := tx_iconst (v := 0) (p' := 14) h em98_13 (by decide +kernel) rfl
  replace h := tx_putf (a := 0) (c := 11) (j := 6) (p' := 17) h em98_14 ((congrFun xo_0 13).trans rfl) rfl
  replace h := tx_aload_n (p' := 18) h em98_17 rfl rfl
  replace h := tx_iload_n (p' := 19) h em98_18 rfl rfl
  rcases tx_if (t := 26) (p' := 22) h em98_19 (by decide) rfl with ⟨c19, h⟩ | ⟨c19, h⟩
  · replace c19 : ¬ x.toInt = 0 := c19
    replace h := tx_aload_n (p' := 27) h em98_26 rfl rfl
    replace h := tx_getc (c := 11) (j := 10) (p' := 30) h em98_27 ((congrFun xo_0 32).trans rfl) rfl rfl rfl
    replace h := tx_getf (c := 2) (j := 5) (p' := 33) h em98_30 ((congrFun xo_0 117).trans rfl) rfl rfl (by decide) rfl
    replace h : eT xq_98 _ 33 [some (.inr (.inl (some 0))), some (.inl x)] [.inl (μ8.1 12 5), .inr (.inl (some 0))] (xpi μ8 0 6 (0 : Int32)) r μ' := h
    replace h := tx_putf (a := 0) (c := 11) (j := 9) (p' := 36) h em98_33 ((congrFun xo_0 17).trans rfl) rfl
    replace h := tx_iload_n (p' := 37) h em98_36 rfl rfl
    rcases tx_if (t := 58) (p' := 40) h em98_37 (by decide) rfl with ⟨c37, h⟩ | ⟨c37, h⟩
    · replace c37 : ¬ x.toInt = 0 := c37
      replace h := tx_iload_n (p' := 59) h em98_58 rfl rfl
      obtain ⟨rfl, hμ⟩ := tx_ireturn h em98_59
      rw [hμ]
      first
        | (refine ⟨x, rfl, fun _ j => ?_, fun q => absurd q (by omega)⟩
           rw [xpi_ne (fun q => absurd q.1 (by decide)), xpi_ne (fun q => absurd q.1 (by decide))]
           exact hK8.2.1 j)
        | (exfalso; omega)
    · replace c37 : ¬ ¬ x.toInt = 0 := c37
      replace h := tx_aload_n (p' := 41) h em98_40 rfl rfl
      replace h := tx_getc (c := 11) (j := 0) (p' := 44) h em98_41 ((congrFun xo_0 23).trans rfl) rfl rfl rfl
      replace h := tx_aload_n (p' := 45) h em98_44 rfl rfl
      replace h := tx_getc (c := 11) (j := 10) (p' := 48) h em98_45 ((congrFun xo_0 32).trans rfl) rfl rfl rfl
      replace h := tx_getc (c := 2) (j := 0) (p' := 51) h em98_48 ((congrFun xo_0 120).trans rfl) rfl rfl rfl
      obtain ⟨r51, μ51, hE51, h⟩ := tx_invV (na := 2) (mn := 44) (as := [.inr (.inl (some 2)), .inr (.inl (some 13))]) (rest := []) (p' := 54) h em98_51 ((congrFun xo_0 121).trans rfl) xm_44 rfl rfl
      have hK51 := kS_w (μ := (xpi (xpi μ8 0 6 (0 : Int32)) 0 9 (μ8.1 12 5))) (by decide +kernel) (hf_44_0 hE51 (hEn1 (by decide) (by decide)) hK8.1).2 hK8.1
      have er51 := ex_void [0, 1, 2, 5, 8, 9, 10, 13, 16, 17, 18, 21, 24, 25, 26, 29, 32, 33, 34, 37, 40, 41, 42, 45, 48, 49, 52, 53, 54, 57, 58, 60, 63, 64, 67, 68, 69, 72, 73, 75, 78, 79, 82, 83, 84, 87, 88, 90, 93, 94, 97, 98, 99, 102, 103, 105, 108, 109, 112, 113, 114, 117, 118, 120, 123, 124, 127, 128, 129, 132, 133, 135, 138, 139, 142, 143, 144, 147, 148, 149, 152, 153, 156, 157, 158, 161, 162, 165, 168, 169, 172, 173, 174, 177, 178, 181, 184, 185] (by decide +kernel) hE51
      subst er51
      replace h : eT xq_98 _ 54 [some (.inr (.inl (some 0))), some (.inl x)] [] μ51 r μ' := h
      replace h := tx_aload_n (p' := 55) h em98_54 rfl rfl
      obtain ⟨r55, μ55, hE55, h⟩ := tx_invV (na := 1) (mn := 74) (as := [.inr (.inl (some 0))]) (rest := []) (p' := 58) h em98_55 ((congrFun xo_0 124).trans rfl) xm_74 rfl rfl
      have hB55 := bh_held hE55 hK51.1
      have er55 := ex_void [0, 1, 4, 5, 8, 11, 12, 15, 16, 19, 20, 23, 24, 27, 28, 29, 30, 31, 34, 35, 38, 39, 40, 41, 44, 47, 48] (by decide +kernel) hE55
      subst er55
      replace h : eT xq_98 _ 58 [some (.inr (.inl (some 0))), some (.inl x)] [] μ55 r μ' := h
      replace h := tx_iload_n (p' := 59) h em98_58 rfl rfl
      obtain ⟨rfl, hμ⟩ := tx_ireturn h em98_59
      rw [hμ]
      first
        | exact ⟨x, rfl, fun q => absurd (show x.toInt = 0 by omega) q, fun _ => hB55⟩
        | (exfalso; omega)
  · replace c19 : ¬ ¬ x.toInt = 0 := c19
    replace h := tx_iconst (v := (-1)) (p' := 23) h em98_22 (by decide +kernel) rfl
    replace h := tx_goto (t := 33) h em98_23 (by decide)
    replace h := tx_putf (a := 0) (c := 11) (j := 9) (p' := 36) h em98_33 ((congrFun xo_0 17).trans rfl) rfl
    replace h := tx_iload_n (p' := 37) h em98_36 rfl rfl
    rcases tx_if (t := 58) (p' := 40) h em98_37 (by decide) rfl with ⟨c37_1, h⟩ | ⟨c37_1, h⟩
    · replace c37_1 : ¬ x.toInt = 0 := c37_1
      replace h := tx_iload_n (p' := 59) h em98_58 rfl rfl
      obtain ⟨rfl, hμ⟩ := tx_ireturn h em98_59
      rw [hμ]
      first
        | (refine ⟨x, rfl, fun _ j => ?_, fun q => absurd q (by omega)⟩
           rw [xpi_ne (fun q => absurd q.1 (by decide)), xpi_ne (fun q => absurd q.1 (by decide))]
           exact hK8.2.1 j)
        | (exfalso; omega)
    · replace c37_1 : ¬ ¬ x.toInt = 0 := c37_1
      replace h := tx_aload_n (p' := 41) h em98_40 rfl rfl
      replace h := tx_getc (c := 11) (j := 0) (p' := 44) h em98_41 ((congrFun xo_0 23).trans rfl) rfl rfl rfl
      replace h := tx_aload_n (p' := 45) h em98_44 rfl rfl
      replace h := tx_getc (c := 11) (j := 10) (p' := 48) h em98_45 ((congrFun xo_0 32).trans rfl) rfl rfl rfl
      replace h := tx_getc (c := 2) (j := 0) (p' := 51) h em98_48 ((congrFun xo_0 120).trans rfl) rfl rfl rfl
      obtain ⟨r51_1, μ51_1, hE51_1, h⟩ := tx_invV (na := 2) (mn := 44) (as := [.inr (.inl (some 2)), .inr (.inl (some 13))]) (rest := []) (p' := 54) h em98_51 ((congrFun xo_0 121).trans rfl) xm_44 rfl rfl
      have hK51_1 := kS_w (μ := (xpi (xpi μ8 0 6 (0 : Int32)) 0 9 (-1 : Int32))) (by decide +kernel) (hf_44_0 hE51_1 (hEn1 (by decide) (by decide)) hK8.1).2 hK8.1
      have er51_1 := ex_void [0, 1, 2, 5, 8, 9, 10, 13, 16, 17, 18, 21, 24, 25, 26, 29, 32, 33, 34, 37, 40, 41, 42, 45, 48, 49, 52, 53, 54, 57, 58, 60, 63, 64, 67, 68, 69, 72, 73, 75, 78, 79, 82, 83, 84, 87, 88, 90, 93, 94, 97, 98, 99, 102, 103, 105, 108, 109, 112, 113, 114, 117, 118, 120, 123, 124, 127, 128, 129, 132, 133, 135, 138, 139, 142, 143, 144, 147, 148, 149, 152, 153, 156, 157, 158, 161, 162, 165, 168, 169, 172, 173, 174, 177, 178, 181, 184, 185] (by decide +kernel) hE51_1
      subst er51_1
      replace h : eT xq_98 _ 54 [some (.inr (.inl (some 0))), some (.inl x)] [] μ51_1 r μ' := h
      replace h := tx_aload_n (p' := 55) h em98_54 rfl rfl
      obtain ⟨r55_1, μ55_1, hE55_1, h⟩ := tx_invV (na := 1) (mn := 74) (as := [.inr (.inl (some 0))]) (rest := []) (p' := 58) h em98_55 ((congrFun xo_0 124).trans rfl) xm_74 rfl rfl
      have hB55_1 := bh_held hE55_1 hK51_1.1
      have er55_1 := ex_void [0, 1, 4, 5, 8, 11, 12, 15, 16, 19, 20, 23, 24, 27, 28, 29, 30, 31, 34, 35, 38, 39, 40, 41, 44, 47, 48] (by decide +kernel) hE55_1
      subst er55_1
      replace h : eT xq_98 _ 58 [some (.inr (.inl (some 0))), some (.inl x)] [] μ55_1 r μ' := h
      replace h := tx_iload_n (p' := 59) h em98_58 rfl rfl
      obtain ⟨rfl, hμ⟩ := tx_ireturn h em98_59
      rw [hμ]
      first
        | exact ⟨x, rfl, fun q => absurd (show x.toInt = 0 by omega) q, fun _ => hB55_1⟩
        | (exfalso; omega)
set_option maxRecDepth 10000 in
set_option maxHeartbeats 4000000 in
theorem rh_219 {T : Nat → Int32} {μ' : xM} {r : Option zV} : ∀ (n : Nat) (i : Int32) (ω : xM), eT xq_180 n 219 [some (.inr (.inl (some 75))), some (.inl i)] [] ω r μ' → 0 ≤ i.toInt → i.toInt ≤ 3 → (∀ j : Nat, (j : Int) < i.toInt → ω.1 117 j = 0) → ∃ x : Int32, r = some (.inl x) ∧ (¬ x.toInt = 0 → ∀ j, μ'.1 117 j = T j) ∧ (x.toInt = 0 → ∀ j, j < 3 → μ'.1 117 j = 0) := by
  intro n
  induction n using Nat.strongRecOn with
  | ind n ih =>
  intro i ω h h0 h3 hP
  have e1i : (1 : Int32).toInt = 1 := by decide
  replace h := tx_iload_n (p' := 220) h em180_219 rfl rfl
  replace h := tx_iconst (v := 3) (p' := 221) h em180_220 (by decide +kernel) rfl
  rcases tx_icmp (t := 237) (p' := 224) h em180_221 (by decide) rfl with ⟨c221, h⟩ | ⟨c221, h⟩
  · replace c221 : 3 ≤ i.toInt := c221
    replace h := tx_iconst (v := 0) (p' := 238) h em180_237 (by decide +kernel) rfl
    obtain ⟨rfl, hμ⟩ := tx_ireturn h em180_238
    rw [hμ]
    exact ⟨_, rfl, fun q => absurd (by decide) q, fun _ j hj => hP j (by omega)⟩
  · replace c221 : ¬ 3 ≤ i.toInt := c221
    replace h := tx_aload_n (p' := 225) h em180_224 rfl rfl
    replace h := tx_getc (c := 12) (j := 68) (p' := 228) h em180_225 ((congrFun xo_12 143).trans rfl) rfl rfl rfl
    replace h := tx_iload_n (p' := 229) h em180_228 rfl rfl
    replace h := tx_iconst (v := 0) (p' := 230) h em180_229 (by decide +kernel) rfl
    obtain ⟨hb230, h⟩ := tx_bast (len := 3) (p' := 231) h em180_230 rfl rfl
    replace hb230 : (0 : Int) ≤ i.toInt ∧ i.toInt < 3 := hb230
    replace h := tx_iinc (v := 1) (p' := 234) h em180_231 (by decide +kernel) rfl rfl
    replace h : eT xq_180 _ 234 [some (.inr (.inl (some 75))), some (.inl (i + 1))] [] (xpi ω 117 i.toInt.toNat ((0 : Int32)).toInt8.toInt32) r μ' := h
    obtain ⟨n2, hn2, h⟩ := tx_gotoS (t := 219) h em180_234 (by decide)
    have ei : (i + 1).toInt = i.toInt + 1 := by rw [an_add (by rw [e1i]; omega) (by rw [e1i]; omega), e1i]
    refine ih n2 hn2 _ _ h (by omega) (by omega) (fun j hj => ?_)
    by_cases q : j = i.toInt.toNat
    · rw [q, xpi_at]
      decide
    · rw [xpi_ne (fun z => q z.2)]
      exact hP j (by omega)
set_option maxRecDepth 10000 in
set_option maxHeartbeats 4000000 in
theorem rh_134 {T : Nat → Int32} {ω μ' : xM} {r : Option zV} (hO : hOK ω) (hT : ∀ j, ω.1 117 j = T j) {n : Nat} {i : Int32} (h : eT xq_180 n 134 [some (.inr (.inl (some 75))), some (.inl i)] [] ω r μ') : ∃ x : Int32, r = some (.inl x) ∧ (¬ x.toInt = 0 → ∀ j, μ'.1 117 j = T j) ∧ (x.toInt = 0 → ∀ j, j < 3 → μ'.1 117 j = 0) := by
  replace h := tx_aload_n (p' := 135) h em180_134 rfl rfl
  replace h := tx_aload_n (p' := 136) h em180_135 rfl rfl
  replace h := tx_getf (c := 12) (j := 27) (p' := 139) h em180_136 ((congrFun xo_12 200).trans rfl) rfl rfl (by decide) rfl
  rcases tx_if (t := 149) (p' := 142) h em180_139 (by decide) rfl with ⟨c139, h⟩ | ⟨c139, h⟩
  · replace c139 : (ω.1 75 27).toInt ≤ 0 := c139
    replace h := tx_aload_n (p' := 150) h em180_149 rfl rfl
    replace h := tx_getf (c := 12) (j := 29) (p' := 153) h em180_150 ((congrFun xo_12 209).trans rfl) rfl rfl (by decide) rfl
    rcases tx_if (t := 163) (p' := 156) h em180_153 (by decide) rfl with ⟨c153, h⟩ | ⟨c153, h⟩
    · replace c153 : (ω.1 75 29).toInt ≤ 0 := c153
      replace h := tx_iconst (v := (-1)) (p' := 164) h em180_163 (by decide +kernel) rfl
      replace h := tx_putf (a := 75) (c := 12) (j := 31) (p' := 167) h em180_164 ((congrFun xo_12 37).trans rfl) rfl
      replace h := tx_aload_n (p' := 168) h em180_167 rfl rfl
      replace h := tx_getf (c := 12) (j := 27) (p' := 171) h em180_168 ((congrFun xo_12 200).trans rfl) rfl rfl (by decide) rfl
      replace h : eT xq_180 _ 171 [some (.inr (.inl (some 75))), some (.inl i)] [.inl (ω.1 75 27)] (xpi ω 75 31 (-1 : Int32)) r μ' := h
      rcases tx_if (t := 179) (p' := 174) h em180_171 (by decide) rfl with ⟨c171, h⟩ | ⟨c171, h⟩
      · replace c171 : (ω.1 75 27).toInt ≤ 0 := c171
        replace h := tx_aload_n (p' := 180) h em180_179 rfl rfl
        replace h := tx_getf (c := 12) (j := 29) (p' := 183) h em180_180 ((congrFun xo_12 209).trans rfl) rfl rfl (by decide) rfl
        replace h : eT xq_180 _ 183 [some (.inr (.inl (some 75))), some (.inl i)] [.inl (ω.1 75 29)] (xpi ω 75 31 (-1 : Int32)) r μ' := h
        rcases tx_if (t := 191) (p' := 186) h em180_183 (by decide) rfl with ⟨c183, h⟩ | ⟨c183, h⟩
        · replace c183 : (ω.1 75 29).toInt ≤ 0 := c183
          replace h := tx_aload_n (p' := 192) h em180_191 rfl rfl
          replace h := tx_aload_n (p' := 193) h em180_192 rfl rfl
          replace h := tx_getf (c := 12) (j := 32) (p' := 196) h em180_193 ((congrFun xo_12 233).trans rfl) rfl rfl (by decide) rfl
          replace h : eT xq_180 _ 196 [some (.inr (.inl (some 75))), some (.inl i)] [.inl (ω.1 75 32), .inr (.inl (some 75))] (xpi ω 75 31 (-1 : Int32)) r μ' := h
          replace h := tx_putf (a := 75) (c := 12) (j := 2) (p' := 199) h em180_196 ((congrFun xo_12 230).trans rfl) rfl
          replace h := tx_aload_n (p' := 200) h em180_199 rfl rfl
          obtain ⟨r200, μ200, hE200, h⟩ := tx_invV (na := 1) (mn := 121) (as := [.inr (.inl (some 75))]) (rest := []) (p' := 203) h em180_200 ((congrFun xo_12 157).trans rfl) xm_121 rfl rfl
          have hK200 := kS_w (μ := (xpi (xpi ω 75 31 (-1 : Int32)) 75 2 (ω.1 75 32))) (by decide +kernel) (hf_121_0 hE200 (hEn0 (by decide)) hO).2 hO
          have er200 := ex_void [0, 1, 2, 3, 6, 9, 10, 13, 14, 15, 16, 19, 22, 23, 24, 25, 27, 28, 31, 32, 35, 36, 37, 40, 41, 44, 45, 46, 49, 51, 52, 55, 56, 57, 58, 59, 60, 63, 66, 67, 68, 71, 72, 75, 76, 79, 80, 81, 84, 85, 86, 89, 90] (by decide +kernel) hE200
          subst er200
          replace h : eT xq_180 _ 203 [some (.inr (.inl (some 75))), some (.inl i)] [] μ200 r μ' := h
          replace h := tx_aload_n (p' := 204) h em180_203 rfl rfl
          obtain ⟨r204, μ204, hE204, h⟩ := tx_invV (na := 1) (mn := 157) (as := [.inr (.inl (some 75))]) (rest := []) (p' := 207) h em180_204 ((congrFun xo_12 160).trans rfl) xm_157 rfl rfl
          have hK204 := kS_w (μ := μ200) (by decide +kernel) (hf_157_0 hE204 (hEn0 (by decide)) hK200.1).2 hK200.1
          have er204 := ex_void [0, 1, 2, 3, 6, 9, 10, 13, 14, 15, 18, 19, 20, 21, 24, 27, 28] (by decide +kernel) hE204
          subst er204
          replace h : eT xq_180 _ 207 [some (.inr (.inl (some 75))), some (.inl i)] [] μ204 r μ' := h
          replace h := tx_aload_n (p' := 208) h em180_207 rfl rfl
          replace h := tx_iconst (v := 0) (p' := 209) h em180_208 (by decide +kernel) rfl
          replace h := tx_putf (a := 75) (c := 12) (j := 10) (p' := 212) h em180_209 ((congrFun xo_12 248).trans rfl) rfl
          replace h := tx_aload_n (p' := 213) h em180_212 rfl rfl
          replace h := tx_iconst (v := 0) (p' := 214) h em180_213 (by decide +kernel) rfl
          replace h := tx_putf (a := 75) (c := 12) (j := 64) (p' := 217) h em180_214 ((congrFun xo_12 251).trans rfl) rfl
          replace h := tx_iconst (v := 0) (p' := 218) h em180_217 (by decide +kernel) rfl
          replace h := tx_istore_n (p' := 219) h em180_218 rfl
          replace h : eT xq_180 _ 219 [some (.inr (.inl (some 75))), some (.inl (0 : Int32))] [] (xpi (xpi μ204 75 10 (0 : Int32)) 75 64 (0 : Int32)) r μ' := h
          exact rh_219 _ _ _ h (by decide) (by decide) (fun j hj => j0x hj)
        · replace c183 : ¬ (ω.1 75 29).toInt ≤ 0 := c183
          replace h := tx_aload_n (p' := 187) h em180_186 rfl rfl
          replace h := tx_getf (c := 12) (j := 29) (p' := 190) h em180_187 ((congrFun xo_12 209).trans rfl) rfl rfl (by decide) rfl
          replace h : eT xq_180 _ 190 [some (.inr (.inl (some 75))), some (.inl i)] [.inl (ω.1 75 29)] (xpi ω 75 31 (-1 : Int32)) r μ' := h
          obtain ⟨rfl, hμ⟩ := tx_ireturn h em180_190
          rw [hμ]
          exact ⟨_, rfl, fun _ j => by rw [xpi_ne (fun q => absurd q.1 (by decide))]; exact hT j, fun q => absurd q (by omega)⟩
      · replace c171 : ¬ (ω.1 75 27).toInt ≤ 0 := c171
        replace h := tx_aload_n (p' := 175) h em180_174 rfl rfl
        replace h := tx_getf (c := 12) (j := 27) (p' := 178) h em180_175 ((congrFun xo_12 200).trans rfl) rfl rfl (by decide) rfl
        replace h : eT xq_180 _ 178 [some (.inr (.inl (some 75))), some (.inl i)] [.inl (ω.1 75 27)] (xpi ω 75 31 (-1 : Int32)) r μ' := h
        obtain ⟨rfl, hμ⟩ := tx_ireturn h em180_178
        rw [hμ]
        exact ⟨_, rfl, fun _ j => by rw [xpi_ne (fun q => absurd q.1 (by decide))]; exact hT j, fun q => absurd q (by omega)⟩
    · replace c153 : ¬ (ω.1 75 29).toInt ≤ 0 := c153
      replace h := tx_aload_n (p' := 157) h em180_156 rfl rfl
      replace h := tx_getf (c := 12) (j := 30) (p' := 160) h em180_157 ((congrFun xo_12 212).trans rfl) rfl rfl (by decide) rfl
      replace h := tx_goto (t := 164) h em180_160 (by decide)
      replace h := tx_putf (a := 75) (c := 12) (j := 31) (p' := 167) h em180_164 ((congrFun xo_12 37).trans rfl) rfl
      replace h := tx_aload_n (p' := 168) h em180_167 rfl rfl
      replace h := tx_getf (c := 12) (j := 27) (p' := 171) h em180_168 ((congrFun xo_12 200).trans rfl) rfl rfl (by decide) rfl
      replace h : eT xq_180 _ 171 [some (.inr (.inl (some 75))), some (.inl i)] [.inl (ω.1 75 27)] (xpi ω 75 31 (ω.1 75 30)) r μ' := h
      rcases tx_if (t := 179) (p' := 174) h em180_171 (by decide) rfl with ⟨c171_1, h⟩ | ⟨c171_1, h⟩
      · replace c171_1 : (ω.1 75 27).toInt ≤ 0 := c171_1
        replace h := tx_aload_n (p' := 180) h em180_179 rfl rfl
        replace h := tx_getf (c := 12) (j := 29) (p' := 183) h em180_180 ((congrFun xo_12 209).trans rfl) rfl rfl (by decide) rfl
        replace h : eT xq_180 _ 183 [some (.inr (.inl (some 75))), some (.inl i)] [.inl (ω.1 75 29)] (xpi ω 75 31 (ω.1 75 30)) r μ' := h
        rcases tx_if (t := 191) (p' := 186) h em180_183 (by decide) rfl with ⟨c183_1, h⟩ | ⟨c183_1, h⟩
        · replace c183_1 : (ω.1 75 29).toInt ≤ 0 := c183_1
          replace h := tx_aload_n (p' := 192) h em180_191 rfl rfl
          replace h := tx_aload_n (p' := 193) h em180_192 rfl rfl
          replace h := tx_getf (c := 12) (j := 32) (p' := 196) h em180_193 ((congrFun xo_12 233).trans rfl) rfl rfl (by decide) rfl
          replace h : eT xq_180 _ 196 [some (.inr (.inl (some 75))), some (.inl i)] [.inl (ω.1 75 32), .inr (.inl (some 75))] (xpi ω 75 31 (ω.1 75 30)) r μ' := h
          replace h := tx_putf (a := 75) (c := 12) (j := 2) (p' := 199) h em180_196 ((congrFun xo_12 230).trans rfl) rfl
          replace h := tx_aload_n (p' := 200) h em180_199 rfl rfl
          obtain ⟨r200_1, μ200_1, hE200_1, h⟩ := tx_invV (na := 1) (mn := 121) (as := [.inr (.inl (some 75))]) (rest := []) (p' := 203) h em180_200 ((congrFun xo_12 157).trans rfl) xm_121 rfl rfl
          have hK200_1 := kS_w (μ := (xpi (xpi ω 75 31 (ω.1 75 30)) 75 2 (ω.1 75 32))) (by decide +kernel) (hf_121_0 hE200_1 (hEn0 (by decide)) hO).2 hO
          have er200_1 := ex_void [0, 1, 2, 3, 6, 9, 10, 13, 14, 15, 16, 19, 22, 23, 24, 25, 27, 28, 31, 32, 35, 36, 37, 40, 41, 44, 45, 46, 49, 51, 52, 55, 56, 57, 58, 59, 60, 63, 66, 67, 68, 71, 72, 75, 76, 79, 80, 81, 84, 85, 86, 89, 90] (by decide +kernel) hE200_1
          subst er200_1
          replace h : eT xq_180 _ 203 [some (.inr (.inl (some 75))), some (.inl i)] [] μ200_1 r μ' := h
          replace h := tx_aload_n (p' := 204) h em180_203 rfl rfl
          obtain ⟨r204_1, μ204_1, hE204_1, h⟩ := tx_invV (na := 1) (mn := 157) (as := [.inr (.inl (some 75))]) (rest := []) (p' := 207) h em180_204 ((congrFun xo_12 160).trans rfl) xm_157 rfl rfl
          have hK204_1 := kS_w (μ := μ200_1) (by decide +kernel) (hf_157_0 hE204_1 (hEn0 (by decide)) hK200_1.1).2 hK200_1.1
          have er204_1 := ex_void [0, 1, 2, 3, 6, 9, 10, 13, 14, 15, 18, 19, 20, 21, 24, 27, 28] (by decide +kernel) hE204_1
          subst er204_1
          replace h : eT xq_180 _ 207 [some (.inr (.inl (some 75))), some (.inl i)] [] μ204_1 r μ' := h
          replace h := tx_aload_n (p' := 208) h em180_207 rfl rfl
          replace h := tx_iconst (v := 0) (p' := 209) h em180_208 (by decide +kernel) rfl
          replace h := tx_putf (a := 75) (c := 12) (j := 10) (p' := 212) h em180_209 ((congrFun xo_12 248).trans rfl) rfl
          replace h := tx_aload_n (p' := 213) h em180_212 rfl rfl
          replace h := tx_iconst (v := 0) (p' := 214) h em180_213 (by decide +kernel) rfl
          replace h := tx_putf (a := 75) (c := 12) (j := 64) (p' := 217) h em180_214 ((congrFun xo_12 251).trans rfl) rfl
          replace h := tx_iconst (v := 0) (p' := 218) h em180_217 (by decide +kernel) rfl
          replace h := tx_istore_n (p' := 219) h em180_218 rfl
          replace h : eT xq_180 _ 219 [some (.inr (.inl (some 75))), some (.inl (0 : Int32))] [] (xpi (xpi μ204_1 75 10 (0 : Int32)) 75 64 (0 : Int32)) r μ' := h
          exact rh_219 _ _ _ h (by decide) (by decide) (fun j hj => j0x hj)
        · replace c183_1 : ¬ (ω.1 75 29).toInt ≤ 0 := c183_1
          replace h := tx_aload_n (p' := 187) h em180_186 rfl rfl
          replace h := tx_getf (c := 12) (j := 29) (p' := 190) h em180_187 ((congrFun xo_12 209).trans rfl) rfl rfl (by decide) rfl
          replace h : eT xq_180 _ 190 [some (.inr (.inl (some 75))), some (.inl i)] [.inl (ω.1 75 29)] (xpi ω 75 31 (ω.1 75 30)) r μ' := h
          obtain ⟨rfl, hμ⟩ := tx_ireturn h em180_190
          rw [hμ]
          exact ⟨_, rfl, fun _ j => by rw [xpi_ne (fun q => absurd q.1 (by decide))]; exact hT j, fun q => absurd q (by omega)⟩
      · replace c171_1 : ¬ (ω.1 75 27).toInt ≤ 0 := c171_1
        replace h := tx_aload_n (p' := 175) h em180_174 rfl rfl
        replace h := tx_getf (c := 12) (j := 27) (p' := 178) h em180_175 ((congrFun xo_12 200).trans rfl) rfl rfl (by decide) rfl
        replace h : eT xq_180 _ 178 [some (.inr (.inl (some 75))), some (.inl i)] [.inl (ω.1 75 27)] (xpi ω 75 31 (ω.1 75 30)) r μ' := h
        obtain ⟨rfl, hμ⟩ := tx_ireturn h em180_178
        rw [hμ]
        exact ⟨_, rfl, fun _ j => by rw [xpi_ne (fun q => absurd q.1 (by decide))]; exact hT j, fun q => absurd q (by omega)⟩
  · replace c139 : ¬ (ω.1 75 27).toInt ≤ 0 := c139
    replace h := tx_aload_n (p' := 143) h em180_142 rfl rfl
    replace h := tx_getf (c := 12) (j := 28) (p' := 146) h em180_143 ((congrFun xo_12 206).trans rfl) rfl rfl (by decide) rfl
    replace h := tx_goto (t := 164) h em180_146 (by decide)
    replace h := tx_putf (a := 75) (c := 12) (j := 31) (p' := 167) h em180_164 ((congrFun xo_12 37).trans rfl) rfl
    replace h := tx_aload_n (p' := 168) h em180_167 rfl rfl
    replace h := tx_getf (c := 12) (j := 27) (p' := 171) h em180_168 ((congrFun xo_12 200).trans rfl) rfl rfl (by decide) rfl
    replace h : eT xq_180 _ 171 [some (.inr (.inl (some 75))), some (.inl i)] [.inl (ω.1 75 27)] (xpi ω 75 31 (ω.1 75 28)) r μ' := h
    rcases tx_if (t := 179) (p' := 174) h em180_171 (by decide) rfl with ⟨c171_2, h⟩ | ⟨c171_2, h⟩
    · replace c171_2 : (ω.1 75 27).toInt ≤ 0 := c171_2
      replace h := tx_aload_n (p' := 180) h em180_179 rfl rfl
      replace h := tx_getf (c := 12) (j := 29) (p' := 183) h em180_180 ((congrFun xo_12 209).trans rfl) rfl rfl (by decide) rfl
      replace h : eT xq_180 _ 183 [some (.inr (.inl (some 75))), some (.inl i)] [.inl (ω.1 75 29)] (xpi ω 75 31 (ω.1 75 28)) r μ' := h
      rcases tx_if (t := 191) (p' := 186) h em180_183 (by decide) rfl with ⟨c183_2, h⟩ | ⟨c183_2, h⟩
      · replace c183_2 : (ω.1 75 29).toInt ≤ 0 := c183_2
        replace h := tx_aload_n (p' := 192) h em180_191 rfl rfl
        replace h := tx_aload_n (p' := 193) h em180_192 rfl rfl
        replace h := tx_getf (c := 12) (j := 32) (p' := 196) h em180_193 ((congrFun xo_12 233).trans rfl) rfl rfl (by decide) rfl
        replace h : eT xq_180 _ 196 [some (.inr (.inl (some 75))), some (.inl i)] [.inl (ω.1 75 32), .inr (.inl (some 75))] (xpi ω 75 31 (ω.1 75 28)) r μ' := h
        replace h := tx_putf (a := 75) (c := 12) (j := 2) (p' := 199) h em180_196 ((congrFun xo_12 230).trans rfl) rfl
        replace h := tx_aload_n (p' := 200) h em180_199 rfl rfl
        obtain ⟨r200_2, μ200_2, hE200_2, h⟩ := tx_invV (na := 1) (mn := 121) (as := [.inr (.inl (some 75))]) (rest := []) (p' := 203) h em180_200 ((congrFun xo_12 157).trans rfl) xm_121 rfl rfl
        have hK200_2 := kS_w (μ := (xpi (xpi ω 75 31 (ω.1 75 28)) 75 2 (ω.1 75 32))) (by decide +kernel) (hf_121_0 hE200_2 (hEn0 (by decide)) hO).2 hO
        have er200_2 := ex_void [0, 1, 2, 3, 6, 9, 10, 13, 14, 15, 16, 19, 22, 23, 24, 25, 27, 28, 31, 32, 35, 36, 37, 40, 41, 44, 45, 46, 49, 51, 52, 55, 56, 57, 58, 59, 60, 63, 66, 67, 68, 71, 72, 75, 76, 79, 80, 81, 84, 85, 86, 89, 90] (by decide +kernel) hE200_2
        subst er200_2
        replace h : eT xq_180 _ 203 [some (.inr (.inl (some 75))), some (.inl i)] [] μ200_2 r μ' := h
        replace h := tx_aload_n (p' := 204) h em180_203 rfl rfl
        obtain ⟨r204_2, μ204_2, hE204_2, h⟩ := tx_invV (na := 1) (mn := 157) (as := [.inr (.inl (some 75))]) (rest := []) (p' := 207) h em180_204 ((congrFun xo_12 160).trans rfl) xm_157 rfl rfl
        have hK204_2 := kS_w (μ := μ200_2) (by decide +kernel) (hf_157_0 hE204_2 (hEn0 (by decide)) hK200_2.1).2 hK200_2.1
        have er204_2 := ex_void [0, 1, 2, 3, 6, 9, 10, 13, 14, 15, 18, 19, 20, 21, 24, 27, 28] (by decide +kernel) hE204_2
        subst er204_2
        replace h : eT xq_180 _ 207 [some (.inr (.inl (some 75))), some (.inl i)] [] μ204_2 r μ' := h
        replace h := tx_aload_n (p' := 208) h em180_207 rfl rfl
        replace h := tx_iconst (v := 0) (p' := 209) h em180_208 (by decide +kernel) rfl
        replace h := tx_putf (a := 75) (c := 12) (j := 10) (p' := 212) h em180_209 ((congrFun xo_12 248).trans rfl) rfl
        replace h := tx_aload_n (p' := 213) h em180_212 rfl rfl
        replace h := tx_iconst (v := 0) (p' := 214) h em180_213 (by decide +kernel) rfl
        replace h := tx_putf (a := 75) (c := 12) (j := 64) (p' := 217) h em180_214 ((congrFun xo_12 251).trans rfl) rfl
        replace h := tx_iconst (v := 0) (p' := 218) h em180_217 (by decide +kernel) rfl
        replace h := tx_istore_n (p' := 219) h em180_218 rfl
        replace h : eT xq_180 _ 219 [some (.inr (.inl (some 75))), some (.inl (0 : Int32))] [] (xpi (xpi μ204_2 75 10 (0 : Int32)) 75 64 (0 : Int32)) r μ' := h
        exact rh_219 _ _ _ h (by decide) (by decide) (fun j hj => j0x hj)
      · replace c183_2 : ¬ (ω.1 75 29).toInt ≤ 0 := c183_2
        replace h := tx_aload_n (p' := 187) h em180_186 rfl rfl
        replace h := tx_getf (c := 12) (j := 29) (p' := 190) h em180_187 ((congrFun xo_12 209).trans rfl) rfl rfl (by decide) rfl
        replace h : eT xq_180 _ 190 [some (.inr (.inl (some 75))), some (.inl i)] [.inl (ω.1 75 29)] (xpi ω 75 31 (ω.1 75 28)) r μ' := h
        obtain ⟨rfl, hμ⟩ := tx_ireturn h em180_190
        rw [hμ]
        exact ⟨_, rfl, fun _ j => by rw [xpi_ne (fun q => absurd q.1 (by decide))]; exact hT j, fun q => absurd q (by omega)⟩
    · replace c171_2 : ¬ (ω.1 75 27).toInt ≤ 0 := c171_2
      replace h := tx_aload_n (p' := 175) h em180_174 rfl rfl
      replace h := tx_getf (c := 12) (j := 27) (p' := 178) h em180_175 ((congrFun xo_12 200).trans rfl) rfl rfl (by decide) rfl
      replace h : eT xq_180 _ 178 [some (.inr (.inl (some 75))), some (.inl i)] [.inl (ω.1 75 27)] (xpi ω 75 31 (ω.1 75 28)) r μ' := h
      obtain ⟨rfl, hμ⟩ := tx_ireturn h em180_178
      rw [hμ]
      exact ⟨_, rfl, fun _ j => by rw [xpi_ne (fun q => absurd q.1 (by decide))]; exact hT j, fun q => absurd q (by omega)⟩
set_option maxRecDepth 10000 in
set_option maxHeartbeats 4000000 in
theorem rh_112 {T : Nat → Int32} {μ' : xM} {r : Option zV} : ∀ (n : Nat) (i : Int32) (ω : xM), eT xq_180 n 112 [some (.inr (.inl (some 75))), some (.inl i)] [] ω r μ' → hOK ω → (∀ j, ω.1 117 j = T j) → ∃ x : Int32, r = some (.inl x) ∧ (¬ x.toInt = 0 → ∀ j, μ'.1 117 j = T j) ∧ (x.toInt = 0 → ∀ j, j < 3 → μ'.1 117 j = 0) := by
  intro n
  induction n using Nat.strongRecOn with
  | ind n ih =>
  intro i ω h hO hT
  replace h := tx_aload_n (p' := 113) h em180_112 rfl rfl
  replace h := tx_getf (c := 12) (j := 27) (p' := 116) h em180_113 ((congrFun xo_12 200).trans rfl) rfl rfl (by decide) rfl
  rcases tx_if (t := 134) (p' := 119) h em180_116 (by decide) rfl with ⟨c116, h⟩ | ⟨c116, h⟩
  · replace c116 : ¬ (ω.1 75 27).toInt = 0 := c116
    exact rh_134 hO hT h
  · replace c116 : ¬ ¬ (ω.1 75 27).toInt = 0 := c116
    replace h := tx_aload_n (p' := 120) h em180_119 rfl rfl
    replace h := tx_iconst (v := 0) (p' := 121) h em180_120 (by decide +kernel) rfl
    obtain ⟨r121, μ121, hE121, h⟩ := tx_invV (na := 2) (mn := 149) (as := [.inr (.inl (some 75)), .inl (0 : Int32)]) (rest := []) (p' := 124) h em180_121 ((congrFun xo_12 218).trans rfl) xm_149 rfl rfl
    obtain ⟨hm, ⟨rfl, i1211, i1212, i1213⟩ | ⟨rfl, i1211⟩⟩ := ex_is hE121 (by decide)
    · rw [hm] at h
      replace h : eT xq_180 _ 124 [some (.inr (.inl (some 75))), some (.inl i)] [.inl (1 : Int32)] ω r μ' := h
      rcases tx_if (t := 134) (p' := 127) h em180_124 (by decide) rfl with ⟨c124, h⟩ | ⟨c124, h⟩
      · replace c124 : ¬ (1 : Int) = (0 : Int) := c124
        exact rh_134 hO hT h
      · replace c124 : ¬ ¬ (1 : Int) = (0 : Int) := c124
        exfalso
        omega
    · rw [hm] at h
      replace h : eT xq_180 _ 124 [some (.inr (.inl (some 75))), some (.inl i)] [.inl (0 : Int32)] ω r μ' := h
      rcases tx_if (t := 134) (p' := 127) h em180_124 (by decide) rfl with ⟨c124_1, h⟩ | ⟨c124_1, h⟩
      · replace c124_1 : ¬ (0 : Int) = (0 : Int) := c124_1
        exfalso
        omega
      · replace c124_1 : ¬ ¬ (0 : Int) = (0 : Int) := c124_1
        replace h := tx_aload_n (p' := 128) h em180_127 rfl rfl
        obtain ⟨r128, μ128, hE128, h⟩ := tx_invV (na := 1) (mn := 219) (as := [.inr (.inl (some 75))]) (rest := []) (p' := 131) h em180_128 ((congrFun xo_12 245).trans rfl) xm_219 rfl rfl
        have hK128 := kS_w (μ := ω) (by decide +kernel) (hf_219_0 hE128 (hEn0 (by decide)) hO).2 hO
        have er128 := ex_void [0, 1, 4, 5, 8, 9, 60, 61, 62, 65, 66, 69, 70, 71, 74, 75, 78, 81, 82, 85, 88, 89, 90, 93, 94, 97, 98, 100, 103, 104, 107, 110, 111, 114, 117, 118, 121, 122, 125, 126, 127, 129, 132, 133, 136, 137, 140, 141, 144, 145, 146, 148, 151, 152, 155, 156, 159, 160, 163, 164, 165, 168, 171, 172, 175, 176, 179, 180, 183, 184, 186, 187, 188, 189, 192, 193, 196, 197, 200, 201, 203, 206, 207, 208, 211, 212, 215, 218, 219, 220, 223, 224, 225, 228, 229] (by decide +kernel) hE128
        subst er128
        replace h : eT xq_180 _ 131 [some (.inr (.inl (some 75))), some (.inl i)] [] μ128 r μ' := h
        obtain ⟨n2, hn2, h⟩ := tx_gotoS (t := 112) h em180_131 (by decide)
        exact ih n2 hn2 _ _ h hK128.1 (fun j => (hK128.2.2.1 j).trans (hT j))
set_option maxRecDepth 10000 in
set_option maxHeartbeats 4000000 in
theorem rh_36 {T : Nat → Int32} {ω μ' : xM} {r : Option zV} (hO : hOK ω) (hT : ∀ j, ω.1 117 j = T j) {n : Nat} {i : Int32} (h : eT xq_180 n 36 [some (.inr (.inl (some 75))), some (.inl i)] [] ω r μ') : ∃ x : Int32, r = some (.inl x) ∧ (¬ x.toInt = 0 → ∀ j, μ'.1 117 j = T j) ∧ (x.toInt = 0 → ∀ j, j < 3 → μ'.1 117 j = 0) := by
  replace h := tx_aload_n (p' := 37) h em180_36 rfl rfl
  replace h := tx_iconst (v := 0) (p' := 38) h em180_37 (by decide +kernel) rfl
  replace h := tx_putf (a := 75) (c := 12) (j := 12) (p' := 41) h em180_38 ((congrFun xo_12 163).trans rfl) rfl
  replace h := tx_aload_n (p' := 42) h em180_41 rfl rfl
  obtain ⟨r42, μ42, hE42, h⟩ := tx_invV (na := 1) (mn := 214) (as := [.inr (.inl (some 75))]) (rest := []) (p' := 45) h em180_42 ((congrFun xo_12 224).trans rfl) xm_214 rfl rfl
  have hK42 := kS_w (μ := (xpi ω 75 12 (0 : Int32))) (by decide +kernel) (hf_214_0 hE42 (hEn0 (by decide)) hO).2 hO
  have er42 := ex_void [0, 1, 2, 5, 6, 7, 8, 11, 14, 17, 18, 19, 22, 23, 24, 25, 28, 31, 32, 33, 34, 37, 38, 39, 42, 43, 44, 46, 49, 50, 52, 55, 56, 58, 61, 62, 64, 67, 70, 73, 74, 77, 80, 81, 82, 83, 85, 86, 87, 88, 89, 92, 95, 98, 99, 101, 104, 106, 107, 108, 109, 110, 113, 116, 118, 121, 124, 125, 127, 130, 131, 134, 135, 137, 138, 140, 143, 144, 146, 148, 150, 153, 154, 157, 159, 160, 162, 163, 166, 168, 170, 171, 173, 176, 179, 180, 182, 183, 184, 186, 189, 190, 191, 192, 193, 196, 197, 200, 203, 204, 205, 206, 208, 209, 210, 211, 212, 215, 218, 221, 222, 223, 226, 228, 230, 231, 232, 233, 234, 235, 238, 239, 241, 242, 244, 247, 250, 251, 252, 253, 256, 257, 260, 261, 262, 264, 265, 268, 269, 270, 271, 272, 275, 276, 277, 278, 279, 280, 281, 282, 283, 286, 289, 290, 291, 294, 295] (by decide +kernel) hE42
  subst er42
  replace h : eT xq_180 _ 45 [some (.inr (.inl (some 75))), some (.inl i)] [] μ42 r μ' := h
  replace h := tx_aload_n (p' := 46) h em180_45 rfl rfl
  replace h := tx_iconst (v := 0) (p' := 47) h em180_46 (by decide +kernel) rfl
  replace h := tx_putf (a := 75) (c := 12) (j := 25) (p' := 50) h em180_47 ((congrFun xo_12 203).trans rfl) rfl
  replace h := tx_aload_n (p' := 51) h em180_50 rfl rfl
  replace h := tx_iconst (v := 0) (p' := 52) h em180_51 (by decide +kernel) rfl
  replace h := tx_putf (a := 75) (c := 12) (j := 26) (p' := 55) h em180_52 ((congrFun xo_12 227).trans rfl) rfl
  replace h := tx_aload_n (p' := 56) h em180_55 rfl rfl
  replace h := tx_iconst (v := 0) (p' := 57) h em180_56 (by decide +kernel) rfl
  replace h := tx_putf (a := 75) (c := 12) (j := 27) (p' := 60) h em180_57 ((congrFun xo_12 200).trans rfl) rfl
  replace h := tx_aload_n (p' := 61) h em180_60 rfl rfl
  replace h := tx_iconst (v := 0) (p' := 62) h em180_61 (by decide +kernel) rfl
  replace h := tx_putf (a := 75) (c := 12) (j := 29) (p' := 65) h em180_62 ((congrFun xo_12 209).trans rfl) rfl
  replace h := tx_aload_n (p' := 66) h em180_65 rfl rfl
  replace h := tx_iconst (v := 1) (p' := 67) h em180_66 (by decide +kernel) rfl
  replace h := tx_aload_n (p' := 68) h em180_67 rfl rfl
  replace h := tx_getf (c := 12) (j := 2) (p' := 71) h em180_68 ((congrFun xo_12 230).trans rfl) rfl rfl (by decide) rfl
  replace h : eT xq_180 _ 71 [some (.inr (.inl (some 75))), some (.inl i)] [.inl (μ42.1 75 2), .inl (1 : Int32), .inr (.inl (some 75))] (xpi (xpi (xpi (xpi μ42 75 25 (0 : Int32)) 75 26 (0 : Int32)) 75 27 (0 : Int32)) 75 29 (0 : Int32)) r μ' := h
  replace h := tx_isub (p' := 72) h em180_71 rfl
  replace h := tx_putf (a := 75) (c := 12) (j := 32) (p' := 75) h em180_72 ((congrFun xo_12 233).trans rfl) rfl
  replace h := tx_aload_n (p' := 76) h em180_75 rfl rfl
  replace h := tx_iconst (v := 0) (p' := 77) h em180_76 (by decide +kernel) rfl
  replace h := tx_putf (a := 75) (c := 12) (j := 33) (p' := 80) h em180_77 ((congrFun xo_12 236).trans rfl) rfl
  replace h := tx_aload_n (p' := 81) h em180_80 rfl rfl
  replace h := tx_aload_n (p' := 82) h em180_81 rfl rfl
  replace h := tx_getf (c := 12) (j := 32) (p' := 85) h em180_82 ((congrFun xo_12 233).trans rfl) rfl rfl (by decide) rfl
  replace h : eT xq_180 _ 85 [some (.inr (.inl (some 75))), some (.inl i)] [.inl ((1 : Int32) - (μ42.1 75 2)), .inr (.inl (some 75))] (xpi (xpi (xpi (xpi (xpi (xpi μ42 75 25 (0 : Int32)) 75 26 (0 : Int32)) 75 27 (0 : Int32)) 75 29 (0 : Int32)) 75 32 ((1 : Int32) - (μ42.1 75 2))) 75 33 (0 : Int32)) r μ' := h
  obtain ⟨r85, μ85, hE85, h⟩ := tx_invV (na := 2) (mn := 218) (as := [.inr (.inl (some 75)), .inl ((1 : Int32) - (μ42.1 75 2))]) (rest := []) (p' := 88) h em180_85 ((congrFun xo_12 149).trans rfl) xm_218 rfl rfl
  have hK85 := kS_w (μ := (xpi (xpi (xpi (xpi (xpi (xpi μ42 75 25 (0 : Int32)) 75 26 (0 : Int32)) 75 27 (0 : Int32)) 75 29 (0 : Int32)) 75 32 ((1 : Int32) - (μ42.1 75 2))) 75 33 (0 : Int32))) (by decide +kernel) (hf_218_0 hE85 (hEn0 (by decide)) hK42.1).2 hK42.1
  have er85 := ex_void [0, 1, 4, 5, 6, 7, 8, 11, 12, 13, 14, 15, 18, 19, 21, 22, 23, 26, 27, 28, 29, 30, 33, 34, 35, 36, 37, 38, 39, 40, 43, 44, 47, 48, 49, 50, 51, 52, 53, 54, 55, 58, 59, 60, 61, 62, 63, 64, 65, 68, 71, 72] (by decide +kernel) hE85
  subst er85
  replace h : eT xq_180 _ 88 [some (.inr (.inl (some 75))), some (.inl i)] [] μ85 r μ' := h
  replace h := tx_aload_n (p' := 89) h em180_88 rfl rfl
  replace h := tx_sipush (v := 130) (p' := 92) h em180_89 (by decide +kernel) rfl
  replace h := tx_aload_n (p' := 93) h em180_92 rfl rfl
  replace h := tx_getf (c := 12) (j := 32) (p' := 96) h em180_93 ((congrFun xo_12 233).trans rfl) rfl rfl (by decide) rfl
  replace h := tx_imul (p' := 97) h em180_96 rfl
  replace h := tx_putf (a := 75) (c := 12) (j := 43) (p' := 100) h em180_97 ((congrFun xo_12 239).trans rfl) rfl
  replace h := tx_aload_n (p' := 101) h em180_100 rfl rfl
  replace h := tx_sipush (v := 420) (p' := 104) h em180_101 (by decide +kernel) rfl
  replace h := tx_aload_n (p' := 105) h em180_104 rfl rfl
  replace h := tx_getf (c := 12) (j := 32) (p' := 108) h em180_105 ((congrFun xo_12 233).trans rfl) rfl rfl (by decide) rfl
  replace h : eT xq_180 _ 108 [some (.inr (.inl (some 75))), some (.inl i)] [.inl (μ85.1 75 32), .inl (420 : Int32), .inr (.inl (some 75))] (xpi μ85 75 43 ((130 : Int32) * (μ85.1 75 32))) r μ' := h
  replace h := tx_imul (p' := 109) h em180_108 rfl
  replace h := tx_putf (a := 75) (c := 12) (j := 49) (p' := 112) h em180_109 ((congrFun xo_12 242).trans rfl) rfl
  refine rh_112 _ _ _ h hK85.1 (fun j => ?_)
  repeat rw [xpi_ne (fun q => absurd q.1 (by decide))]
  rw [hK85.2.2.1 j]
  repeat rw [xpi_ne (fun q => absurd q.1 (by decide))]
  rw [hK42.2.2.1 j]
  repeat rw [xpi_ne (fun q => absurd q.1 (by decide))]
  exact hT j
set_option maxRecDepth 10000 in
set_option maxHeartbeats 4000000 in
theorem rh_10 {T : Nat → Int32} {μ' : xM} {r : Option zV} : ∀ (n : Nat) (i : Int32) (ω : xM), eT xq_180 n 10 [some (.inr (.inl (some 75))), some (.inl i)] [] ω r μ' → hOK ω → (∀ j, ω.1 117 j = T j) → ∃ x : Int32, r = some (.inl x) ∧ (¬ x.toInt = 0 → ∀ j, μ'.1 117 j = T j) ∧ (x.toInt = 0 → ∀ j, j < 3 → μ'.1 117 j = 0) := by
  intro n
  induction n using Nat.strongRecOn with
  | ind n ih =>
  intro i ω h hO hT
  replace h := tx_iload_n (p' := 11) h em180_10 rfl rfl
  replace h := tx_aload_n (p' := 12) h em180_11 rfl rfl
  replace h := tx_getf (c := 12) (j := 18) (p' := 15) h em180_12 ((congrFun xo_12 169).trans rfl) rfl rfl (by decide) rfl
  rcases tx_icmp (t := 36) (p' := 18) h em180_15 (by decide) rfl with ⟨c15, h⟩ | ⟨c15, h⟩
  · replace c15 : (ω.1 75 18).toInt ≤ i.toInt := c15
    exact rh_36 hO hT h
  · replace c15 : ¬ (ω.1 75 18).toInt ≤ i.toInt := c15
    replace h := tx_aload_n (p' := 19) h em180_18 rfl rfl
    replace h := tx_getc (c := 12) (j := 17) (p' := 22) h em180_19 ((congrFun xo_12 17).trans rfl) rfl rfl rfl
    replace h := tx_iload_n (p' := 23) h em180_22 rfl rfl
    replace h := tx_aload_n (p' := 24) h em180_23 rfl rfl
    replace h := tx_getc (c := 12) (j := 13) (p' := 27) h em180_24 ((congrFun xo_12 13).trans rfl) rfl rfl rfl
    replace h := tx_iload_n (p' := 28) h em180_27 rfl rfl
    obtain ⟨hb28, h⟩ := tx_bald (len := 2000) (p' := 29) h em180_28 rfl rfl
    replace hb28 : (0 : Int) ≤ i.toInt ∧ i.toInt < 2000 := hb28
    obtain ⟨hb29, h⟩ := tx_bast (len := 2000) (p' := 30) h em180_29 rfl rfl
    replace hb29 : (0 : Int) ≤ i.toInt ∧ i.toInt < 2000 := hb29
    replace h := tx_iinc (v := 1) (p' := 33) h em180_30 (by decide +kernel) rfl rfl
    replace h : eT xq_180 _ 33 [some (.inr (.inl (some 75))), some (.inl (i + 1))] [] (xpi ω 77 i.toInt.toNat ((ω.1 76 i.toInt.toNat)).toInt8.toInt32) r μ' := h
    obtain ⟨n2, hn2, h⟩ := tx_gotoS (t := 10) h em180_33 (by decide)
    exact ih n2 hn2 _ _ h hO (fun j => by rw [xpi_ne (fun q => absurd q.1 (by decide))]; exact hT j)
set_option maxRecDepth 10000 in
set_option maxHeartbeats 4000000 in
theorem rm_held {μ μ' : xM} {r : Option zV} (h0 : Ex gx xq_180 [.inr (.inl (some 75))] μ r μ') (hO : hOK μ) : ∃ x : Int32, r = some (.inl x) ∧ (¬ x.toInt = 0 → ∀ j, μ'.1 117 j = μ.1 117 j) ∧ (x.toInt = 0 → ∀ j, j < 3 → μ'.1 117 j = 0) := by
  obtain ⟨n, h⟩ := tx_in (L := [some (.inr (.inl (some 75))), none]) h0 rfl
  replace h := tx_aload_n (p' := 1) h em180_0 rfl rfl
  replace h := tx_aload_n (p' := 2) h em180_1 rfl rfl
  replace h := tx_getf (c := 12) (j := 12) (p' := 5) h em180_2 ((congrFun xo_12 163).trans rfl) rfl rfl (by decide) rfl
  replace h := tx_putf (a := 75) (c := 12) (j := 18) (p' := 8) h em180_5 ((congrFun xo_12 169).trans rfl) rfl
  replace h := tx_iconst (v := 0) (p' := 9) h em180_8 (by decide +kernel) rfl
  replace h := tx_istore_n (p' := 10) h em180_9 rfl
  replace h : eT xq_180 _ 10 [some (.inr (.inl (some 75))), some (.inl (0 : Int32))] [] (xpi μ 75 18 (μ.1 75 12)) r μ' := h
  exact rh_10 _ _ _ h hO (fun j => xpi_ne (fun q => absurd q.1 (by decide)))
theorem h3t : ((1 : Int32).toInt8.toInt32) = 1 := by decide
set_option maxRecDepth 10000 in
set_option maxHeartbeats 4000000 in
theorem ex_chold {i : Int32} {μ μ' : xM} {r : Option zV} (h0 : Ex gx xq_86 [.inr (.inl (some 0)), .inl i] μ r μ') (hO : hOK μ) : ((0 ≤ i.toInt ∧ i.toInt < 3) ∧ hOK μ' ∧ (∀ j, μ'.1 43 j = if j = i.toInt.toNat then 1 else μ.1 43 j) ∧ (∀ j, μ'.1 117 j = μ.1 117 j) ∧ (∀ j, μ'.2.2.1 42 j = none → μ.2.2.1 42 j = none ∧ ¬ j = i.toInt.toNat)) ∨ (¬ (0 ≤ i.toInt ∧ i.toInt < 3) ∧ μ' = μ) := by
  obtain ⟨n, h⟩ := tx_in (L := [some (.inr (.inl (some 0))), some (.inl i)]) h0 rfl
  replace h := tx_iload_n (p' := 1) h em86_0 rfl rfl
  rcases tx_if (t := 9) (p' := 4) h em86_1 (by decide) rfl with ⟨c1, h⟩ | ⟨c1, h⟩
  · replace c1 : i.toInt < 0 := c1
    replace h := tx_iconst (v := 0) (p' := 10) h em86_9 (by decide +kernel) rfl
    obtain ⟨rfl, hμ⟩ := tx_ireturn h em86_10
    exact Or.inr ⟨by omega, hμ⟩
  · replace c1 : ¬ i.toInt < 0 := c1
    replace h := tx_iload_n (p' := 5) h em86_4 rfl rfl
    replace h := tx_iconst (v := 3) (p' := 6) h em86_5 (by decide +kernel) rfl
    rcases tx_icmp (t := 11) (p' := 9) h em86_6 (by decide) rfl with ⟨c6, h⟩ | ⟨c6, h⟩
    · replace c6 : i.toInt < 3 := c6
      replace h := tx_aload_n (p' := 12) h em86_11 rfl rfl
      replace h := tx_getc (c := 11) (j := 11) (p' := 15) h em86_12 ((congrFun xo_0 53).trans rfl) rfl rfl rfl
      replace h := tx_iload_n (p' := 16) h em86_15 rfl rfl
      obtain ⟨hb16, h⟩ := tx_aald (len := 3) (p' := 17) h em86_16 rfl rfl
      replace hb16 : (0 : Int) ≤ i.toInt ∧ i.toInt < 3 := hb16
      rcases tx_ifnonnull (t := 33) (p' := 20) h em86_17 (by decide) rfl with ⟨c17, h⟩ | ⟨c17, h⟩
      · replace h := tx_aload_n (p' := 21) h em86_20 rfl rfl
        replace h := tx_getc (c := 11) (j := 11) (p' := 24) h em86_21 ((congrFun xo_0 53).trans rfl) rfl rfl rfl
        replace h := tx_iload_n (p' := 25) h em86_24 rfl rfl
        replace h := tx_new h em86_25
        replace h : eT xq_86 _ 32 [some (.inr (.inl (some 0))), some (.inl i)] [.inr (.inl (some μ.2.2.2)), .inl i, .inr (.inl (some 42))] (xnew μ) r μ' := h
        obtain ⟨hb32, h⟩ := tx_aast (len := 3) (p' := 33) h em86_32 rfl rfl
        replace hb32 : (0 : Int) ≤ i.toInt ∧ i.toInt < 3 := hb32
        replace h := tx_aload_n (p' := 34) h em86_33 rfl rfl
        replace h := tx_getc (c := 11) (j := 11) (p' := 37) h em86_34 ((congrFun xo_0 53).trans rfl) rfl rfl rfl
        replace h := tx_iload_n (p' := 38) h em86_37 rfl rfl
        obtain ⟨hb38, h⟩ := tx_aald (len := 3) (p' := 39) h em86_38 rfl rfl
        replace hb38 : (0 : Int) ≤ i.toInt ∧ i.toInt < 3 := hb38
        replace h := tx_aload_n (p' := 40) h em86_39 rfl rfl
        replace h := tx_getc (c := 11) (j := 1) (p' := 43) h em86_40 ((congrFun xo_0 39).trans rfl) rfl rfl rfl
        obtain ⟨r43, μ43, hE43, h⟩ := tx_invV (na := 2) (mn := 49) (as := [.inr (.inl ((xpr (xnew μ) 42 i.toInt.toNat (some μ.2.2.2)).2.2.1 42 i.toInt.toNat)), .inr (.inl (some 28))]) (rest := []) (p' := 46) h em86_43 ((congrFun xo_0 275).trans rfl) xm_49 rfl rfl
        have hK43 := kS_w (μ := (xpr (xnew μ) 42 i.toInt.toNat (some μ.2.2.2))) (by decide +kernel) (hf_49_3 hE43 hEnn (hOK_r (hOK_n hO) rfl)).2 (hOK_r (hOK_n hO) rfl)
        have er43 := ex_void [0, 1, 4, 5, 6, 9, 10, 12, 15, 16, 19, 20, 21, 24, 25, 27, 30, 31, 34, 35, 36, 39, 40, 42, 45, 46, 49, 50, 51, 54, 55, 58, 61, 62, 65, 66, 67, 70, 71, 73, 76, 77, 78, 81, 84, 85, 86, 89, 92, 93, 94, 97, 100, 101, 102, 105, 108, 109, 110, 113, 116, 117] (by decide +kernel) hE43
        subst er43
        replace h : eT xq_86 _ 46 [some (.inr (.inl (some 0))), some (.inl i)] [] μ43 r μ' := h
        replace h := tx_aload_n (p' := 47) h em86_46 rfl rfl
        replace h := tx_getc (c := 11) (j := 12) (p' := 50) h em86_47 ((congrFun xo_0 57).trans rfl) rfl rfl rfl
        replace h := tx_iload_n (p' := 51) h em86_50 rfl rfl
        replace h := tx_iconst (v := 1) (p' := 52) h em86_51 (by decide +kernel) rfl
        obtain ⟨hb52, h⟩ := tx_bast (len := 3) (p' := 53) h em86_52 rfl rfl
        replace hb52 : (0 : Int) ≤ i.toInt ∧ i.toInt < 3 := hb52
        replace h := tx_iconst (v := 1) (p' := 54) h em86_53 (by decide +kernel) rfl
        obtain ⟨rfl, hμ⟩ := tx_ireturn h em86_54
        refine Or.inl ⟨⟨by omega, by omega⟩, (by rw [hμ]; exact hK43.1), fun j => ?_, fun j => ?_, fun j hj => ?_⟩
        · rw [hμ]
          by_cases q : j = i.toInt.toNat
          · rw [q, xpi_at, if_pos rfl, h3t]
          · rw [xpi_ne (fun z => q z.2), if_neg q, hK43.2.1 j]
            exact xnew_i hO (by decide)
        · rw [hμ, xpi_ne (fun z => absurd z.1 (by decide)), hK43.2.2.1 j]
          exact xnew_i hO (by decide)
        · rw [hμ] at hj
          have hj2 := (hK43.2.2.2 j).symm.trans hj
          have hx : (if 42 = 42 ∧ j = i.toInt.toNat then some μ.2.2.2 else (xnew μ).2.2.1 42 j) = none := hj2
          by_cases q : j = i.toInt.toNat
          · rw [if_pos ⟨rfl, q⟩] at hx
            cases hx
          · rw [if_neg (fun z => q z.2)] at hx
            have hy : (if 42 = μ.2.2.2 then some (μ.2.2.2 + 1 + j) else if μ.2.2.2 < 42 then none else μ.2.2.1 42 j) = none := hx
            have := hO.1
            rw [if_neg (by omega), if_neg (by omega)] at hy
            exact ⟨hy, q⟩
      · replace h := tx_aload_n (p' := 34) h em86_33 rfl rfl
        replace h := tx_getc (c := 11) (j := 11) (p' := 37) h em86_34 ((congrFun xo_0 53).trans rfl) rfl rfl rfl
        replace h := tx_iload_n (p' := 38) h em86_37 rfl rfl
        obtain ⟨hb38_1, h⟩ := tx_aald (len := 3) (p' := 39) h em86_38 rfl rfl
        replace hb38_1 : (0 : Int) ≤ i.toInt ∧ i.toInt < 3 := hb38_1
        replace h := tx_aload_n (p' := 40) h em86_39 rfl rfl
        replace h := tx_getc (c := 11) (j := 1) (p' := 43) h em86_40 ((congrFun xo_0 39).trans rfl) rfl rfl rfl
        obtain ⟨r43_1, μ43_1, hE43_1, h⟩ := tx_invV (na := 2) (mn := 49) (as := [.inr (.inl (μ.2.2.1 42 i.toInt.toNat)), .inr (.inl (some 28))]) (rest := []) (p' := 46) h em86_43 ((congrFun xo_0 275).trans rfl) xm_49 rfl rfl
        have hK43 := kS_w (μ := μ) (by decide +kernel) (hf_49_3 hE43_1 hEnn hO).2 hO
        have er43 := ex_void [0, 1, 4, 5, 6, 9, 10, 12, 15, 16, 19, 20, 21, 24, 25, 27, 30, 31, 34, 35, 36, 39, 40, 42, 45, 46, 49, 50, 51, 54, 55, 58, 61, 62, 65, 66, 67, 70, 71, 73, 76, 77, 78, 81, 84, 85, 86, 89, 92, 93, 94, 97, 100, 101, 102, 105, 108, 109, 110, 113, 116, 117] (by decide +kernel) hE43_1
        subst er43
        replace h : eT xq_86 _ 46 [some (.inr (.inl (some 0))), some (.inl i)] [] μ43_1 r μ' := h
        replace h := tx_aload_n (p' := 47) h em86_46 rfl rfl
        replace h := tx_getc (c := 11) (j := 12) (p' := 50) h em86_47 ((congrFun xo_0 57).trans rfl) rfl rfl rfl
        replace h := tx_iload_n (p' := 51) h em86_50 rfl rfl
        replace h := tx_iconst (v := 1) (p' := 52) h em86_51 (by decide +kernel) rfl
        obtain ⟨hb52_1, h⟩ := tx_bast (len := 3) (p' := 53) h em86_52 rfl rfl
        replace hb52_1 : (0 : Int) ≤ i.toInt ∧ i.toInt < 3 := hb52_1
        replace h := tx_iconst (v := 1) (p' := 54) h em86_53 (by decide +kernel) rfl
        obtain ⟨rfl, hμ⟩ := tx_ireturn h em86_54
        refine Or.inl ⟨⟨by omega, by omega⟩, (by rw [hμ]; exact hK43.1), fun j => ?_, fun j => ?_, fun j hj => ?_⟩
        · rw [hμ]
          by_cases q : j = i.toInt.toNat
          · rw [q, xpi_at, if_pos rfl, h3t]
          · rw [xpi_ne (fun z => q z.2), if_neg q, hK43.2.1 j]
        · rw [hμ, xpi_ne (fun z => absurd z.1 (by decide)), hK43.2.2.1 j]
        · rw [hμ] at hj
          have hj2 := (hK43.2.2.2 j).symm.trans hj
          refine ⟨hj2, fun q => ?_⟩
          rw [q] at hj2
          exact c17 hj2
    · replace c6 : ¬ i.toInt < 3 := c6
      replace h := tx_iconst (v := 0) (p' := 10) h em86_9 (by decide +kernel) rfl
      obtain ⟨rfl, hμ⟩ := tx_ireturn h em86_10
      exact Or.inr ⟨by omega, hμ⟩
set_option maxRecDepth 10000 in
set_option maxHeartbeats 4000000 in
theorem ex_in {a lo hi : Int32} {μ μ' : xM} {r : Option zV} (h0 : Ex gx xq_148 [.inl a, .inl lo, .inl hi] μ r μ') : μ' = μ ∧ ((r = some (.inl 1) ∧ lo.toInt ≤ a.toInt ∧ a.toInt ≤ hi.toInt) ∨ (r = some (.inl 0) ∧ ¬ (lo.toInt ≤ a.toInt ∧ a.toInt ≤ hi.toInt))) := by
  obtain ⟨n, h⟩ := tx_in (L := [some (.inl a), some (.inl lo), some (.inl hi)]) h0 rfl
  replace h := tx_iload_n (p' := 1) h em148_0 rfl rfl
  replace h := tx_iload_n (p' := 2) h em148_1 rfl rfl
  rcases tx_icmp (t := 14) (p' := 5) h em148_2 (by decide) rfl with ⟨c2, h⟩ | ⟨c2, h⟩
  · replace c2 : a.toInt < lo.toInt := c2
    replace h := tx_iconst (v := 0) (p' := 15) h em148_14 (by decide +kernel) rfl
    obtain ⟨rfl, hμ⟩ := tx_ireturn h em148_15
    first
      | exact ⟨hμ, Or.inl ⟨rfl, by omega, by omega⟩⟩
      | exact ⟨hμ, Or.inr ⟨rfl, by omega⟩⟩
  · replace c2 : ¬ a.toInt < lo.toInt := c2
    replace h := tx_iload_n (p' := 6) h em148_5 rfl rfl
    replace h := tx_iload_n (p' := 7) h em148_6 rfl rfl
    rcases tx_icmp (t := 14) (p' := 10) h em148_7 (by decide) rfl with ⟨c7, h⟩ | ⟨c7, h⟩
    · replace c7 : hi.toInt < a.toInt := c7
      replace h := tx_iconst (v := 0) (p' := 15) h em148_14 (by decide +kernel) rfl
      obtain ⟨rfl, hμ⟩ := tx_ireturn h em148_15
      first
        | exact ⟨hμ, Or.inl ⟨rfl, by omega, by omega⟩⟩
        | exact ⟨hμ, Or.inr ⟨rfl, by omega⟩⟩
    · replace c7 : ¬ hi.toInt < a.toInt := c7
      replace h := tx_iconst (v := 1) (p' := 11) h em148_10 (by decide +kernel) rfl
      replace h := tx_goto (t := 15) h em148_11 (by decide)
      obtain ⟨rfl, hμ⟩ := tx_ireturn h em148_15
      first
        | exact ⟨hμ, Or.inl ⟨rfl, by omega, by omega⟩⟩
        | exact ⟨hμ, Or.inr ⟨rfl, by omega⟩⟩
set_option maxRecDepth 10000 in
set_option maxHeartbeats 4000000 in
theorem mh_20 {i : Int32} {μ' : xM} {r : Option zV} : ∀ (n : Nat) (k : Int32) (ω : xM), eT xq_146 n 20 [some (.inr (.inl (some 75))), some (.inl i), some (.inl k)] [] ω r μ' → ∀ j, μ'.1 117 j = ω.1 117 j := by
  intro n
  induction n using Nat.strongRecOn with
  | ind n ih =>
  intro k ω h
  replace h := tx_iload_n (p' := 21) h em146_20 rfl rfl
  replace h := tx_sipush (v := 390) (p' := 24) h em146_21 (by decide +kernel) rfl
  rcases tx_icmp (t := 51) (p' := 27) h em146_24 (by decide) rfl with ⟨c24, h⟩ | ⟨c24, h⟩
  · replace c24 : 390 ≤ k.toInt := c24
    replace h := tx_iconst (v := 1) (p' := 52) h em146_51 (by decide +kernel) rfl
    obtain ⟨rfl, hμ⟩ := tx_ireturn h em146_52
    intro j
    rw [hμ]
  · replace c24 : ¬ 390 ≤ k.toInt := c24
    replace h := tx_aload_n (p' := 28) h em146_27 rfl rfl
    replace h := tx_getc (c := 12) (j := 69) (p' := 31) h em146_28 ((congrFun xo_12 146).trans rfl) rfl rfl rfl
    replace h := tx_sipush (v := 390) (p' := 34) h em146_31 (by decide +kernel) rfl
    replace h := tx_iload_n (p' := 35) h em146_34 rfl rfl
    replace h := tx_imul (p' := 36) h em146_35 rfl
    replace h := tx_iload_n (p' := 37) h em146_36 rfl rfl
    replace h := tx_iadd (p' := 38) h em146_37 rfl
    replace h := tx_aload_n (p' := 39) h em146_38 rfl rfl
    replace h := tx_getc (c := 12) (j := 1) (p' := 42) h em146_39 ((congrFun xo_12 113).trans rfl) rfl rfl rfl
    replace h := tx_iload_n (p' := 43) h em146_42 rfl rfl
    obtain ⟨hb43, h⟩ := tx_iald (len := 390) (p' := 44) h em146_43 rfl rfl
    replace hb43 : (0 : Int) ≤ k.toInt ∧ k.toInt < 390 := hb43
    obtain ⟨hb44, h⟩ := tx_iast (len := 1170) (p' := 45) h em146_44 rfl rfl
    replace hb44 : (0 : Int) ≤ (((390 : Int32) * i) + k).toInt ∧ (((390 : Int32) * i) + k).toInt < 1170 := hb44
    replace h := tx_iinc (v := 1) (p' := 48) h em146_45 (by decide +kernel) rfl rfl
    replace h : eT xq_146 _ 48 [some (.inr (.inl (some 75))), some (.inl i), some (.inl (k + 1))] [] (xpi ω 118 (((390 : Int32) * i) + k).toInt.toNat (ω.1 107 k.toInt.toNat)) r μ' := h
    obtain ⟨n2, hn2, h⟩ := tx_gotoS (t := 20) h em146_48 (by decide)
    intro j
    rw [ih n2 hn2 _ _ h j, xpi_ne (fun q => absurd q.1 (by decide))]
set_option maxRecDepth 10000 in
set_option maxHeartbeats 4000000 in
theorem ex_mhold {i : Int32} {μ μ' : xM} {r : Option zV} (h0 : Ex gx xq_146 [.inr (.inl (some 75)), .inl i] μ r μ') : ((0 ≤ i.toInt ∧ i.toInt < 3) ∧ ∀ j, μ'.1 117 j = if j = i.toInt.toNat then 1 else μ.1 117 j) ∨ (¬ (0 ≤ i.toInt ∧ i.toInt < 3) ∧ μ' = μ) := by
  obtain ⟨n, h⟩ := tx_in (L := [some (.inr (.inl (some 75))), some (.inl i), none]) h0 rfl
  replace h := tx_iload_n (p' := 1) h em146_0 rfl rfl
  replace h := tx_iconst (v := 0) (p' := 2) h em146_1 (by decide +kernel) rfl
  replace h := tx_iconst (v := 2) (p' := 3) h em146_2 (by decide +kernel) rfl
  obtain ⟨r3, μ3, hE3, h⟩ := tx_invS (na := 3) (mn := 148) (as := [.inl i, .inl (0 : Int32), .inl (2 : Int32)]) (rest := []) (p' := 6) h em146_3 ((congrFun xo_12 324).trans rfl) xm_148 rfl rfl
  obtain ⟨hm, ⟨rfl, i31, i32⟩ | ⟨rfl, i31⟩⟩ := ex_in hE3
  · rw [hm] at h
    replace h : eT xq_146 _ 6 [some (.inr (.inl (some 75))), some (.inl i), none] [.inl (1 : Int32)] μ r μ' := h
    rcases tx_if (t := 11) (p' := 9) h em146_6 (by decide) rfl with ⟨c6, h⟩ | ⟨c6, h⟩
    · replace c6 : ¬ (1 : Int) = (0 : Int) := c6
      replace h := tx_aload_n (p' := 12) h em146_11 rfl rfl
      replace h := tx_getc (c := 12) (j := 68) (p' := 15) h em146_12 ((congrFun xo_12 143).trans rfl) rfl rfl rfl
      replace h := tx_iload_n (p' := 16) h em146_15 rfl rfl
      replace h := tx_iconst (v := 1) (p' := 17) h em146_16 (by decide +kernel) rfl
      obtain ⟨hb17, h⟩ := tx_bast (len := 3) (p' := 18) h em146_17 rfl rfl
      replace hb17 : (0 : Int) ≤ i.toInt ∧ i.toInt < 3 := hb17
      replace h := tx_iconst (v := 0) (p' := 19) h em146_18 (by decide +kernel) rfl
      replace h := tx_istore_n (p' := 20) h em146_19 rfl
      replace h : eT xq_146 _ 20 [some (.inr (.inl (some 75))), some (.inl i), some (.inl (0 : Int32))] [] (xpi μ 117 i.toInt.toNat ((1 : Int32)).toInt8.toInt32) r μ' := h
      have e0i : (0 : Int32).toInt = 0 := by decide
      have e2i : (2 : Int32).toInt = 2 := by decide
      first
        | (refine Or.inl ⟨⟨by omega, by omega⟩, fun j => ?_⟩
           rw [mh_20 _ _ _ h j]
           by_cases q : j = i.toInt.toNat
           · rw [q, xpi_at, if_pos rfl, h3t]
           · rw [xpi_ne (fun z => q z.2), if_neg q])
        | (exfalso; omega)
    · replace c6 : ¬ ¬ (1 : Int) = (0 : Int) := c6
      exfalso
      omega
  · rw [hm] at h
    replace h : eT xq_146 _ 6 [some (.inr (.inl (some 75))), some (.inl i), none] [.inl (0 : Int32)] μ r μ' := h
    rcases tx_if (t := 11) (p' := 9) h em146_6 (by decide) rfl with ⟨c6_1, h⟩ | ⟨c6_1, h⟩
    · replace c6_1 : ¬ (0 : Int) = (0 : Int) := c6_1
      exfalso
      omega
    · replace c6_1 : ¬ ¬ (0 : Int) = (0 : Int) := c6_1
      replace h := tx_iconst (v := 0) (p' := 10) h em146_9 (by decide +kernel) rfl
      obtain ⟨rfl, hμ⟩ := tx_ireturn h em146_10
      have e0i : (0 : Int32).toInt = 0 := by decide
      have e2i : (2 : Int32).toInt = 2 := by decide
      first
        | exact Or.inr ⟨by omega, hμ⟩
        | (exfalso; omega)
set_option maxRecDepth 10000 in
set_option maxHeartbeats 4000000 in
theorem ex_crestore {i : Int32} {μ μ' : xM} {r : Option zV} (h0 : Ex gx xq_99 [.inr (.inl (some 0)), .inl i] μ r μ') : (r = some (.inl 1) ∧ (0 ≤ i.toInt ∧ i.toInt < 3) ∧ ¬ (μ.1 43 i.toInt.toNat).toInt = 0) ∨ (r = some (.inl 0) ∧ (¬ (0 ≤ i.toInt ∧ i.toInt < 3) ∨ (μ.1 43 i.toInt.toNat).toInt = 0 ∨ μ.2.2.1 42 i.toInt.toNat = none)) := by
  obtain ⟨n, h⟩ := tx_in (L := [some (.inr (.inl (some 0))), some (.inl i)]) h0 rfl
  replace h := tx_iload_n (p' := 1) h em99_0 rfl rfl
  rcases tx_if (t := 27) (p' := 4) h em99_1 (by decide) rfl with ⟨c1, h⟩ | ⟨c1, h⟩
  · replace c1 : i.toInt < 0 := c1
    replace h := tx_iconst (v := 0) (p' := 28) h em99_27 (by decide +kernel) rfl
    obtain ⟨rfl, hμ⟩ := tx_ireturn h em99_28
    exact Or.inr ⟨rfl, Or.inl (by omega)⟩
  · replace c1 : ¬ i.toInt < 0 := c1
    replace h := tx_iload_n (p' := 5) h em99_4 rfl rfl
    replace h := tx_iconst (v := 3) (p' := 6) h em99_5 (by decide +kernel) rfl
    rcases tx_icmp (t := 27) (p' := 9) h em99_6 (by decide) rfl with ⟨c6, h⟩ | ⟨c6, h⟩
    · replace c6 : 3 ≤ i.toInt := c6
      replace h := tx_iconst (v := 0) (p' := 28) h em99_27 (by decide +kernel) rfl
      obtain ⟨rfl, hμ⟩ := tx_ireturn h em99_28
      exact Or.inr ⟨rfl, Or.inl (by omega)⟩
    · replace c6 : ¬ 3 ≤ i.toInt := c6
      replace h := tx_aload_n (p' := 10) h em99_9 rfl rfl
      replace h := tx_getc (c := 11) (j := 12) (p' := 13) h em99_10 ((congrFun xo_0 57).trans rfl) rfl rfl rfl
      replace h := tx_iload_n (p' := 14) h em99_13 rfl rfl
      obtain ⟨hb14, h⟩ := tx_bald (len := 3) (p' := 15) h em99_14 rfl rfl
      replace hb14 : (0 : Int) ≤ i.toInt ∧ i.toInt < 3 := hb14
      rcases tx_if (t := 27) (p' := 18) h em99_15 (by decide) rfl with ⟨c15, h⟩ | ⟨c15, h⟩
      · replace c15 : (μ.1 43 i.toInt.toNat).toInt = 0 := c15
        replace h := tx_iconst (v := 0) (p' := 28) h em99_27 (by decide +kernel) rfl
        obtain ⟨rfl, hμ⟩ := tx_ireturn h em99_28
        exact Or.inr ⟨rfl, Or.inr (Or.inl c15)⟩
      · replace c15 : ¬ (μ.1 43 i.toInt.toNat).toInt = 0 := c15
        replace h := tx_aload_n (p' := 19) h em99_18 rfl rfl
        replace h := tx_getc (c := 11) (j := 11) (p' := 22) h em99_19 ((congrFun xo_0 53).trans rfl) rfl rfl rfl
        replace h := tx_iload_n (p' := 23) h em99_22 rfl rfl
        obtain ⟨hb23, h⟩ := tx_aald (len := 3) (p' := 24) h em99_23 rfl rfl
        replace hb23 : (0 : Int) ≤ i.toInt ∧ i.toInt < 3 := hb23
        rcases tx_ifnonnull (t := 29) (p' := 27) h em99_24 (by decide) rfl with ⟨c24, h⟩ | ⟨c24, h⟩
        · replace h := tx_iconst (v := 0) (p' := 28) h em99_27 (by decide +kernel) rfl
          obtain ⟨rfl, hμ⟩ := tx_ireturn h em99_28
          exact Or.inr ⟨rfl, Or.inr (Or.inr c24)⟩
        · replace h := tx_aload_n (p' := 30) h em99_29 rfl rfl
          replace h := tx_getc (c := 11) (j := 1) (p' := 33) h em99_30 ((congrFun xo_0 39).trans rfl) rfl rfl rfl
          replace h := tx_aload_n (p' := 34) h em99_33 rfl rfl
          replace h := tx_getc (c := 11) (j := 11) (p' := 37) h em99_34 ((congrFun xo_0 53).trans rfl) rfl rfl rfl
          replace h := tx_iload_n (p' := 38) h em99_37 rfl rfl
          obtain ⟨hb38, h⟩ := tx_aald (len := 3) (p' := 39) h em99_38 rfl rfl
          replace hb38 : (0 : Int) ≤ i.toInt ∧ i.toInt < 3 := hb38
          obtain ⟨r39, μ39, hE39, h⟩ := tx_invV (na := 2) (mn := 49) (as := [.inr (.inl (some 28)), .inr (.inl (μ.2.2.1 42 i.toInt.toNat))]) (rest := []) (p' := 42) h em99_39 ((congrFun xo_0 275).trans rfl) xm_49 rfl rfl
          have er39 := ex_void [0, 1, 4, 5, 6, 9, 10, 12, 15, 16, 19, 20, 21, 24, 25, 27, 30, 31, 34, 35, 36, 39, 40, 42, 45, 46, 49, 50, 51, 54, 55, 58, 61, 62, 65, 66, 67, 70, 71, 73, 76, 77, 78, 81, 84, 85, 86, 89, 92, 93, 94, 97, 100, 101, 102, 105, 108, 109, 110, 113, 116, 117] (by decide +kernel) hE39
          subst er39
          replace h : eT xq_99 _ 42 [some (.inr (.inl (some 0))), some (.inl i)] [] μ39 r μ' := h
          replace h := tx_aload_n (p' := 43) h em99_42 rfl rfl
          replace h := tx_getc (c := 11) (j := 8) (p' := 46) h em99_43 ((congrFun xo_0 49).trans rfl) rfl rfl rfl
          replace h := tx_iconst (v := 0) (p' := 47) h em99_46 (by decide +kernel) rfl
          replace h := tx_putf (a := 40) (c := 0) (j := 2) (p' := 50) h em99_47 ((congrFun xo_0 130).trans rfl) rfl
          replace h := tx_iconst (v := 1) (p' := 51) h em99_50 (by decide +kernel) rfl
          obtain ⟨rfl, hμ⟩ := tx_ireturn h em99_51
          exact Or.inl ⟨rfl, ⟨by omega, by omega⟩, c15⟩
set_option maxRecDepth 10000 in
set_option maxHeartbeats 4000000 in
theorem mr_22 {i : Int32} {μ' : xM} {r : Option zV} : ∀ (n : Nat) (k : Int32) (ω : xM), eT xq_182 n 22 [some (.inr (.inl (some 75))), some (.inl i), some (.inl k)] [] ω r μ' → r = some (.inl 1) := by
  intro n
  induction n using Nat.strongRecOn with
  | ind n ih =>
  intro k ω h
  replace h := tx_iload_n (p' := 23) h em182_22 rfl rfl
  replace h := tx_sipush (v := 390) (p' := 26) h em182_23 (by decide +kernel) rfl
  rcases tx_icmp (t := 53) (p' := 29) h em182_26 (by decide) rfl with ⟨c26, h⟩ | ⟨c26, h⟩
  · replace c26 : 390 ≤ k.toInt := c26
    replace h := tx_aload_n (p' := 54) h em182_53 rfl rfl
    replace h := tx_iconst (v := 0) (p' := 55) h em182_54 (by decide +kernel) rfl
    replace h := tx_putf (a := 75) (c := 12) (j := 10) (p' := 58) h em182_55 ((congrFun xo_12 248).trans rfl) rfl
    replace h := tx_iconst (v := 1) (p' := 59) h em182_58 (by decide +kernel) rfl
    obtain ⟨rfl, hμ⟩ := tx_ireturn h em182_59
    rfl
  · replace c26 : ¬ 390 ≤ k.toInt := c26
    replace h := tx_aload_n (p' := 30) h em182_29 rfl rfl
    replace h := tx_getc (c := 12) (j := 1) (p' := 33) h em182_30 ((congrFun xo_12 113).trans rfl) rfl rfl rfl
    replace h := tx_iload_n (p' := 34) h em182_33 rfl rfl
    replace h := tx_aload_n (p' := 35) h em182_34 rfl rfl
    replace h := tx_getc (c := 12) (j := 69) (p' := 38) h em182_35 ((congrFun xo_12 146).trans rfl) rfl rfl rfl
    replace h := tx_sipush (v := 390) (p' := 41) h em182_38 (by decide +kernel) rfl
    replace h := tx_iload_n (p' := 42) h em182_41 rfl rfl
    replace h := tx_imul (p' := 43) h em182_42 rfl
    replace h := tx_iload_n (p' := 44) h em182_43 rfl rfl
    replace h := tx_iadd (p' := 45) h em182_44 rfl
    obtain ⟨hb45, h⟩ := tx_iald (len := 1170) (p' := 46) h em182_45 rfl rfl
    replace hb45 : (0 : Int) ≤ (((390 : Int32) * i) + k).toInt ∧ (((390 : Int32) * i) + k).toInt < 1170 := hb45
    obtain ⟨hb46, h⟩ := tx_iast (len := 390) (p' := 47) h em182_46 rfl rfl
    replace hb46 : (0 : Int) ≤ k.toInt ∧ k.toInt < 390 := hb46
    replace h := tx_iinc (v := 1) (p' := 50) h em182_47 (by decide +kernel) rfl rfl
    replace h : eT xq_182 _ 50 [some (.inr (.inl (some 75))), some (.inl i), some (.inl (k + 1))] [] (xpi ω 107 k.toInt.toNat (ω.1 118 (((390 : Int32) * i) + k).toInt.toNat)) r μ' := h
    obtain ⟨n2, hn2, h⟩ := tx_gotoS (t := 22) h em182_50 (by decide)
    exact ih n2 hn2 _ _ h
set_option maxRecDepth 10000 in
set_option maxHeartbeats 4000000 in
theorem ex_mrestore {i : Int32} {μ μ' : xM} {r : Option zV} (h0 : Ex gx xq_182 [.inr (.inl (some 75)), .inl i] μ r μ') : (r = some (.inl 1) ∧ (0 ≤ i.toInt ∧ i.toInt < 3) ∧ ¬ (μ.1 117 i.toInt.toNat).toInt = 0) ∨ (r = some (.inl 0) ∧ (¬ (0 ≤ i.toInt ∧ i.toInt < 3) ∨ (μ.1 117 i.toInt.toNat).toInt = 0)) := by
  obtain ⟨n, h⟩ := tx_in (L := [some (.inr (.inl (some 75))), some (.inl i), none]) h0 rfl
  replace h := tx_iload_n (p' := 1) h em182_0 rfl rfl
  replace h := tx_iconst (v := 0) (p' := 2) h em182_1 (by decide +kernel) rfl
  replace h := tx_iconst (v := 2) (p' := 3) h em182_2 (by decide +kernel) rfl
  obtain ⟨r3, μ3, hE3, h⟩ := tx_invS (na := 3) (mn := 148) (as := [.inl i, .inl (0 : Int32), .inl (2 : Int32)]) (rest := []) (p' := 6) h em182_3 ((congrFun xo_12 324).trans rfl) xm_148 rfl rfl
  obtain ⟨hm, ⟨rfl, i31, i32⟩ | ⟨rfl, i31⟩⟩ := ex_in hE3
  · rw [hm] at h
    replace h : eT xq_182 _ 6 [some (.inr (.inl (some 75))), some (.inl i), none] [.inl (1 : Int32)] μ r μ' := h
    rcases tx_if (t := 18) (p' := 9) h em182_6 (by decide) rfl with ⟨c6, h⟩ | ⟨c6, h⟩
    · replace c6 : (1 : Int) = (0 : Int) := c6
      exfalso
      omega
    · replace c6 : ¬ (1 : Int) = (0 : Int) := c6
      replace h := tx_aload_n (p' := 10) h em182_9 rfl rfl
      replace h := tx_getc (c := 12) (j := 68) (p' := 13) h em182_10 ((congrFun xo_12 143).trans rfl) rfl rfl rfl
      replace h := tx_iload_n (p' := 14) h em182_13 rfl rfl
      obtain ⟨hb14, h⟩ := tx_bald (len := 3) (p' := 15) h em182_14 rfl rfl
      replace hb14 : (0 : Int) ≤ i.toInt ∧ i.toInt < 3 := hb14
      rcases tx_if (t := 20) (p' := 18) h em182_15 (by decide) rfl with ⟨c15, h⟩ | ⟨c15, h⟩
      · replace c15 : ¬ (μ.1 117 i.toInt.toNat).toInt = 0 := c15
        have e0i : (0 : Int32).toInt = 0 := by decide
        have e2i : (2 : Int32).toInt = 2 := by decide
        refine Or.inl ⟨?_, ⟨by omega, by omega⟩, c15⟩
        exact mr_22 _ _ _ (tx_istore_n (tx_iconst (v := 0) h em182_20 (by decide +kernel) rfl) em182_21 rfl)
      · replace c15 : ¬ ¬ (μ.1 117 i.toInt.toNat).toInt = 0 := c15
        replace h := tx_iconst (v := 0) (p' := 19) h em182_18 (by decide +kernel) rfl
        obtain ⟨rfl, hμ⟩ := tx_ireturn h em182_19
        exact Or.inr ⟨rfl, Or.inr (by omega)⟩
  · rw [hm] at h
    replace h : eT xq_182 _ 6 [some (.inr (.inl (some 75))), some (.inl i), none] [.inl (0 : Int32)] μ r μ' := h
    rcases tx_if (t := 18) (p' := 9) h em182_6 (by decide) rfl with ⟨c6_1, h⟩ | ⟨c6_1, h⟩
    · replace c6_1 : (0 : Int) = (0 : Int) := c6_1
      replace h := tx_iconst (v := 0) (p' := 19) h em182_18 (by decide +kernel) rfl
      obtain ⟨rfl, hμ⟩ := tx_ireturn h em182_19
      have e0i : (0 : Int32).toInt = 0 := by decide
      have e2i : (2 : Int32).toInt = 2 := by decide
      first
        | exact Or.inr ⟨rfl, Or.inl (by omega)⟩
        | (exfalso; omega)
    · replace c6_1 : ¬ (0 : Int) = (0 : Int) := c6_1
      exfalso
      omega
/-- between the calls: the tapes are alike, and so is what is held; where it is, a Town stands -/
def lwR (μ : xM) : Prop := lwT μ ∧ hOK μ ∧ (∀ j : Nat, j < 3 → μ.1 43 j = μ.1 117 j) ∧ ∀ j : Nat, j < 3 → μ.2.2.1 42 j = none → μ.1 43 j = 0
theorem lwR_s {μ μ' : xM} (hT : lwT μ') (hS : kS μ μ') (hR : lwR μ) : lwR μ' := ⟨hT, hS.1, fun j hj => by rw [hS.2.1 j, hS.2.2.1 j]; exact hR.2.2.1 j hj, fun j hj h => by rw [hS.2.1 j]; exact hR.2.2.2 j hj (by rw [← hS.2.2.2 j]; exact h)⟩
theorem lwR_g {a b : Nat} {q q' : xP} {as as' : List zV} {r r' : Option zV} {μ μ1 μ2 : xM} (hq : xMB a = some q) (hl : kR 0 a = true) (hq' : xMB b = some q') (hl' : kR 75 b = true) (h : Ex gx q (.inr (.inl (some 0)) :: as) μ r μ1) (h' : Ex gx q' (.inr (.inl (some 75)) :: as') μ1 r' μ2) (hT : lwT μ2) (hR : lwR μ) : lwR μ2 := by
  have k1 := kR_ok (by decide) hq hl h hR.2.1
  exact lwR_s hT (kS_tr k1 (kR_ok (by decide) hq' hl' h' k1.1)) hR
theorem lwR_2 {a b : Nat} {q q' : xP} {as as' : List zV} {r r' : Option zV} {μ μ1 μ2 : xM} (hq : xMB a = some q) (hl : (fL2 a && kR 0 a) = true) (hq' : xMB b = some q') (hl' : (fL2 b && kR 75 b) = true) (h : Ex gx q (.inr (.inl (some 0)) :: as) μ r μ1) (h' : Ex gx q' (.inr (.inl (some 75)) :: as') μ1 r' μ2) (hR : lwR μ) : lwR μ2 := by
  rw [Bool.and_eq_true] at hl hl'
  exact lwR_g hq hl.2 hq' hl'.2 h h' (lwT_2 hq hl.1 hq' hl'.1 h h' hR.1) hR
theorem lwR_feed {a b d e f : Int32} {r r' : Option zV} {μ μ1 μ2 : xM} (h1 : Ex gx xq_81 [.inr (.inl (some 0)), .inl a, .inl b, .inl d, .inl e, .inl f] μ r μ1) (h2 : Ex gx xq_134 [.inr (.inl (some 75)), .inl a, .inl b, .inl d, .inl e, .inl f] μ1 r' μ2) (hR : lwR μ) : lwR μ2 := lwR_g xm_81 (by decide +kernel) xm_134 (by decide +kernel) h1 h2 (lwT_feed h1 h2 hR.1) hR
theorem lwR_back {a : Int32} {r r' : Option zV} {μ μ1 μ2 : xM} (h1 : Ex gx xq_72 [.inr (.inl (some 0)), .inl a] μ r μ1) (h2 : Ex gx xq_119 [.inr (.inl (some 75)), .inl a] μ1 r' μ2) (hR : lwR μ) : lwR μ2 := lwR_g xm_72 (by decide +kernel) xm_119 (by decide +kernel) h1 h2 (lwT_back h1 h2 hR.1) hR
theorem lwR_read {r r' : Option zV} {μ μ1 μ2 : xM} (h1 : Ex gx xq_98 [.inr (.inl (some 0))] μ r μ1) (h2 : Ex gx xq_180 [.inr (.inl (some 75))] μ1 r' μ2) (hR : lwR μ) : (∃ x : Int32, r = some (.inl x) ∧ r' = some (.inl x)) ∧ lwR μ2 := by
  obtain ⟨⟨x, rfl, rfl⟩, hT⟩ := lwT_read h1 h2 hR.1
  have f1 := (hf_98_0 h1 (hEn0 (by decide)) hR.2.1).2
  have o1 := (f1 hR.2.1).1
  have f2 := (hf_180_0 h2 (hEn0 (by decide)) o1).2
  have o2 := (f2 o1).1
  have a117 : ∀ j, μ1.1 117 j = μ.1 117 j := fun j => hSt f1 hR.2.1 (by decide) (hpA_ok (by decide +kernel) j)
  have a43 : ∀ j, μ2.1 43 j = μ1.1 43 j := fun j => hSt f2 o1 (by decide) (hpA_ok (by decide +kernel) j)
  have a42 : ∀ j, μ2.2.2.1 42 j = μ.2.2.1 42 j := fun j => (hStr f2 o1 (by decide) (by decide +kernel) j).trans (hStr f1 hR.2.1 (by decide) (by decide +kernel) j)
  obtain ⟨y, e, p1, p2⟩ := rc_held h1 hR.2.1 hR.1.2.1
  cases e
  obtain ⟨y, e, q1, q2⟩ := rm_held h2 o1
  cases e
  refine ⟨⟨_, rfl, rfl⟩, hT, o2, ?_⟩
  by_cases q : x.toInt = 0
  · exact ⟨fun j hj => by rw [a43 j, p2 q j hj, q2 q j hj], fun j hj _ => by rw [a43 j, p2 q j hj]⟩
  · exact ⟨fun j hj => by rw [a43 j, p1 q j, q1 q j, a117 j]; exact hR.2.2.1 j hj, fun j hj hn => by rw [a43 j, p1 q j]; exact hR.2.2.2 j hj (by rw [← a42 j]; exact hn)⟩
theorem lwR_hold {i : Int32} {r r' : Option zV} {μ μ1 μ2 : xM} (h1 : Ex gx xq_86 [.inr (.inl (some 0)), .inl i] μ r μ1) (h2 : Ex gx xq_146 [.inr (.inl (some 75)), .inl i] μ1 r' μ2) (hR : lwR μ) : lwR μ2 := by
  have hT := lwT_2 xm_86 (by decide +kernel) xm_146 (by decide +kernel) h1 h2 hR.1
  have a2 := ex_mhold h2
  rcases ex_chold h1 hR.2.1 with ⟨b1, b2, b3, b4, b5⟩ | ⟨b1, rfl⟩
  · have f2 := (hf_146_0 h2 (hEn0 (by decide)) b2).2
    have a43 : ∀ j, μ2.1 43 j = μ1.1 43 j := fun j => hSt f2 b2 (by decide) (hpA_ok (by decide +kernel) j)
    have a42 : ∀ j, μ2.2.2.1 42 j = μ1.2.2.1 42 j := fun j => hStr f2 b2 (by decide) (by decide +kernel) j
    rcases a2 with ⟨-, c1⟩ | ⟨c1, -⟩
    · refine ⟨hT, (f2 b2).1, fun j hj => ?_, fun j hj hn => ?_⟩
      · rw [a43 j, b3 j, c1 j, b4 j]
        by_cases q : j = i.toInt.toNat
        · rw [if_pos q, if_pos q]
        · rw [if_neg q, if_neg q]
          exact hR.2.2.1 j hj
      · rw [a42 j] at hn
        obtain ⟨d1, d2⟩ := b5 j hn
        rw [a43 j, b3 j, if_neg d2]
        exact hR.2.2.2 j hj d1
    · exact absurd b1 c1
  · rcases a2 with ⟨c1, -⟩ | ⟨-, rfl⟩
    · exact absurd c1 b1
    · exact hR
theorem lwR_restore {i : Int32} {r r' : Option zV} {μ μ1 μ2 : xM} (h1 : Ex gx xq_99 [.inr (.inl (some 0)), .inl i] μ r μ1) (h2 : Ex gx xq_182 [.inr (.inl (some 75)), .inl i] μ1 r' μ2) (hR : lwR μ) : (∃ x : Int32, r = some (.inl x) ∧ r' = some (.inl x)) ∧ lwR μ2 := by
  refine ⟨?_, lwR_2 xm_99 (by decide +kernel) xm_182 (by decide +kernel) h1 h2 hR⟩
  have k1 := kR_ok (c := 0) (mn := 99) (by decide) xm_99 (by decide +kernel) h1 hR.2.1
  have hm := ex_mrestore h2
  rw [k1.2.2.1] at hm
  have z : (0 : Int32).toInt = 0 := by decide
  rcases ex_crestore h1 with ⟨rfl, b1, b2⟩ | ⟨rfl, b1⟩
  · rcases hm with ⟨rfl, -⟩ | ⟨-, c1⟩
    · exact ⟨_, rfl, rfl⟩
    · rw [← hR.2.2.1 _ (by omega)] at c1
      exact absurd c1 (fun q => q.elim (fun q => q b1) (fun q => b2 q))
  · rcases hm with ⟨-, c1, c2⟩ | ⟨rfl, -⟩
    · rw [← hR.2.2.1 _ (by omega)] at c2
      rcases b1 with b1 | b1 | b1
      · exact absurd c1 b1
      · exact absurd b1 c2
      · exact absurd (by rw [hR.2.2.2 _ (by omega) b1]; exact z) c2
    · exact ⟨_, rfl, rfl⟩
