/-! ===== the reference's day ===== -/
theorem row_s {ω : xM} {j : Nat} {v : Int32} {ρ : Nat → Int32} (h : (fun x => ω.1 108 x) = ρ) : (fun x => (xpi ω 108 j v).1 108 x) = pUp ρ j v := row_i.trans (by rw [h])
theorem row_o {ω : xM} {k j : Nat} {v : Int32} {ρ : Nat → Int32} (hk : ¬ k = 108) (h : (fun x => ω.1 108 x) = ρ) : (fun x => (xpi ω k j v).1 108 x) = ρ := by
  rw [← h]
  funext x
  exact xpi_ne (fun q => hk q.1.symm)
theorem row_v {ω : xM} {ρ : Nat → Int32} (h : (fun x => ω.1 108 x) = ρ) (j : Nat) : ω.1 108 j = ρ j := congrFun h j
/-- what a day may change -/
def gP9 (μ μ' : xM) : Prop := (∀ k j, k ≠ 105 → k ≠ 106 → k ≠ 108 → k ≠ 109 → k ≠ 110 → k ≠ 111 → ¬ (k = 75 ∧ j = 58) → μ'.1 k j = μ.1 k j) ∧ μ'.2 = μ.2
theorem gP9_rf {μ : xM} : gP9 μ μ := ⟨fun _ _ _ _ _ _ _ _ _ => rfl, rfl⟩
theorem gP9_tr {μ ν ω : xM} (h1 : gP9 μ ν) (h2 : gP9 ν ω) : gP9 μ ω := ⟨fun k j a b c d e f g => (h2.1 k j a b c d e f g).trans (h1.1 k j a b c d e f g), h2.2.trans h1.2⟩
theorem gP9_i {μ ν : xM} {k j : Nat} {v : Int32} (h : gP9 μ ν) (hk : k = 108 ∨ k = 109 ∨ k = 110 ∨ k = 111) : gP9 μ (xpi ν k j v) := ⟨fun x i a b c d e f g => (xpi_ne (fun q => by omega)).trans (h.1 x i a b c d e f g), h.2⟩
theorem gP9_M {μ ν : xM} (h : gM μ ν) : gP9 μ ν := ⟨fun k j a b _ _ _ _ g => h.1 k j a b g, h.2⟩
theorem rS9_P {S : kSt} {s : Nat} {μ ν : xM} (h : rS9 S s μ) (e : gP9 μ ν) : rS9 S s ν := rS9_cg h (fun k j a b => e.1 k j (by omega) (by omega) (by omega) (by omega) (by omega) (by omega) (by omega)) (e.1 75 2 (by decide) (by decide) (by decide) (by decide) (by decide) (by decide) (by decide))
theorem gP9_o {μ ν : xM} (h : (∀ k j, k ≠ 108 → k ≠ 109 → ν.1 k j = μ.1 k j) ∧ ν.2 = μ.2) : gP9 μ ν := ⟨fun k j _ _ c d _ _ _ => h.1 k j c d, h.2⟩
abbrev xq_198 : xP := (⟨"CapitalCaseModel", "wears", "(I)V"⟩, prog_14_method_68_code, 2, none)
abbrev xq_191 : xP := (⟨"CapitalCaseModel", "thievesCome", "()V"⟩, prog_14_method_69_code, 4, none)
abbrev xq_131 : xP := (⟨"CapitalCaseModel", "dayGoes", "()V"⟩, prog_14_method_70_code, 2, none)
abbrev xq_143 : xP := (⟨"CapitalCaseModel", "goes", "(I)V"⟩, prog_14_method_71_code, 3, none)
set_option maxRecDepth 10000 in
set_option maxHeartbeats 4000000 in
theorem ex_mwearsAt {x : Int32} {cn s : Nat} {S : kSt} {μ μ' : xM} {r : Option zV} (h0 : Ex gx xq_198 [.inr (.inl (some 75)), .inl x] μ r μ') (hS : rS9 S s μ) (hx : x.toInt = (cn : Int)) (hc : cn < 40) : r = none ∧ ((∀ k j, k ≠ 108 → k ≠ 109 → μ'.1 k j = μ.1 k j) ∧ μ'.2 = μ.2) ∧ (fun x => μ'.1 108 x) = pW1 S.2.2.1.1 (μ.1 110 cn) cn (fun x => μ.1 108 x) ∧ (∀ j, ¬ j = cn → μ'.1 109 j = μ.1 109 j) ∧ ((μ'.1 109 cn = 1 ∧ pGn S.2.2.1.1 (μ.1 110 cn) cn (fun x => μ.1 108 x)) ∨ (μ'.1 109 cn = 0 ∧ ¬ pGn S.2.2.1.1 (μ.1 110 cn) cn (fun x => μ.1 108 x))) := by
  obtain ⟨n, h⟩ := tx_in (L := [some (.inr (.inl (some 75))), some (.inl x)]) h0 rfl
  have e40 : (40 : Int32).toInt = 40 := by decide
  have e80 : (80 : Int32).toInt = 80 := by decide
  have ix0 : x.toInt.toNat = cn := by omega
  have ix4 : ((40 : Int32) + x).toInt.toNat = 40 + cn := by
    have : ((40 : Int32) + x).toInt = 40 + (cn : Int) := by rw [an_add (by rw [e40]; omega) (by rw [e40]; omega), e40, hx]
    omega
  have ix8 : ((80 : Int32) + x).toInt.toNat = 80 + cn := by
    have : ((80 : Int32) + x).toInt = 80 + (cn : Int) := by rw [an_add (by rw [e80]; omega) (by rw [e80]; omega), e80, hx]
    omega
  have hsp : (μ.1 91 (μ.1 75 2).toInt.toNat).toInt = S.2.2.1.1 := by
    rw [show (μ.1 75 2).toInt.toNat = s by have := hS.2.1.2; omega]
    exact hS.2.2.1.1.2.2.1
  have b0 : ((0 : Int32).toInt8.toInt32) = 0 := by decide
  have b1 : ((1 : Int32).toInt8.toInt32) = 1 := by decide
  replace h := tx_aload_n (p' := 1) h em198_0 rfl rfl
  replace h := tx_getc (c := 12) (j := 60) (p' := 4) h em198_1 ((congrFun xo_12 119).trans rfl) rfl rfl rfl
  replace h := tx_iload_n (p' := 5) h em198_4 rfl rfl
  replace h := tx_iconst (v := 0) (p' := 6) h em198_5 (by decide +kernel) rfl
  obtain ⟨hb6, h⟩ := tx_bast (len := 40) (p' := 7) h em198_6 rfl rfl
  replace hb6 : (0 : Int) ≤ x.toInt ∧ x.toInt < 40 := hb6
  replace h := tx_aload_n (p' := 8) h em198_7 rfl rfl
  replace h := tx_getc (c := 12) (j := 0) (p' := 11) h em198_8 ((congrFun xo_12 116).trans rfl) rfl rfl rfl
  replace h := tx_bipush (v := 40) (p' := 13) h em198_11 (by decide +kernel) rfl
  replace h := tx_iload_n (p' := 14) h em198_13 rfl rfl
  replace h := tx_iadd (p' := 15) h em198_14 rfl
  obtain ⟨hb15, h⟩ := tx_iald (len := 390) (p' := 16) h em198_15 rfl rfl
  replace hb15 : (0 : Int) ≤ ((40 : Int32) + x).toInt ∧ ((40 : Int32) + x).toInt < 390 := hb15
  replace h : eT xq_198 _ 16 [some (.inr (.inl (some 75))), some (.inl x)] [.inl (μ.1 108 ((40 : Int32) + x).toInt.toNat)] (xpi μ 109 x.toInt.toNat ((0 : Int32)).toInt8.toInt32) r μ' := h
  rcases tx_if (t := 20) (p' := 19) h em198_16 (by decide) rfl with ⟨c16, h⟩ | ⟨c16, h⟩
  · replace c16 : ¬ (μ.1 108 ((40 : Int32) + x).toInt.toNat).toInt = 0 := c16
    replace h := tx_aload_n (p' := 21) h em198_20 rfl rfl
    replace h := tx_getc (c := 12) (j := 0) (p' := 24) h em198_21 ((congrFun xo_12 116).trans rfl) rfl rfl rfl
    replace h := tx_bipush (v := 80) (p' := 26) h em198_24 (by decide +kernel) rfl
    replace h := tx_iload_n (p' := 27) h em198_26 rfl rfl
    replace h := tx_iadd (p' := 28) h em198_27 rfl
    replace h := tx_aload_n (p' := 29) h em198_28 rfl rfl
    replace h := tx_getc (c := 12) (j := 0) (p' := 32) h em198_29 ((congrFun xo_12 116).trans rfl) rfl rfl rfl
    replace h := tx_bipush (v := 80) (p' := 34) h em198_32 (by decide +kernel) rfl
    replace h := tx_iload_n (p' := 35) h em198_34 rfl rfl
    replace h := tx_iadd (p' := 36) h em198_35 rfl
    obtain ⟨hb36, h⟩ := tx_iald (len := 390) (p' := 37) h em198_36 rfl rfl
    replace hb36 : (0 : Int) ≤ ((80 : Int32) + x).toInt ∧ ((80 : Int32) + x).toInt < 390 := hb36
    replace h : eT xq_198 _ 37 [some (.inr (.inl (some 75))), some (.inl x)] [.inl (μ.1 108 ((80 : Int32) + x).toInt.toNat), .inl ((80 : Int32) + x), .inr (.inl (some 108))] (xpi μ 109 x.toInt.toNat ((0 : Int32)).toInt8.toInt32) r μ' := h
    replace h := tx_aload_n (p' := 38) h em198_37 rfl rfl
    replace h := tx_getc (c := 12) (j := 0) (p' := 41) h em198_38 ((congrFun xo_12 116).trans rfl) rfl rfl rfl
    replace h := tx_bipush (v := 40) (p' := 43) h em198_41 (by decide +kernel) rfl
    replace h := tx_iload_n (p' := 44) h em198_43 rfl rfl
    replace h := tx_iadd (p' := 45) h em198_44 rfl
    obtain ⟨hb45, h⟩ := tx_iald (len := 390) (p' := 46) h em198_45 rfl rfl
    replace hb45 : (0 : Int) ≤ ((40 : Int32) + x).toInt ∧ ((40 : Int32) + x).toInt < 390 := hb45
    replace h : eT xq_198 _ 46 [some (.inr (.inl (some 75))), some (.inl x)] [.inl (μ.1 108 ((40 : Int32) + x).toInt.toNat), .inl (μ.1 108 ((80 : Int32) + x).toInt.toNat), .inl ((80 : Int32) + x), .inr (.inl (some 108))] (xpi μ 109 x.toInt.toNat ((0 : Int32)).toInt8.toInt32) r μ' := h
    replace h := tx_aload_n (p' := 47) h em198_46 rfl rfl
    replace h := tx_getc (c := 12) (j := 15) (p' := 50) h em198_47 ((congrFun xo_12 122).trans rfl) rfl rfl rfl
    replace h := tx_iload_n (p' := 51) h em198_50 rfl rfl
    obtain ⟨hb51, h⟩ := tx_iald (len := 40) (p' := 52) h em198_51 rfl rfl
    replace hb51 : (0 : Int) ≤ x.toInt ∧ x.toInt < 40 := hb51
    replace h : eT xq_198 _ 52 [some (.inr (.inl (some 75))), some (.inl x)] [.inl (μ.1 110 x.toInt.toNat), .inl (μ.1 108 ((40 : Int32) + x).toInt.toNat), .inl (μ.1 108 ((80 : Int32) + x).toInt.toNat), .inl ((80 : Int32) + x), .inr (.inl (some 108))] (xpi μ 109 x.toInt.toNat ((0 : Int32)).toInt8.toInt32) r μ' := h
    replace h := tx_imul (p' := 53) h em198_52 rfl
    replace h := tx_iadd (p' := 54) h em198_53 rfl
    replace h := tx_iconst (v := 0) (p' := 55) h em198_54 (by decide +kernel) rfl
    replace h := tx_sipush (v := 999) (p' := 58) h em198_55 (by decide +kernel) rfl
    obtain ⟨r58, μ58, hE58, h⟩ := tx_invS (na := 3) (mn := 145) (as := [.inl ((μ.1 108 ((80 : Int32) + x).toInt.toNat) + ((μ.1 108 ((40 : Int32) + x).toInt.toNat) * (μ.1 110 x.toInt.toNat))), .inl (0 : Int32), .inl (999 : Int32)]) (rest := [.inl ((80 : Int32) + x), .inr (.inl (some 108))]) (p' := 61) h em198_58 ((congrFun xo_12 362).trans rfl) xm_145 rfl rfl
    obtain ⟨hmh, rfl⟩ := ex_held hE58
    rw [hmh] at h
    replace h : eT xq_198 _ 61 [some (.inr (.inl (some 75))), some (.inl x)] [.inl (pHd ((μ.1 108 ((80 : Int32) + x).toInt.toNat) + ((μ.1 108 ((40 : Int32) + x).toInt.toNat) * (μ.1 110 x.toInt.toNat))) (0 : Int32) (999 : Int32)), .inl ((80 : Int32) + x), .inr (.inl (some 108))] (xpi μ 109 x.toInt.toNat ((0 : Int32)).toInt8.toInt32) r μ' := h
    obtain ⟨hb61, h⟩ := tx_iast (len := 390) (p' := 62) h em198_61 rfl rfl
    replace hb61 : (0 : Int) ≤ ((80 : Int32) + x).toInt ∧ ((80 : Int32) + x).toInt < 390 := hb61
    replace h := tx_aload_n (p' := 63) h em198_62 rfl rfl
    replace h := tx_getc (c := 12) (j := 0) (p' := 66) h em198_63 ((congrFun xo_12 116).trans rfl) rfl rfl rfl
    replace h := tx_bipush (v := 80) (p' := 68) h em198_66 (by decide +kernel) rfl
    replace h := tx_iload_n (p' := 69) h em198_68 rfl rfl
    replace h := tx_iadd (p' := 70) h em198_69 rfl
    obtain ⟨hb70, h⟩ := tx_iald (len := 390) (p' := 71) h em198_70 rfl rfl
    replace hb70 : (0 : Int) ≤ ((80 : Int32) + x).toInt ∧ ((80 : Int32) + x).toInt < 390 := hb70
    replace h := tx_aload_n (p' := 72) h em198_71 rfl rfl
    replace h := tx_getc (c := 12) (j := 40) (p' := 75) h em198_72 ((congrFun xo_12 64).trans rfl) rfl rfl rfl
    replace h := tx_aload_n (p' := 76) h em198_75 rfl rfl
    replace h := tx_getf (c := 12) (j := 2) (p' := 79) h em198_76 ((congrFun xo_12 230).trans rfl) rfl rfl (by decide) rfl
    replace h : eT xq_198 _ 79 [some (.inr (.inl (some 75))), some (.inl x)] [.inl (μ.1 75 2), .inr (.inl (some 91)), .inl ((xpi (xpi μ 109 x.toInt.toNat ((0 : Int32)).toInt8.toInt32) 108 ((80 : Int32) + x).toInt.toNat (pHd ((μ.1 108 ((80 : Int32) + x).toInt.toNat) + ((μ.1 108 ((40 : Int32) + x).toInt.toNat) * (μ.1 110 x.toInt.toNat))) (0 : Int32) (999 : Int32))).1 108 ((80 : Int32) + x).toInt.toNat)] (xpi (xpi μ 109 x.toInt.toNat ((0 : Int32)).toInt8.toInt32) 108 ((80 : Int32) + x).toInt.toNat (pHd ((μ.1 108 ((80 : Int32) + x).toInt.toNat) + ((μ.1 108 ((40 : Int32) + x).toInt.toNat) * (μ.1 110 x.toInt.toNat))) (0 : Int32) (999 : Int32))) r μ' := h
    obtain ⟨hb79, h⟩ := tx_iald (len := 2) (p' := 80) h em198_79 rfl rfl
    replace hb79 : (0 : Int) ≤ (μ.1 75 2).toInt ∧ (μ.1 75 2).toInt < 2 := hb79
    replace h : eT xq_198 _ 80 [some (.inr (.inl (some 75))), some (.inl x)] [.inl (μ.1 91 (μ.1 75 2).toInt.toNat), .inl ((xpi (xpi μ 109 x.toInt.toNat ((0 : Int32)).toInt8.toInt32) 108 ((80 : Int32) + x).toInt.toNat (pHd ((μ.1 108 ((80 : Int32) + x).toInt.toNat) + ((μ.1 108 ((40 : Int32) + x).toInt.toNat) * (μ.1 110 x.toInt.toNat))) (0 : Int32) (999 : Int32))).1 108 ((80 : Int32) + x).toInt.toNat)] (xpi (xpi μ 109 x.toInt.toNat ((0 : Int32)).toInt8.toInt32) 108 ((80 : Int32) + x).toInt.toNat (pHd ((μ.1 108 ((80 : Int32) + x).toInt.toNat) + ((μ.1 108 ((40 : Int32) + x).toInt.toNat) * (μ.1 110 x.toInt.toNat))) (0 : Int32) (999 : Int32))) r μ' := h
    rcases tx_icmp (t := 84) (p' := 83) h em198_80 (by decide) rfl with ⟨c80, h⟩ | ⟨c80, h⟩
    · replace c80 : (μ.1 91 (μ.1 75 2).toInt.toNat).toInt ≤ ((xpi (xpi μ 109 x.toInt.toNat ((0 : Int32)).toInt8.toInt32) 108 ((80 : Int32) + x).toInt.toNat (pHd ((μ.1 108 ((80 : Int32) + x).toInt.toNat) + ((μ.1 108 ((40 : Int32) + x).toInt.toNat) * (μ.1 110 x.toInt.toNat))) (0 : Int32) (999 : Int32))).1 108 ((80 : Int32) + x).toInt.toNat).toInt := c80
      replace h := tx_aload_n (p' := 85) h em198_84 rfl rfl
      replace h := tx_getc (c := 12) (j := 0) (p' := 88) h em198_85 ((congrFun xo_12 116).trans rfl) rfl rfl rfl
      replace h := tx_bipush (v := 80) (p' := 90) h em198_88 (by decide +kernel) rfl
      replace h := tx_iload_n (p' := 91) h em198_90 rfl rfl
      replace h := tx_iadd (p' := 92) h em198_91 rfl
      replace h := tx_iconst (v := 0) (p' := 93) h em198_92 (by decide +kernel) rfl
      obtain ⟨hb93, h⟩ := tx_iast (len := 390) (p' := 94) h em198_93 rfl rfl
      replace hb93 : (0 : Int) ≤ ((80 : Int32) + x).toInt ∧ ((80 : Int32) + x).toInt < 390 := hb93
      replace h := tx_aload_n (p' := 95) h em198_94 rfl rfl
      replace h := tx_getc (c := 12) (j := 0) (p' := 98) h em198_95 ((congrFun xo_12 116).trans rfl) rfl rfl rfl
      replace h := tx_iload_n (p' := 99) h em198_98 rfl rfl
      obtain ⟨hb99, h⟩ := tx_iald (len := 390) (p' := 100) h em198_99 rfl rfl
      replace hb99 : (0 : Int) ≤ x.toInt ∧ x.toInt < 390 := hb99
      rcases tx_if (t := 104) (p' := 103) h em198_100 (by decide) rfl with ⟨c100, h⟩ | ⟨c100, h⟩
      · replace c100 : ¬ ((xpi (xpi (xpi μ 109 x.toInt.toNat ((0 : Int32)).toInt8.toInt32) 108 ((80 : Int32) + x).toInt.toNat (pHd ((μ.1 108 ((80 : Int32) + x).toInt.toNat) + ((μ.1 108 ((40 : Int32) + x).toInt.toNat) * (μ.1 110 x.toInt.toNat))) (0 : Int32) (999 : Int32))) 108 ((80 : Int32) + x).toInt.toNat (0 : Int32)).1 108 x.toInt.toNat).toInt = 0 := c100
        replace h := tx_aload_n (p' := 105) h em198_104 rfl rfl
        replace h := tx_getc (c := 12) (j := 0) (p' := 108) h em198_105 ((congrFun xo_12 116).trans rfl) rfl rfl rfl
        replace h := tx_iload_n (p' := 109) h em198_108 rfl rfl
        replace h := tx_dup2 (p' := 110) h em198_109 rfl
        obtain ⟨hb110, h⟩ := tx_iald (len := 390) (p' := 111) h em198_110 rfl rfl
        replace hb110 : (0 : Int) ≤ x.toInt ∧ x.toInt < 390 := hb110
        replace h := tx_iconst (v := 1) (p' := 112) h em198_111 (by decide +kernel) rfl
        replace h := tx_isub (p' := 113) h em198_112 rfl
        obtain ⟨hb113, h⟩ := tx_iast (len := 390) (p' := 114) h em198_113 rfl rfl
        replace hb113 : (0 : Int) ≤ x.toInt ∧ x.toInt < 390 := hb113
        replace h := tx_aload_n (p' := 115) h em198_114 rfl rfl
        replace h := tx_getc (c := 12) (j := 0) (p' := 118) h em198_115 ((congrFun xo_12 116).trans rfl) rfl rfl rfl
        replace h := tx_sipush (v := 388) (p' := 121) h em198_118 (by decide +kernel) rfl
        replace h := tx_dup2 (p' := 122) h em198_121 rfl
        obtain ⟨hb122, h⟩ := tx_iald (len := 390) (p' := 123) h em198_122 rfl rfl
        replace hb122 : (0 : Int) ≤ 388 ∧ (388 : Int) < 390 := hb122
        replace h : eT xq_198 _ 123 [some (.inr (.inl (some 75))), some (.inl x)] [.inl ((xpi (xpi (xpi (xpi μ 109 x.toInt.toNat ((0 : Int32)).toInt8.toInt32) 108 ((80 : Int32) + x).toInt.toNat (pHd ((μ.1 108 ((80 : Int32) + x).toInt.toNat) + ((μ.1 108 ((40 : Int32) + x).toInt.toNat) * (μ.1 110 x.toInt.toNat))) (0 : Int32) (999 : Int32))) 108 ((80 : Int32) + x).toInt.toNat (0 : Int32)) 108 x.toInt.toNat (((xpi (xpi (xpi μ 109 x.toInt.toNat ((0 : Int32)).toInt8.toInt32) 108 ((80 : Int32) + x).toInt.toNat (pHd ((μ.1 108 ((80 : Int32) + x).toInt.toNat) + ((μ.1 108 ((40 : Int32) + x).toInt.toNat) * (μ.1 110 x.toInt.toNat))) (0 : Int32) (999 : Int32))) 108 ((80 : Int32) + x).toInt.toNat (0 : Int32)).1 108 x.toInt.toNat) - (1 : Int32))).1 108 388), .inl (388 : Int32), .inr (.inl (some 108))] (xpi (xpi (xpi (xpi μ 109 x.toInt.toNat ((0 : Int32)).toInt8.toInt32) 108 ((80 : Int32) + x).toInt.toNat (pHd ((μ.1 108 ((80 : Int32) + x).toInt.toNat) + ((μ.1 108 ((40 : Int32) + x).toInt.toNat) * (μ.1 110 x.toInt.toNat))) (0 : Int32) (999 : Int32))) 108 ((80 : Int32) + x).toInt.toNat (0 : Int32)) 108 x.toInt.toNat (((xpi (xpi (xpi μ 109 x.toInt.toNat ((0 : Int32)).toInt8.toInt32) 108 ((80 : Int32) + x).toInt.toNat (pHd ((μ.1 108 ((80 : Int32) + x).toInt.toNat) + ((μ.1 108 ((40 : Int32) + x).toInt.toNat) * (μ.1 110 x.toInt.toNat))) (0 : Int32) (999 : Int32))) 108 ((80 : Int32) + x).toInt.toNat (0 : Int32)).1 108 x.toInt.toNat) - (1 : Int32))) r μ' := h
        replace h := tx_iconst (v := 1) (p' := 124) h em198_123 (by decide +kernel) rfl
        replace h := tx_iadd (p' := 125) h em198_124 rfl
        obtain ⟨hb125, h⟩ := tx_iast (len := 390) (p' := 126) h em198_125 rfl rfl
        replace hb125 : (0 : Int) ≤ 388 ∧ (388 : Int) < 390 := hb125
        replace h := tx_aload_n (p' := 127) h em198_126 rfl rfl
        replace h := tx_getc (c := 12) (j := 60) (p' := 130) h em198_127 ((congrFun xo_12 119).trans rfl) rfl rfl rfl
        replace h := tx_iload_n (p' := 131) h em198_130 rfl rfl
        replace h := tx_iconst (v := 1) (p' := 132) h em198_131 (by decide +kernel) rfl
        obtain ⟨hb132, h⟩ := tx_bast (len := 40) (p' := 133) h em198_132 rfl rfl
        replace hb132 : (0 : Int) ≤ x.toInt ∧ x.toInt < 40 := hb132
        obtain ⟨rfl, hμ⟩ := tx_return h em198_133
        replace hμ : μ' = (xpi (xpi (xpi (xpi (xpi (xpi μ 109 x.toInt.toNat ((0 : Int32)).toInt8.toInt32) 108 ((80 : Int32) + x).toInt.toNat (pHd ((μ.1 108 ((80 : Int32) + x).toInt.toNat) + ((μ.1 108 ((40 : Int32) + x).toInt.toNat) * (μ.1 110 x.toInt.toNat))) (0 : Int32) (999 : Int32))) 108 ((80 : Int32) + x).toInt.toNat (0 : Int32)) 108 x.toInt.toNat (((xpi (xpi (xpi μ 109 x.toInt.toNat ((0 : Int32)).toInt8.toInt32) 108 ((80 : Int32) + x).toInt.toNat (pHd ((μ.1 108 ((80 : Int32) + x).toInt.toNat) + ((μ.1 108 ((40 : Int32) + x).toInt.toNat) * (μ.1 110 x.toInt.toNat))) (0 : Int32) (999 : Int32))) 108 ((80 : Int32) + x).toInt.toNat (0 : Int32)).1 108 x.toInt.toNat) - (1 : Int32))) 108 388 (((xpi (xpi (xpi (xpi μ 109 x.toInt.toNat ((0 : Int32)).toInt8.toInt32) 108 ((80 : Int32) + x).toInt.toNat (pHd ((μ.1 108 ((80 : Int32) + x).toInt.toNat) + ((μ.1 108 ((40 : Int32) + x).toInt.toNat) * (μ.1 110 x.toInt.toNat))) (0 : Int32) (999 : Int32))) 108 ((80 : Int32) + x).toInt.toNat (0 : Int32)) 108 x.toInt.toNat (((xpi (xpi (xpi μ 109 x.toInt.toNat ((0 : Int32)).toInt8.toInt32) 108 ((80 : Int32) + x).toInt.toNat (pHd ((μ.1 108 ((80 : Int32) + x).toInt.toNat) + ((μ.1 108 ((40 : Int32) + x).toInt.toNat) * (μ.1 110 x.toInt.toNat))) (0 : Int32) (999 : Int32))) 108 ((80 : Int32) + x).toInt.toNat (0 : Int32)).1 108 x.toInt.toNat) - (1 : Int32))).1 108 388) + (1 : Int32))) 109 x.toInt.toNat ((1 : Int32)).toInt8.toInt32) := hμ
        rw [ix4] at c16
        simp only [ix0, ix4, ix8, b0, b1] at hμ
        have r1 := row_o (ω := μ) (k := 109) (j := cn) (v := (0 : Int32)) (by decide) (rfl : (fun x => μ.1 108 x) = fun x => μ.1 108 x)
        have hz : ¬ μ.1 108 (40 + cn) = 0 := fun q => by rw [q] at c16; exact c16 (by decide)
        have r2 := row_s (j := 80 + cn) (v := pHd ((μ.1 108 (80 + cn)) + ((μ.1 108 (40 + cn)) * (μ.1 110 cn))) (0 : Int32) (999 : Int32)) r1
        simp only [ix0, ix4, ix8, hsp, b0] at c80
        have v2 := row_v r2 (80 + cn)
        rw [pUp_at] at v2
        rw [v2] at c80
        have r3 := row_s (j := 80 + cn) (v := (0 : Int32)) r2
        have v3 := row_v r3 cn
        rw [pUp_ne (by omega), pUp_ne (by omega)] at v3
        simp only [ix0, ix4, ix8, b0] at c100
        rw [v3] at c100
        have hy : ¬ μ.1 108 cn = 0 := fun q => by
          rw [q] at c100
          exact c100 (by decide)
        rw [v3] at hμ
        have r4 := row_s (j := cn) (v := μ.1 108 cn - (1 : Int32)) r3
        have v4 := row_v r4 388
        rw [pUp_ne (by omega), pUp_ne (by omega), pUp_ne (by omega)] at v4
        rw [v4] at hμ
        have r5 := row_o (k := 109) (j := cn) (v := (1 : Int32)) (by decide) (row_s (j := 388) (v := μ.1 108 388 + (1 : Int32)) r4)
        refine ⟨rfl, ⟨fun k j a b => by rw [hμ]; exact (xpi_ne (fun q => b q.1)).trans ((xpi_ne (fun q => a q.1)).trans ((xpi_ne (fun q => a q.1)).trans ((xpi_ne (fun q => a q.1)).trans ((xpi_ne (fun q => a q.1)).trans (xpi_ne (fun q => b q.1)))))), by rw [hμ]; rfl⟩, ?_, fun j hj => ?_, Or.inl ⟨?_, hz, (show ¬ (pHd ((μ.1 108 (80 + cn)) + ((μ.1 108 (40 + cn)) * (μ.1 110 cn))) (0 : Int32) (999 : Int32)).toInt < S.2.2.1.1 from by omega), hy⟩⟩
        · rw [hμ, r5]
          unfold pW1 pWx
          rw [if_neg (show ¬ (fun x => μ.1 108 x) (40 + cn) = 0 from hz)]
          rw [if_neg (show ¬ (pHd ((μ.1 108 (80 + cn)) + ((μ.1 108 (40 + cn)) * (μ.1 110 cn))) (0 : Int32) (999 : Int32)).toInt < S.2.2.1.1 from by omega)]
          unfold pLs
          rw [pUp_ne (by omega), pUp_ne (by omega)]
          rw [if_neg (show ¬ (fun x => μ.1 108 x) cn = 0 from hy), pUp_ne (by omega), pUp_ne (by omega)]
        · rw [hμ, xpi_ne (fun q => hj q.2), xpi_ne (by omega), xpi_ne (by omega), xpi_ne (by omega), xpi_ne (by omega)]; exact xpi_ne (fun q => hj q.2)
        · rw [hμ, xpi_at]
      · replace c100 : ¬ ¬ ((xpi (xpi (xpi μ 109 x.toInt.toNat ((0 : Int32)).toInt8.toInt32) 108 ((80 : Int32) + x).toInt.toNat (pHd ((μ.1 108 ((80 : Int32) + x).toInt.toNat) + ((μ.1 108 ((40 : Int32) + x).toInt.toNat) * (μ.1 110 x.toInt.toNat))) (0 : Int32) (999 : Int32))) 108 ((80 : Int32) + x).toInt.toNat (0 : Int32)).1 108 x.toInt.toNat).toInt = 0 := c100
        obtain ⟨rfl, hμ⟩ := tx_return h em198_103
        replace hμ : μ' = (xpi (xpi (xpi μ 109 x.toInt.toNat ((0 : Int32)).toInt8.toInt32) 108 ((80 : Int32) + x).toInt.toNat (pHd ((μ.1 108 ((80 : Int32) + x).toInt.toNat) + ((μ.1 108 ((40 : Int32) + x).toInt.toNat) * (μ.1 110 x.toInt.toNat))) (0 : Int32) (999 : Int32))) 108 ((80 : Int32) + x).toInt.toNat (0 : Int32)) := hμ
        rw [ix4] at c16
        simp only [ix0, ix4, ix8, b0, b1] at hμ
        have r1 := row_o (ω := μ) (k := 109) (j := cn) (v := (0 : Int32)) (by decide) (rfl : (fun x => μ.1 108 x) = fun x => μ.1 108 x)
        have hz : ¬ μ.1 108 (40 + cn) = 0 := fun q => by rw [q] at c16; exact c16 (by decide)
        have r2 := row_s (j := 80 + cn) (v := pHd ((μ.1 108 (80 + cn)) + ((μ.1 108 (40 + cn)) * (μ.1 110 cn))) (0 : Int32) (999 : Int32)) r1
        simp only [ix0, ix4, ix8, hsp, b0] at c80
        have v2 := row_v r2 (80 + cn)
        rw [pUp_at] at v2
        rw [v2] at c80
        have r3 := row_s (j := 80 + cn) (v := (0 : Int32)) r2
        have v3 := row_v r3 cn
        rw [pUp_ne (by omega), pUp_ne (by omega)] at v3
        simp only [ix0, ix4, ix8, b0] at c100
        rw [v3] at c100
        have hy : μ.1 108 cn = 0 := Int32.toInt_inj.mp ((Decidable.of_not_not c100).trans (by decide))
        refine ⟨rfl, ⟨fun k j a b => by rw [hμ]; exact (xpi_ne (fun q => a q.1)).trans ((xpi_ne (fun q => a q.1)).trans (xpi_ne (fun q => b q.1))), by rw [hμ]; rfl⟩, ?_, fun j hj => ?_, Or.inr ⟨?_, fun q => q.2.2 hy⟩⟩
        · rw [hμ, r3]
          unfold pW1 pWx
          rw [if_neg (show ¬ (fun x => μ.1 108 x) (40 + cn) = 0 from hz)]
          rw [if_neg (show ¬ (pHd ((μ.1 108 (80 + cn)) + ((μ.1 108 (40 + cn)) * (μ.1 110 cn))) (0 : Int32) (999 : Int32)).toInt < S.2.2.1.1 from by omega)]
          unfold pLs
          rw [pUp_ne (by omega), pUp_ne (by omega)]
          rw [if_pos (show (fun x => μ.1 108 x) cn = 0 from hy)]
        · rw [hμ, xpi_ne (by omega), xpi_ne (by omega)]; exact xpi_ne (fun q => hj q.2)
        · rw [hμ, xpi_ne (by omega), xpi_ne (by omega), xpi_at]
    · replace c80 : ¬ (μ.1 91 (μ.1 75 2).toInt.toNat).toInt ≤ ((xpi (xpi μ 109 x.toInt.toNat ((0 : Int32)).toInt8.toInt32) 108 ((80 : Int32) + x).toInt.toNat (pHd ((μ.1 108 ((80 : Int32) + x).toInt.toNat) + ((μ.1 108 ((40 : Int32) + x).toInt.toNat) * (μ.1 110 x.toInt.toNat))) (0 : Int32) (999 : Int32))).1 108 ((80 : Int32) + x).toInt.toNat).toInt := c80
      obtain ⟨rfl, hμ⟩ := tx_return h em198_83
      replace hμ : μ' = (xpi (xpi μ 109 x.toInt.toNat ((0 : Int32)).toInt8.toInt32) 108 ((80 : Int32) + x).toInt.toNat (pHd ((μ.1 108 ((80 : Int32) + x).toInt.toNat) + ((μ.1 108 ((40 : Int32) + x).toInt.toNat) * (μ.1 110 x.toInt.toNat))) (0 : Int32) (999 : Int32))) := hμ
      rw [ix4] at c16
      simp only [ix0, ix4, ix8, b0, b1] at hμ
      have r1 := row_o (ω := μ) (k := 109) (j := cn) (v := (0 : Int32)) (by decide) (rfl : (fun x => μ.1 108 x) = fun x => μ.1 108 x)
      have hz : ¬ μ.1 108 (40 + cn) = 0 := fun q => by rw [q] at c16; exact c16 (by decide)
      have r2 := row_s (j := 80 + cn) (v := pHd ((μ.1 108 (80 + cn)) + ((μ.1 108 (40 + cn)) * (μ.1 110 cn))) (0 : Int32) (999 : Int32)) r1
      simp only [ix0, ix4, ix8, hsp, b0] at c80
      have v2 := row_v r2 (80 + cn)
      rw [pUp_at] at v2
      rw [v2] at c80
      refine ⟨rfl, ⟨fun k j a b => by rw [hμ]; exact (xpi_ne (fun q => a q.1)).trans (xpi_ne (fun q => b q.1)), by rw [hμ]; rfl⟩, ?_, fun j hj => ?_, Or.inr ⟨?_, fun q => q.2.1 (show (pHd ((μ.1 108 (80 + cn)) + ((μ.1 108 (40 + cn)) * (μ.1 110 cn))) (0 : Int32) (999 : Int32)).toInt < S.2.2.1.1 from by omega)⟩⟩
      · rw [hμ, r2]
        unfold pW1 pWx
        rw [if_neg (show ¬ (fun x => μ.1 108 x) (40 + cn) = 0 from hz)]
        rw [if_pos (show (pHd ((μ.1 108 (80 + cn)) + ((μ.1 108 (40 + cn)) * (μ.1 110 cn))) (0 : Int32) (999 : Int32)).toInt < S.2.2.1.1 from by omega)]
      · rw [hμ, xpi_ne (by omega)]; exact xpi_ne (fun q => hj q.2)
      · rw [hμ, xpi_ne (by omega), xpi_at]
  · replace c16 : ¬ ¬ (μ.1 108 ((40 : Int32) + x).toInt.toNat).toInt = 0 := c16
    obtain ⟨rfl, hμ⟩ := tx_return h em198_19
    replace hμ : μ' = (xpi μ 109 x.toInt.toNat ((0 : Int32)).toInt8.toInt32) := hμ
    rw [ix4] at c16
    simp only [ix0, ix4, ix8, b0, b1] at hμ
    have r1 := row_o (ω := μ) (k := 109) (j := cn) (v := (0 : Int32)) (by decide) (rfl : (fun x => μ.1 108 x) = fun x => μ.1 108 x)
    have hz : μ.1 108 (40 + cn) = 0 := Int32.toInt_inj.mp ((Decidable.of_not_not c16).trans (by decide))
    refine ⟨rfl, ⟨fun k j a b => by rw [hμ]; exact xpi_ne (fun q => b q.1), by rw [hμ]; rfl⟩, ?_, fun j hj => ?_, Or.inr ⟨?_, fun q => q.1 hz⟩⟩
    · rw [hμ, r1]; unfold pW1; rw [if_pos hz]
    · rw [hμ]; exact xpi_ne (fun q => hj q.2)
    · rw [hμ, xpi_at]
set_option maxRecDepth 10000 in
set_option maxHeartbeats 4000000 in
theorem ex_mthieves {S : kSt} {s : Nat} {μ μ' : xM} {r : Option zV} (h0 : Ex gx xq_191 [.inr (.inl (some 75))] μ r μ') (hS : rS9 S s μ) (hz : S.1.length = 0 → ∀ l, l < 8 → μ.1 108 l = 0) : r = none ∧ ((∀ k j, k ≠ 108 → μ'.1 k j = μ.1 k j) ∧ μ'.2 = μ.2) ∧ (fun x => μ'.1 108 x) = pLs (8 * pRi (fun x => μ.1 108 x) (pTl (μ.1 75 6) (fun x => μ.1 108 x)) S.1.length + pTl (μ.1 75 6) (fun x => μ.1 108 x)) (fun x => μ.1 108 x) := by
  obtain ⟨n, h⟩ := tx_in (L := [some (.inr (.inl (some 75))), none, none, none]) h0 rfl
  have e1i : (1 : Int32).toInt = 1 := by decide
  have hH5 := hS.1.1.1
  have hHH : (μ.1 84 (μ.1 75 2).toInt.toNat).toInt = (S.1.length : Int) := by
    rw [show (μ.1 75 2).toInt.toNat = s by have := hS.2.1.2; omega]
    exact hS.2.2.1.1.1
  have loop : ∀ (n k : Nat) (lt be i : Int32), eT xq_191 n 23 [some (.inr (.inl (some 75))), some (.inl lt), some (.inl be), some (.inl i)] [] μ r μ' → lt.toInt = (pTl (μ.1 75 6) (fun x => μ.1 108 x) : Int) → i.toInt = (k : Int) → k ≤ S.1.length → ((k = 0 ∧ be.toInt = -1) ∨ (0 < k ∧ be.toInt = (pRi (fun x => μ.1 108 x) (pTl (μ.1 75 6) (fun x => μ.1 108 x)) k : Int))) → r = none ∧ ((∀ k j, k ≠ 108 → μ'.1 k j = μ.1 k j) ∧ μ'.2 = μ.2) ∧ (fun x => μ'.1 108 x) = pLs (8 * pRi (fun x => μ.1 108 x) (pTl (μ.1 75 6) (fun x => μ.1 108 x)) S.1.length + pTl (μ.1 75 6) (fun x => μ.1 108 x)) (fun x => μ.1 108 x) := by
    intro n
    induction n using Nat.strongRecOn with
    | ind n ih =>
    intro k lt be i h hlt hi hk hb
    replace h := tx_iload_n (p' := 24) h em191_23 rfl rfl
    replace h := tx_aload_n (p' := 25) h em191_24 rfl rfl
    replace h := tx_getc (c := 12) (j := 3) (p' := 28) h em191_25 ((congrFun xo_12 43).trans rfl) rfl rfl rfl
    replace h := tx_aload_n (p' := 29) h em191_28 rfl rfl
    replace h := tx_getf (c := 12) (j := 2) (p' := 32) h em191_29 ((congrFun xo_12 230).trans rfl) rfl rfl (by decide) rfl
    obtain ⟨hb32, h⟩ := tx_iald (len := 2) (p' := 33) h em191_32 rfl rfl
    replace hb32 : (0 : Int) ≤ (μ.1 75 2).toInt ∧ (μ.1 75 2).toInt < 2 := hb32
    rcases tx_icmp (t := 73) (p' := 36) h em191_33 (by decide) rfl with ⟨c33, h⟩ | ⟨c33, h⟩
    · replace c33 : (μ.1 84 (μ.1 75 2).toInt.toNat).toInt ≤ i.toInt := c33
      replace h := tx_iload_n (p' := 74) h em191_73 rfl rfl
      rcases tx_if (t := 91) (p' := 77) h em191_74 (by decide) rfl with ⟨c74, h⟩ | ⟨c74, h⟩
      · replace c74 : be.toInt < 0 := c74
        obtain ⟨rfl, hμ⟩ := tx_return h em191_91
        have ek : k = S.1.length := by omega
        have k0 : S.1.length = 0 := by rcases hb with ⟨a, -⟩ | ⟨a, b⟩ <;> omega
        have hl7 := (pTl_b (sd := μ.1 75 6) (ρ := (fun x => μ.1 108 x))).2
        rw [hμ]
        refine ⟨rfl, ⟨fun _ _ _ => rfl, rfl⟩, ?_⟩
        unfold pLs
        rw [k0, if_pos (show (fun x => μ.1 108 x) (8 * pRi (fun x => μ.1 108 x) (pTl (μ.1 75 6) (fun x => μ.1 108 x)) 0 + pTl (μ.1 75 6) (fun x => μ.1 108 x)) = 0 from hz k0 _ (by show 8 * 0 + pTl (μ.1 75 6) (fun x => μ.1 108 x) < 8; omega))]
      · replace c74 : ¬ be.toInt < 0 := c74
        replace h := tx_aload_n (p' := 78) h em191_77 rfl rfl
        replace h := tx_getc (c := 12) (j := 0) (p' := 81) h em191_78 ((congrFun xo_12 116).trans rfl) rfl rfl rfl
        replace h := tx_bipush (v := 8) (p' := 83) h em191_81 (by decide +kernel) rfl
        replace h := tx_iload_n (p' := 84) h em191_83 rfl rfl
        replace h := tx_imul (p' := 85) h em191_84 rfl
        replace h := tx_iload_n (p' := 86) h em191_85 rfl rfl
        replace h := tx_iadd (p' := 87) h em191_86 rfl
        obtain ⟨hb87, h⟩ := tx_iald (len := 390) (p' := 88) h em191_87 rfl rfl
        replace hb87 : (0 : Int) ≤ (((8 : Int32) * be) + lt).toInt ∧ (((8 : Int32) * be) + lt).toInt < 390 := hb87
        rcases tx_if (t := 92) (p' := 91) h em191_88 (by decide) rfl with ⟨c88, h⟩ | ⟨c88, h⟩
        · replace c88 : ¬ (μ.1 108 (((8 : Int32) * be) + lt).toInt.toNat).toInt = 0 := c88
          replace h := tx_aload_n (p' := 93) h em191_92 rfl rfl
          replace h := tx_getc (c := 12) (j := 0) (p' := 96) h em191_93 ((congrFun xo_12 116).trans rfl) rfl rfl rfl
          replace h := tx_bipush (v := 8) (p' := 98) h em191_96 (by decide +kernel) rfl
          replace h := tx_iload_n (p' := 99) h em191_98 rfl rfl
          replace h := tx_imul (p' := 100) h em191_99 rfl
          replace h := tx_iload_n (p' := 101) h em191_100 rfl rfl
          replace h := tx_iadd (p' := 102) h em191_101 rfl
          replace h := tx_dup2 (p' := 103) h em191_102 rfl
          obtain ⟨hb103, h⟩ := tx_iald (len := 390) (p' := 104) h em191_103 rfl rfl
          replace hb103 : (0 : Int) ≤ (((8 : Int32) * be) + lt).toInt ∧ (((8 : Int32) * be) + lt).toInt < 390 := hb103
          replace h := tx_iconst (v := 1) (p' := 105) h em191_104 (by decide +kernel) rfl
          replace h := tx_isub (p' := 106) h em191_105 rfl
          obtain ⟨hb106, h⟩ := tx_iast (len := 390) (p' := 107) h em191_106 rfl rfl
          replace hb106 : (0 : Int) ≤ (((8 : Int32) * be) + lt).toInt ∧ (((8 : Int32) * be) + lt).toInt < 390 := hb106
          replace h := tx_aload_n (p' := 108) h em191_107 rfl rfl
          replace h := tx_getc (c := 12) (j := 0) (p' := 111) h em191_108 ((congrFun xo_12 116).trans rfl) rfl rfl rfl
          replace h := tx_sipush (v := 388) (p' := 114) h em191_111 (by decide +kernel) rfl
          replace h := tx_dup2 (p' := 115) h em191_114 rfl
          obtain ⟨hb115, h⟩ := tx_iald (len := 390) (p' := 116) h em191_115 rfl rfl
          replace hb115 : (0 : Int) ≤ 388 ∧ (388 : Int) < 390 := hb115
          replace h : eT xq_191 _ 116 [some (.inr (.inl (some 75))), some (.inl lt), some (.inl be), some (.inl i)] [.inl ((xpi μ 108 (((8 : Int32) * be) + lt).toInt.toNat ((μ.1 108 (((8 : Int32) * be) + lt).toInt.toNat) - (1 : Int32))).1 108 388), .inl (388 : Int32), .inr (.inl (some 108))] (xpi μ 108 (((8 : Int32) * be) + lt).toInt.toNat ((μ.1 108 (((8 : Int32) * be) + lt).toInt.toNat) - (1 : Int32))) r μ' := h
          replace h := tx_iconst (v := 1) (p' := 117) h em191_116 (by decide +kernel) rfl
          replace h := tx_iadd (p' := 118) h em191_117 rfl
          obtain ⟨hb118, h⟩ := tx_iast (len := 390) (p' := 119) h em191_118 rfl rfl
          replace hb118 : (0 : Int) ≤ 388 ∧ (388 : Int) < 390 := hb118
          obtain ⟨rfl, hμ⟩ := tx_return h em191_119
          replace hμ : μ' = (xpi (xpi μ 108 (((8 : Int32) * be) + lt).toInt.toNat ((μ.1 108 (((8 : Int32) * be) + lt).toInt.toNat) - (1 : Int32))) 108 388 (((xpi μ 108 (((8 : Int32) * be) + lt).toInt.toNat ((μ.1 108 (((8 : Int32) * be) + lt).toInt.toNat) - (1 : Int32))).1 108 388) + (1 : Int32))) := hμ
          have ek : k = S.1.length := by omega
          have hbe : be.toInt = (pRi (fun x => μ.1 108 x) (pTl (μ.1 75 6) (fun x => μ.1 108 x)) k : Int) := by rcases hb with ⟨-, b⟩ | ⟨-, b⟩ <;> omega
          have e8i : (8 : Int32).toInt = 8 := by decide
          have r4 : pRi (fun x => μ.1 108 x) (pTl (μ.1 75 6) (fun x => μ.1 108 x)) k ≤ 4 := pRi_5 (by omega)
          have hl7 := (pTl_b (sd := μ.1 75 6) (ρ := (fun x => μ.1 108 x))).2
          have b1 : ((8 : Int32) * be).toInt = 8 * (pRi (fun x => μ.1 108 x) (pTl (μ.1 75 6) (fun x => μ.1 108 x)) k : Int) := by rw [an_mul (by rw [e8i]; omega) (by rw [e8i]; omega), e8i, hbe]
          have b2 : ((8 : Int32) * be + lt).toInt.toNat = 8 * pRi (fun x => μ.1 108 x) (pTl (μ.1 75 6) (fun x => μ.1 108 x)) k + pTl (μ.1 75 6) (fun x => μ.1 108 x) := by
            have : ((8 : Int32) * be + lt).toInt = 8 * (pRi (fun x => μ.1 108 x) (pTl (μ.1 75 6) (fun x => μ.1 108 x)) k : Int) + pTl (μ.1 75 6) (fun x => μ.1 108 x) := by rw [an_add (by rw [b1]; omega) (by rw [b1]; omega), b1, hlt]
            omega
          rw [b2] at c88
          rw [b2] at hμ
          have hy : ¬ μ.1 108 (8 * pRi (fun x => μ.1 108 x) (pTl (μ.1 75 6) (fun x => μ.1 108 x)) k + pTl (μ.1 75 6) (fun x => μ.1 108 x)) = 0 := fun q => c88 (by rw [q]; decide)
          have r1 := row_s (ω := μ) (j := 8 * pRi (fun x => μ.1 108 x) (pTl (μ.1 75 6) (fun x => μ.1 108 x)) k + pTl (μ.1 75 6) (fun x => μ.1 108 x)) (v := μ.1 108 (8 * pRi (fun x => μ.1 108 x) (pTl (μ.1 75 6) (fun x => μ.1 108 x)) k + pTl (μ.1 75 6) (fun x => μ.1 108 x)) - (1 : Int32)) (rfl : (fun x => μ.1 108 x) = fun x => μ.1 108 x)
          have v1 := row_v r1 388
          rw [v1] at hμ
          have r2 := row_s (j := 388) (v := pUp (fun x => μ.1 108 x) (8 * pRi (fun x => μ.1 108 x) (pTl (μ.1 75 6) (fun x => μ.1 108 x)) k + pTl (μ.1 75 6) (fun x => μ.1 108 x)) (μ.1 108 (8 * pRi (fun x => μ.1 108 x) (pTl (μ.1 75 6) (fun x => μ.1 108 x)) k + pTl (μ.1 75 6) (fun x => μ.1 108 x)) - (1 : Int32)) 388 + (1 : Int32)) r1
          refine ⟨rfl, ⟨fun k j a => by rw [hμ]; exact (xpi_ne (fun q => a q.1)).trans (xpi_ne (fun q => a q.1)), by rw [hμ]; rfl⟩, ?_⟩
          rw [← ek, hμ, r2]
          unfold pLs
          rw [if_neg (show ¬ (fun x => μ.1 108 x) (8 * pRi (fun x => μ.1 108 x) (pTl (μ.1 75 6) (fun x => μ.1 108 x)) k + pTl (μ.1 75 6) (fun x => μ.1 108 x)) = 0 from hy), pUp_ne (show ¬ 388 = 8 * pRi (fun x => μ.1 108 x) (pTl (μ.1 75 6) (fun x => μ.1 108 x)) k + pTl (μ.1 75 6) (fun x => μ.1 108 x) by omega)]
        · replace c88 : ¬ ¬ (μ.1 108 (((8 : Int32) * be) + lt).toInt.toNat).toInt = 0 := c88
          obtain ⟨rfl, hμ⟩ := tx_return h em191_91
          have ek : k = S.1.length := by omega
          have hbe : be.toInt = (pRi (fun x => μ.1 108 x) (pTl (μ.1 75 6) (fun x => μ.1 108 x)) k : Int) := by rcases hb with ⟨-, b⟩ | ⟨-, b⟩ <;> omega
          have e8i : (8 : Int32).toInt = 8 := by decide
          have r4 : pRi (fun x => μ.1 108 x) (pTl (μ.1 75 6) (fun x => μ.1 108 x)) k ≤ 4 := pRi_5 (by omega)
          have hl7 := (pTl_b (sd := μ.1 75 6) (ρ := (fun x => μ.1 108 x))).2
          have b1 : ((8 : Int32) * be).toInt = 8 * (pRi (fun x => μ.1 108 x) (pTl (μ.1 75 6) (fun x => μ.1 108 x)) k : Int) := by rw [an_mul (by rw [e8i]; omega) (by rw [e8i]; omega), e8i, hbe]
          have b2 : ((8 : Int32) * be + lt).toInt.toNat = 8 * pRi (fun x => μ.1 108 x) (pTl (μ.1 75 6) (fun x => μ.1 108 x)) k + pTl (μ.1 75 6) (fun x => μ.1 108 x) := by
            have : ((8 : Int32) * be + lt).toInt = 8 * (pRi (fun x => μ.1 108 x) (pTl (μ.1 75 6) (fun x => μ.1 108 x)) k : Int) + pTl (μ.1 75 6) (fun x => μ.1 108 x) := by rw [an_add (by rw [b1]; omega) (by rw [b1]; omega), b1, hlt]
            omega
          rw [b2] at c88
          rw [hμ, ← ek]
          refine ⟨rfl, ⟨fun _ _ _ => rfl, rfl⟩, ?_⟩
          unfold pLs
          rw [if_pos (show (fun x => μ.1 108 x) (8 * pRi (fun x => μ.1 108 x) (pTl (μ.1 75 6) (fun x => μ.1 108 x)) k + pTl (μ.1 75 6) (fun x => μ.1 108 x)) = 0 from Int32.toInt_inj.mp ((Decidable.of_not_not c88).trans (by decide)))]
    · replace c33 : ¬ (μ.1 84 (μ.1 75 2).toInt.toNat).toInt ≤ i.toInt := c33
      replace h := tx_iload_n (p' := 37) h em191_36 rfl rfl
      rcases tx_if (t := 65) (p' := 40) h em191_37 (by decide) rfl with ⟨c37, h⟩ | ⟨c37, h⟩
      · replace c37 : be.toInt < 0 := c37
        replace h := tx_iload_n (p' := 66) h em191_65 rfl rfl
        replace h := tx_istore_n (p' := 67) h em191_66 rfl
        replace h : eT xq_191 _ 67 [some (.inr (.inl (some 75))), some (.inl lt), some (.inl i), some (.inl i)] [] μ r μ' := h
        replace h := tx_iinc (v := 1) (p' := 70) h em191_67 (by decide +kernel) rfl rfl
        replace h : eT xq_191 _ 70 [some (.inr (.inl (some 75))), some (.inl lt), some (.inl i), some (.inl (i + 1))] [] μ r μ' := h
        obtain ⟨n2, hn2, h⟩ := tx_gotoS (t := 23) h em191_70 (by decide)
        have ei : (i + 1).toInt = ((k + 1 : Nat) : Int) := by rw [an_add (by rw [e1i]; omega) (by rw [e1i]; omega), e1i]; omega
        have k0 : k = 0 := by rcases hb with ⟨a, -⟩ | ⟨a, b⟩ <;> omega
        refine ih n2 hn2 (k + 1) _ _ _ h hlt ei (by omega) (Or.inr ⟨by omega, ?_⟩)
        rw [k0, pRi_1, hi, k0]
      · replace c37 : ¬ be.toInt < 0 := c37
        replace h := tx_aload_n (p' := 41) h em191_40 rfl rfl
        replace h := tx_getc (c := 12) (j := 0) (p' := 44) h em191_41 ((congrFun xo_12 116).trans rfl) rfl rfl rfl
        replace h := tx_bipush (v := 8) (p' := 46) h em191_44 (by decide +kernel) rfl
        replace h := tx_iload_n (p' := 47) h em191_46 rfl rfl
        replace h := tx_imul (p' := 48) h em191_47 rfl
        replace h := tx_iload_n (p' := 49) h em191_48 rfl rfl
        replace h := tx_iadd (p' := 50) h em191_49 rfl
        obtain ⟨hb50, h⟩ := tx_iald (len := 390) (p' := 51) h em191_50 rfl rfl
        replace hb50 : (0 : Int) ≤ (((8 : Int32) * i) + lt).toInt ∧ (((8 : Int32) * i) + lt).toInt < 390 := hb50
        replace h := tx_aload_n (p' := 52) h em191_51 rfl rfl
        replace h := tx_getc (c := 12) (j := 0) (p' := 55) h em191_52 ((congrFun xo_12 116).trans rfl) rfl rfl rfl
        replace h := tx_bipush (v := 8) (p' := 57) h em191_55 (by decide +kernel) rfl
        replace h := tx_iload_n (p' := 58) h em191_57 rfl rfl
        replace h := tx_imul (p' := 59) h em191_58 rfl
        replace h := tx_iload_n (p' := 60) h em191_59 rfl rfl
        replace h := tx_iadd (p' := 61) h em191_60 rfl
        obtain ⟨hb61, h⟩ := tx_iald (len := 390) (p' := 62) h em191_61 rfl rfl
        replace hb61 : (0 : Int) ≤ (((8 : Int32) * be) + lt).toInt ∧ (((8 : Int32) * be) + lt).toInt < 390 := hb61
        rcases tx_icmp (t := 67) (p' := 65) h em191_62 (by decide) rfl with ⟨c62, h⟩ | ⟨c62, h⟩
        · replace c62 : (μ.1 108 (((8 : Int32) * i) + lt).toInt.toNat).toInt ≤ (μ.1 108 (((8 : Int32) * be) + lt).toInt.toNat).toInt := c62
          replace h := tx_iinc (v := 1) (p' := 70) h em191_67 (by decide +kernel) rfl rfl
          replace h : eT xq_191 _ 70 [some (.inr (.inl (some 75))), some (.inl lt), some (.inl be), some (.inl (i + 1))] [] μ r μ' := h
          obtain ⟨n2, hn2, h⟩ := tx_gotoS (t := 23) h em191_70 (by decide)
          have ei : (i + 1).toInt = ((k + 1 : Nat) : Int) := by rw [an_add (by rw [e1i]; omega) (by rw [e1i]; omega), e1i]; omega
          have hbe : be.toInt = (pRi (fun x => μ.1 108 x) (pTl (μ.1 75 6) (fun x => μ.1 108 x)) k : Int) := by rcases hb with ⟨-, b⟩ | ⟨-, b⟩ <;> omega
          have e8i : (8 : Int32).toInt = 8 := by decide
          have r4 : pRi (fun x => μ.1 108 x) (pTl (μ.1 75 6) (fun x => μ.1 108 x)) k ≤ 4 := pRi_5 (by omega)
          have hl7 := (pTl_b (sd := μ.1 75 6) (ρ := (fun x => μ.1 108 x))).2
          have a1 : ((8 : Int32) * i).toInt = 8 * (k : Int) := by rw [an_mul (by rw [e8i]; omega) (by rw [e8i]; omega), e8i, hi]
          have a2 : ((8 : Int32) * i + lt).toInt.toNat = 8 * k + pTl (μ.1 75 6) (fun x => μ.1 108 x) := by
            have : ((8 : Int32) * i + lt).toInt = 8 * (k : Int) + pTl (μ.1 75 6) (fun x => μ.1 108 x) := by rw [an_add (by rw [a1]; omega) (by rw [a1]; omega), a1, hlt]
            omega
          have b1 : ((8 : Int32) * be).toInt = 8 * (pRi (fun x => μ.1 108 x) (pTl (μ.1 75 6) (fun x => μ.1 108 x)) k : Int) := by rw [an_mul (by rw [e8i]; omega) (by rw [e8i]; omega), e8i, hbe]
          have b2 : ((8 : Int32) * be + lt).toInt.toNat = 8 * pRi (fun x => μ.1 108 x) (pTl (μ.1 75 6) (fun x => μ.1 108 x)) k + pTl (μ.1 75 6) (fun x => μ.1 108 x) := by
            have : ((8 : Int32) * be + lt).toInt = 8 * (pRi (fun x => μ.1 108 x) (pTl (μ.1 75 6) (fun x => μ.1 108 x)) k : Int) + pTl (μ.1 75 6) (fun x => μ.1 108 x) := by rw [an_add (by rw [b1]; omega) (by rw [b1]; omega), b1, hlt]
            omega
          rw [a2, b2] at c62
          refine ih n2 hn2 (k + 1) _ _ _ h hlt ei (by omega) (Or.inr ⟨by omega, ?_⟩)
          show _ = (((if (μ.1 108 (8 * pRi (fun x => μ.1 108 x) (pTl (μ.1 75 6) (fun x => μ.1 108 x)) k + pTl (μ.1 75 6) (fun x => μ.1 108 x))).toInt < (μ.1 108 (8 * k + pTl (μ.1 75 6) (fun x => μ.1 108 x))).toInt then k else pRi (fun x => μ.1 108 x) (pTl (μ.1 75 6) (fun x => μ.1 108 x)) k) : Nat) : Int)
          rw [if_neg (by omega)]
          exact hbe
        · replace c62 : ¬ (μ.1 108 (((8 : Int32) * i) + lt).toInt.toNat).toInt ≤ (μ.1 108 (((8 : Int32) * be) + lt).toInt.toNat).toInt := c62
          replace h := tx_iload_n (p' := 66) h em191_65 rfl rfl
          replace h := tx_istore_n (p' := 67) h em191_66 rfl
          replace h : eT xq_191 _ 67 [some (.inr (.inl (some 75))), some (.inl lt), some (.inl i), some (.inl i)] [] μ r μ' := h
          replace h := tx_iinc (v := 1) (p' := 70) h em191_67 (by decide +kernel) rfl rfl
          replace h : eT xq_191 _ 70 [some (.inr (.inl (some 75))), some (.inl lt), some (.inl i), some (.inl (i + 1))] [] μ r μ' := h
          obtain ⟨n2, hn2, h⟩ := tx_gotoS (t := 23) h em191_70 (by decide)
          have ei : (i + 1).toInt = ((k + 1 : Nat) : Int) := by rw [an_add (by rw [e1i]; omega) (by rw [e1i]; omega), e1i]; omega
          have hbe : be.toInt = (pRi (fun x => μ.1 108 x) (pTl (μ.1 75 6) (fun x => μ.1 108 x)) k : Int) := by rcases hb with ⟨-, b⟩ | ⟨-, b⟩ <;> omega
          have e8i : (8 : Int32).toInt = 8 := by decide
          have r4 : pRi (fun x => μ.1 108 x) (pTl (μ.1 75 6) (fun x => μ.1 108 x)) k ≤ 4 := pRi_5 (by omega)
          have hl7 := (pTl_b (sd := μ.1 75 6) (ρ := (fun x => μ.1 108 x))).2
          have a1 : ((8 : Int32) * i).toInt = 8 * (k : Int) := by rw [an_mul (by rw [e8i]; omega) (by rw [e8i]; omega), e8i, hi]
          have a2 : ((8 : Int32) * i + lt).toInt.toNat = 8 * k + pTl (μ.1 75 6) (fun x => μ.1 108 x) := by
            have : ((8 : Int32) * i + lt).toInt = 8 * (k : Int) + pTl (μ.1 75 6) (fun x => μ.1 108 x) := by rw [an_add (by rw [a1]; omega) (by rw [a1]; omega), a1, hlt]
            omega
          have b1 : ((8 : Int32) * be).toInt = 8 * (pRi (fun x => μ.1 108 x) (pTl (μ.1 75 6) (fun x => μ.1 108 x)) k : Int) := by rw [an_mul (by rw [e8i]; omega) (by rw [e8i]; omega), e8i, hbe]
          have b2 : ((8 : Int32) * be + lt).toInt.toNat = 8 * pRi (fun x => μ.1 108 x) (pTl (μ.1 75 6) (fun x => μ.1 108 x)) k + pTl (μ.1 75 6) (fun x => μ.1 108 x) := by
            have : ((8 : Int32) * be + lt).toInt = 8 * (pRi (fun x => μ.1 108 x) (pTl (μ.1 75 6) (fun x => μ.1 108 x)) k : Int) + pTl (μ.1 75 6) (fun x => μ.1 108 x) := by rw [an_add (by rw [b1]; omega) (by rw [b1]; omega), b1, hlt]
            omega
          rw [a2, b2] at c62
          refine ih n2 hn2 (k + 1) _ _ _ h hlt ei (by omega) (Or.inr ⟨by omega, ?_⟩)
          show _ = (((if (μ.1 108 (8 * pRi (fun x => μ.1 108 x) (pTl (μ.1 75 6) (fun x => μ.1 108 x)) k + pTl (μ.1 75 6) (fun x => μ.1 108 x))).toInt < (μ.1 108 (8 * k + pTl (μ.1 75 6) (fun x => μ.1 108 x))).toInt then k else pRi (fun x => μ.1 108 x) (pTl (μ.1 75 6) (fun x => μ.1 108 x)) k) : Nat) : Int)
          rw [if_pos (by omega)]
          exact hi
  replace h := tx_aload_n (p' := 1) h em191_0 rfl rfl
  replace h := tx_iconst (v := 4) (p' := 2) h em191_1 (by decide +kernel) rfl
  replace h := tx_aload_n (p' := 3) h em191_2 rfl rfl
  replace h := tx_getc (c := 12) (j := 0) (p' := 6) h em191_3 ((congrFun xo_12 116).trans rfl) rfl rfl rfl
  replace h := tx_sipush (v := 386) (p' := 9) h em191_6 (by decide +kernel) rfl
  obtain ⟨hb9, h⟩ := tx_iald (len := 390) (p' := 10) h em191_9 rfl rfl
  replace hb9 : (0 : Int) ≤ 386 ∧ (386 : Int) < 390 := hb9
  replace h : eT xq_191 _ 10 [some (.inr (.inl (some 75))), none, none, none] [.inl (μ.1 108 386), .inl (4 : Int32), .inr (.inl (some 75))] μ r μ' := h
  replace h := tx_imul (p' := 11) h em191_10 rfl
  replace h := tx_iconst (v := 1) (p' := 12) h em191_11 (by decide +kernel) rfl
  replace h := tx_iadd (p' := 13) h em191_12 rfl
  replace h := tx_bipush (v := 8) (p' := 15) h em191_13 (by decide +kernel) rfl
  obtain ⟨r15, μ15, hE15, h⟩ := tx_invV (na := 3) (mn := 167) (as := [.inr (.inl (some 75)), .inl (((4 : Int32) * (μ.1 108 386)) + (1 : Int32)), .inl (8 : Int32)]) (rest := []) (p' := 18) h em191_15 ((congrFun xo_12 341).trans rfl) xm_167 rfl rfl
  obtain ⟨hml, rfl⟩ := ex_mlotOf hE15
  rw [hml] at h
  replace h : eT xq_191 _ 18 [some (.inr (.inl (some 75))), none, none, none] [.inl (pLt (8 : Int32) (μ.1 75 6) (((4 : Int32) * (μ.1 108 386)) + (1 : Int32)))] μ r μ' := h
  replace h := tx_istore_n (p' := 19) h em191_18 rfl
  replace h : eT xq_191 _ 19 [some (.inr (.inl (some 75))), some (.inl (pLt (8 : Int32) (μ.1 75 6) (((4 : Int32) * (μ.1 108 386)) + (1 : Int32)))), none, none] [] μ r μ' := h
  replace h := tx_iconst (v := (-1)) (p' := 20) h em191_19 (by decide +kernel) rfl
  replace h := tx_istore_n (p' := 21) h em191_20 rfl
  replace h : eT xq_191 _ 21 [some (.inr (.inl (some 75))), some (.inl (pLt (8 : Int32) (μ.1 75 6) (((4 : Int32) * (μ.1 108 386)) + (1 : Int32)))), some (.inl (-1 : Int32)), none] [] μ r μ' := h
  replace h := tx_iconst (v := 0) (p' := 22) h em191_21 (by decide +kernel) rfl
  replace h := tx_istore_n (p' := 23) h em191_22 rfl
  replace h : eT xq_191 _ 23 [some (.inr (.inl (some 75))), some (.inl (pLt (8 : Int32) (μ.1 75 6) (((4 : Int32) * (μ.1 108 386)) + (1 : Int32)))), some (.inl (-1 : Int32)), some (.inl (0 : Int32))] [] μ r μ' := h
  exact loop _ 0 _ _ _ h (pTl_b (sd := μ.1 75 6) (ρ := (fun x => μ.1 108 x))).1 (by decide) (Nat.zero_le _) (Or.inl ⟨rfl, by decide⟩)
set_option maxRecDepth 10000 in
set_option maxHeartbeats 4000000 in
theorem ex_mday {S : kSt} {s : Nat} {μ μ' : xM} {r : Option zV} (h0 : Ex gx xq_131 [.inr (.inl (some 75))] μ r μ') (hS : rS9 S s μ) (hI : pI S (fun x => μ.1 108 x)) : r = none ∧ gP9 μ μ' ∧ (fun x => μ'.1 108 x) = pDy S (μ.1 75 7) (μ.1 75 6) (fun x => μ.1 108 x) ∧ ∀ c, c < 8 * S.1.length → (μ'.1 109 c = 1 ∧ pGn S.2.2.1.1 (pWr S (fun x => μ.1 108 x) (c / 8) (c % 8)) c (pWn S (fun x => μ.1 108 x) c (pPd S S.2.1.length (fun x => μ.1 108 x)))) ∨ (μ'.1 109 c = 0 ∧ ¬ pGn S.2.2.1.1 (pWr S (fun x => μ.1 108 x) (c / 8) (c % 8)) c (pWn S (fun x => μ.1 108 x) c (pPd S S.2.1.length (fun x => μ.1 108 x)))) := by
  obtain ⟨n, h⟩ := tx_in (L := [some (.inr (.inl (some 75))), none]) h0 rfl
  have e1i : (1 : Int32).toInt = 1 := by decide
  have e8i : (8 : Int32).toInt = 8 := by decide
  have e320 : (320 : Int32).toInt = 320 := by decide
  have hH5 := hS.1.1.1
  have hV7 := hS.1.1.2.1
  have L142 : ∀ (n k : Nat) (i : Int32) (ω : xM), eT xq_131 n 142 [some (.inr (.inl (some 75))), some (.inl i)] [] ω r μ' → i.toInt = (k : Int) → k ≤ 8 * S.1.length → gP9 μ ω → (fun x => ω.1 108 x) = pWn S (fun x => μ.1 108 x) k (pPd S S.2.1.length (fun x => μ.1 108 x)) → (∀ c, c < 8 * S.1.length → ω.1 110 c = pWr S (fun x => μ.1 108 x) (c / 8) (c % 8)) → (∀ c, c < k → (ω.1 109 c = 1 ∧ pGn S.2.2.1.1 (pWr S (fun x => μ.1 108 x) (c / 8) (c % 8)) c (pWn S (fun x => μ.1 108 x) c (pPd S S.2.1.length (fun x => μ.1 108 x)))) ∨ (ω.1 109 c = 0 ∧ ¬ pGn S.2.2.1.1 (pWr S (fun x => μ.1 108 x) (c / 8) (c % 8)) c (pWn S (fun x => μ.1 108 x) c (pPd S S.2.1.length (fun x => μ.1 108 x))))) → r = none ∧ gP9 μ μ' ∧ (fun x => μ'.1 108 x) = pDy S (μ.1 75 7) (μ.1 75 6) (fun x => μ.1 108 x) ∧ ∀ c, c < 8 * S.1.length → (μ'.1 109 c = 1 ∧ pGn S.2.2.1.1 (pWr S (fun x => μ.1 108 x) (c / 8) (c % 8)) c (pWn S (fun x => μ.1 108 x) c (pPd S S.2.1.length (fun x => μ.1 108 x)))) ∨ (μ'.1 109 c = 0 ∧ ¬ pGn S.2.2.1.1 (pWr S (fun x => μ.1 108 x) (c / 8) (c % 8)) c (pWn S (fun x => μ.1 108 x) c (pPd S S.2.1.length (fun x => μ.1 108 x)))) := by
    intro n
    induction n using Nat.strongRecOn with
    | ind n ih =>
    intro k i ω h hi hk hG hr hw hf
    have hSω := rS9_P hS hG
    have hlv : (ω.1 75 2).toInt.toNat = s := by have := hSω.2.1.2; omega
    have hVV : (ω.1 86 (ω.1 75 2).toInt.toNat).toInt = (S.2.1.length : Int) := by rw [hlv]; exact hSω.2.2.1.1.2.1
    have hHH : (ω.1 84 (ω.1 75 2).toInt.toNat).toInt = (S.1.length : Int) := by rw [hlv]; exact hSω.2.2.1.1.1
    have e8H : ((8 : Int32) * (ω.1 84 (ω.1 75 2).toInt.toNat)).toInt = 8 * (S.1.length : Int) := by rw [an_mul (by rw [e8i, hHH]; omega) (by rw [e8i, hHH]; omega), e8i, hHH]
    replace h := tx_iload_n (p' := 143) h em131_142 rfl rfl
    replace h := tx_bipush (v := 8) (p' := 145) h em131_143 (by decide +kernel) rfl
    replace h := tx_aload_n (p' := 146) h em131_145 rfl rfl
    replace h := tx_getc (c := 12) (j := 3) (p' := 149) h em131_146 ((congrFun xo_12 43).trans rfl) rfl rfl rfl
    replace h := tx_aload_n (p' := 150) h em131_149 rfl rfl
    replace h := tx_getf (c := 12) (j := 2) (p' := 153) h em131_150 ((congrFun xo_12 230).trans rfl) rfl rfl (by decide) rfl
    obtain ⟨hb153, h⟩ := tx_iald (len := 2) (p' := 154) h em131_153 rfl rfl
    replace hb153 : (0 : Int) ≤ (ω.1 75 2).toInt ∧ (ω.1 75 2).toInt < 2 := hb153
    replace h := tx_imul (p' := 155) h em131_154 rfl
    rcases tx_icmp (t := 169) (p' := 158) h em131_155 (by decide) rfl with ⟨c155, h⟩ | ⟨c155, h⟩
    · replace c155 : ((8 : Int32) * (ω.1 84 (ω.1 75 2).toInt.toNat)).toInt ≤ i.toInt := c155
      replace h := tx_aload_n (p' := 170) h em131_169 rfl rfl
      replace h := tx_getf (c := 12) (j := 7) (p' := 173) h em131_170 ((congrFun xo_12 331).trans rfl) rfl rfl (by decide) rfl
      rcases tx_if (t := 187) (p' := 176) h em131_173 (by decide) rfl with ⟨c173, h⟩ | ⟨c173, h⟩
      · replace c173 : ¬ (ω.1 75 7).toInt = 0 := c173
        replace h := tx_aload_n (p' := 188) h em131_187 rfl rfl
        replace h := tx_getc (c := 12) (j := 0) (p' := 191) h em131_188 ((congrFun xo_12 116).trans rfl) rfl rfl rfl
        replace h := tx_sipush (v := 386) (p' := 194) h em131_191 (by decide +kernel) rfl
        replace h := tx_dup2 (p' := 195) h em131_194 rfl
        obtain ⟨hb195, h⟩ := tx_iald (len := 390) (p' := 196) h em131_195 rfl rfl
        replace hb195 : (0 : Int) ≤ 386 ∧ (386 : Int) < 390 := hb195
        replace h : eT xq_131 _ 196 [some (.inr (.inl (some 75))), some (.inl i)] [.inl (ω.1 108 386), .inl (386 : Int32), .inr (.inl (some 108))] ω r μ' := h
        replace h := tx_iconst (v := 1) (p' := 197) h em131_196 (by decide +kernel) rfl
        replace h := tx_iadd (p' := 198) h em131_197 rfl
        obtain ⟨hb198, h⟩ := tx_iast (len := 390) (p' := 199) h em131_198 rfl rfl
        replace hb198 : (0 : Int) ≤ 386 ∧ (386 : Int) < 390 := hb198
        obtain ⟨rfl, hμ⟩ := tx_return h em131_199
        replace hμ : μ' = (xpi ω 108 386 ((ω.1 108 386) + (1 : Int32))) := hμ
        have ek : k = 8 * S.1.length := by omega
        have h7 : ω.1 75 7 = μ.1 75 7 := hG.1 75 7 (by decide) (by decide) (by decide) (by decide) (by decide) (by decide) (by decide)
        rw [h7] at c173
        have hr9 : (fun x => ω.1 108 x) = pDx S (μ.1 75 7) (μ.1 75 6) (fun x => μ.1 108 x) := by
          rw [hr, ek]
          unfold pDx
          rw [if_neg (by omega)]
          rfl
        have v9 := row_v hr9 386
        rw [v9] at hμ
        rw [hμ]
        exact ⟨rfl, gP9_i (hG) (Or.inl rfl), row_s hr9, fun c hc => by
          rw [xpi_ne (fun q => absurd q.1 (by decide))]
          exact hf c (by omega)⟩
      · replace c173 : ¬ ¬ (ω.1 75 7).toInt = 0 := c173
        replace h := tx_aload_n (p' := 177) h em131_176 rfl rfl
        obtain ⟨r177, μ177, hE177, h⟩ := tx_invV (na := 1) (mn := 116) (as := [.inr (.inl (some 75))]) (rest := []) (p' := 180) h em131_177 ((congrFun xo_12 395).trans rfl) xm_116 rfl rfl
        obtain ⟨hma, ⟨rfl, th1⟩ | ⟨rfl, th1⟩⟩ := ex_mareThieves hE177 hSω
        · rw [hma] at h
          rw [hr, hG.1 75 6 (by decide) (by decide) (by decide) (by decide) (by decide) (by decide) (by decide)] at th1
          replace h : eT xq_131 _ 180 [some (.inr (.inl (some 75))), some (.inl i)] [.inl (1 : Int32)] ω r μ' := h
          rcases tx_if (t := 187) (p' := 183) h em131_180 (by decide) rfl with ⟨c180, h⟩ | ⟨c180, h⟩
          · replace c180 : (1 : Int) = (0 : Int) := c180
            exfalso
            omega
          · replace c180 : ¬ (1 : Int) = (0 : Int) := c180
            replace h := tx_aload_n (p' := 184) h em131_183 rfl rfl
            obtain ⟨r184, μ184, hE184, h⟩ := tx_invV (na := 1) (mn := 191) (as := [.inr (.inl (some 75))]) (rest := []) (p' := 187) h em131_184 ((congrFun xo_12 399).trans rfl) xm_191 rfl rfl
            have ek : k = 8 * S.1.length := by omega
            have hIk := pI_wk hS.1.1 hI
            have h6 : ω.1 75 6 = μ.1 75 6 := hG.1 75 6 (by decide) (by decide) (by decide) (by decide) (by decide) (by decide) (by decide)
            have hIk2 : ∀ c, 8 * S.1.length ≤ c → c < 40 → (fun x => ω.1 108 x) c = 0 := by
              rw [hr, ek]
              exact hIk.2.2
            obtain ⟨rfl, k1, k2⟩ := ex_mthieves hE184 hSω (fun e l hl => hIk2 l (by omega) (by omega))
            rw [hr, h6] at k2
            replace h : eT xq_131 _ 187 [some (.inr (.inl (some 75))), some (.inl i)] [] μ184 r μ' := h
            replace h := tx_aload_n (p' := 188) h em131_187 rfl rfl
            replace h := tx_getc (c := 12) (j := 0) (p' := 191) h em131_188 ((congrFun xo_12 116).trans rfl) rfl rfl rfl
            replace h := tx_sipush (v := 386) (p' := 194) h em131_191 (by decide +kernel) rfl
            replace h := tx_dup2 (p' := 195) h em131_194 rfl
            obtain ⟨hb195_1, h⟩ := tx_iald (len := 390) (p' := 196) h em131_195 rfl rfl
            replace hb195_1 : (0 : Int) ≤ 386 ∧ (386 : Int) < 390 := hb195_1
            replace h : eT xq_131 _ 196 [some (.inr (.inl (some 75))), some (.inl i)] [.inl (μ184.1 108 386), .inl (386 : Int32), .inr (.inl (some 108))] μ184 r μ' := h
            replace h := tx_iconst (v := 1) (p' := 197) h em131_196 (by decide +kernel) rfl
            replace h := tx_iadd (p' := 198) h em131_197 rfl
            obtain ⟨hb198_1, h⟩ := tx_iast (len := 390) (p' := 199) h em131_198 rfl rfl
            replace hb198_1 : (0 : Int) ≤ 386 ∧ (386 : Int) < 390 := hb198_1
            obtain ⟨rfl, hμ⟩ := tx_return h em131_199
            replace hμ : μ' = (xpi μ184 108 386 ((μ184.1 108 386) + (1 : Int32))) := hμ
            have h7 : ω.1 75 7 = μ.1 75 7 := hG.1 75 7 (by decide) (by decide) (by decide) (by decide) (by decide) (by decide) (by decide)
            rw [h7] at c173
            have hr9 : (fun x => μ184.1 108 x) = pDx S (μ.1 75 7) (μ.1 75 6) (fun x => μ.1 108 x) := by
              rw [k2, ek]
              unfold pDx
              rw [if_pos (by omega)]
              rw [ek] at th1
              exact (pTv_y th1).symm
            have v9 := row_v hr9 386
            rw [v9] at hμ
            rw [hμ]
            exact ⟨rfl, gP9_i (gP9_tr hG (gP9_o ⟨fun a b c d => k1.1 a b c, k1.2⟩)) (Or.inl rfl), row_s hr9, fun c hc => by
              rw [xpi_ne (fun q => absurd q.1 (by decide)), k1.1 109 c (by decide)]
              exact hf c (by omega)⟩
        · rw [hma] at h
          rw [hr, hG.1 75 6 (by decide) (by decide) (by decide) (by decide) (by decide) (by decide) (by decide)] at th1
          replace h : eT xq_131 _ 180 [some (.inr (.inl (some 75))), some (.inl i)] [.inl (0 : Int32)] ω r μ' := h
          rcases tx_if (t := 187) (p' := 183) h em131_180 (by decide) rfl with ⟨c180_1, h⟩ | ⟨c180_1, h⟩
          · replace c180_1 : (0 : Int) = (0 : Int) := c180_1
            replace h := tx_aload_n (p' := 188) h em131_187 rfl rfl
            replace h := tx_getc (c := 12) (j := 0) (p' := 191) h em131_188 ((congrFun xo_12 116).trans rfl) rfl rfl rfl
            replace h := tx_sipush (v := 386) (p' := 194) h em131_191 (by decide +kernel) rfl
            replace h := tx_dup2 (p' := 195) h em131_194 rfl
            obtain ⟨hb195_2, h⟩ := tx_iald (len := 390) (p' := 196) h em131_195 rfl rfl
            replace hb195_2 : (0 : Int) ≤ 386 ∧ (386 : Int) < 390 := hb195_2
            replace h : eT xq_131 _ 196 [some (.inr (.inl (some 75))), some (.inl i)] [.inl (ω.1 108 386), .inl (386 : Int32), .inr (.inl (some 108))] ω r μ' := h
            replace h := tx_iconst (v := 1) (p' := 197) h em131_196 (by decide +kernel) rfl
            replace h := tx_iadd (p' := 198) h em131_197 rfl
            obtain ⟨hb198_2, h⟩ := tx_iast (len := 390) (p' := 199) h em131_198 rfl rfl
            replace hb198_2 : (0 : Int) ≤ 386 ∧ (386 : Int) < 390 := hb198_2
            obtain ⟨rfl, hμ⟩ := tx_return h em131_199
            replace hμ : μ' = (xpi ω 108 386 ((ω.1 108 386) + (1 : Int32))) := hμ
            have ek : k = 8 * S.1.length := by omega
            have h7 : ω.1 75 7 = μ.1 75 7 := hG.1 75 7 (by decide) (by decide) (by decide) (by decide) (by decide) (by decide) (by decide)
            rw [h7] at c173
            have hr9 : (fun x => ω.1 108 x) = pDx S (μ.1 75 7) (μ.1 75 6) (fun x => μ.1 108 x) := by
              rw [hr, ek]
              unfold pDx
              rw [if_pos (by omega)]
              rw [ek] at th1
              exact (pTv_n th1).symm
            have v9 := row_v hr9 386
            rw [v9] at hμ
            rw [hμ]
            exact ⟨rfl, gP9_i (hG) (Or.inl rfl), row_s hr9, fun c hc => by
              rw [xpi_ne (fun q => absurd q.1 (by decide))]
              exact hf c (by omega)⟩
          · replace c180_1 : ¬ (0 : Int) = (0 : Int) := c180_1
            exfalso
            omega
    · replace c155 : ¬ ((8 : Int32) * (ω.1 84 (ω.1 75 2).toInt.toNat)).toInt ≤ i.toInt := c155
      replace h := tx_aload_n (p' := 159) h em131_158 rfl rfl
      replace h := tx_iload_n (p' := 160) h em131_159 rfl rfl
      obtain ⟨r160, μ160, hE160, h⟩ := tx_invV (na := 2) (mn := 198) (as := [.inr (.inl (some 75)), .inl i]) (rest := []) (p' := 163) h em131_160 ((congrFun xo_12 392).trans rfl) xm_198 rfl rfl
      obtain ⟨rfl, k1, k2, k3, k4⟩ := ex_mwearsAt hE160 hSω hi (by omega)
      have hkH : k < 8 * S.1.length := by omega
      rw [hw k hkH, hr] at k2 k4
      replace h : eT xq_131 _ 163 [some (.inr (.inl (some 75))), some (.inl i)] [] μ160 r μ' := h
      replace h := tx_iinc (v := 1) (p' := 166) h em131_163 (by decide +kernel) rfl rfl
      replace h : eT xq_131 _ 166 [some (.inr (.inl (some 75))), some (.inl (i + 1))] [] μ160 r μ' := h
      obtain ⟨n2, hn2, h⟩ := tx_gotoS (t := 142) h em131_166 (by decide)
      have ei : (i + 1).toInt = ((k + 1 : Nat) : Int) := by rw [an_add (by rw [e1i]; omega) (by rw [e1i]; omega), e1i]; omega
      refine ih n2 hn2 (k + 1) _ _ h ei (by omega) (gP9_tr hG (gP9_o k1)) ?_ (fun c hc => by rw [k1.1 110 c (by decide) (by decide)]; exact hw c hc) (fun c hc => ?_)
      · exact k2
      · by_cases e : c = k
        · rw [e]; exact k4
        · rw [k3 c e]; exact hf c (by omega)
  have L76 : ∀ (n k : Nat) (i : Int32) (ω : xM), eT xq_131 n 76 [some (.inr (.inl (some 75))), some (.inl i)] [] ω r μ' → i.toInt = (k : Int) → k ≤ S.2.1.length → gP9 μ ω → (fun x => ω.1 108 x) = pPd S k (fun x => μ.1 108 x) → (∀ c, c < 8 * S.1.length → ω.1 110 c = pWr S (fun x => μ.1 108 x) (c / 8) (c % 8)) → (∀ v, v < S.2.1.length → ω.1 111 v = pPy S (μ.1 108 386) v) → r = none ∧ gP9 μ μ' ∧ (fun x => μ'.1 108 x) = pDy S (μ.1 75 7) (μ.1 75 6) (fun x => μ.1 108 x) ∧ ∀ c, c < 8 * S.1.length → (μ'.1 109 c = 1 ∧ pGn S.2.2.1.1 (pWr S (fun x => μ.1 108 x) (c / 8) (c % 8)) c (pWn S (fun x => μ.1 108 x) c (pPd S S.2.1.length (fun x => μ.1 108 x)))) ∨ (μ'.1 109 c = 0 ∧ ¬ pGn S.2.2.1.1 (pWr S (fun x => μ.1 108 x) (c / 8) (c % 8)) c (pWn S (fun x => μ.1 108 x) c (pPd S S.2.1.length (fun x => μ.1 108 x)))) := by
    intro n
    induction n using Nat.strongRecOn with
    | ind n ih =>
    intro k i ω h hi hk hG hr hw hp
    have hSω := rS9_P hS hG
    have hlv : (ω.1 75 2).toInt.toNat = s := by have := hSω.2.1.2; omega
    have hVV : (ω.1 86 (ω.1 75 2).toInt.toNat).toInt = (S.2.1.length : Int) := by rw [hlv]; exact hSω.2.2.1.1.2.1
    have hHH : (ω.1 84 (ω.1 75 2).toInt.toNat).toInt = (S.1.length : Int) := by rw [hlv]; exact hSω.2.2.1.1.1
    have e8H : ((8 : Int32) * (ω.1 84 (ω.1 75 2).toInt.toNat)).toInt = 8 * (S.1.length : Int) := by rw [an_mul (by rw [e8i, hHH]; omega) (by rw [e8i, hHH]; omega), e8i, hHH]
    replace h := tx_iload_n (p' := 77) h em131_76 rfl rfl
    replace h := tx_aload_n (p' := 78) h em131_77 rfl rfl
    replace h := tx_getc (c := 12) (j := 4) (p' := 81) h em131_78 ((congrFun xo_12 49).trans rfl) rfl rfl rfl
    replace h := tx_aload_n (p' := 82) h em131_81 rfl rfl
    replace h := tx_getf (c := 12) (j := 2) (p' := 85) h em131_82 ((congrFun xo_12 230).trans rfl) rfl rfl (by decide) rfl
    obtain ⟨hb85, h⟩ := tx_iald (len := 2) (p' := 86) h em131_85 rfl rfl
    replace hb85 : (0 : Int) ≤ (ω.1 75 2).toInt ∧ (ω.1 75 2).toInt < 2 := hb85
    rcases tx_icmp (t := 140) (p' := 89) h em131_86 (by decide) rfl with ⟨c86, h⟩ | ⟨c86, h⟩
    · replace c86 : (ω.1 86 (ω.1 75 2).toInt.toNat).toInt ≤ i.toInt := c86
      replace h := tx_iconst (v := 0) (p' := 141) h em131_140 (by decide +kernel) rfl
      replace h := tx_istore_n (p' := 142) h em131_141 rfl
      replace h : eT xq_131 _ 142 [some (.inr (.inl (some 75))), some (.inl (0 : Int32))] [] ω r μ' := h
      have ek : k = S.2.1.length := by omega
      rw [ek] at hr
      exact L142 _ 0 _ _ h (by decide) (Nat.zero_le _) hG hr hw (fun c hc => absurd hc (Nat.not_lt_zero c))
    · replace c86 : ¬ (ω.1 86 (ω.1 75 2).toInt.toNat).toInt ≤ i.toInt := c86
      replace h := tx_aload_n (p' := 90) h em131_89 rfl rfl
      replace h := tx_getc (c := 12) (j := 0) (p' := 93) h em131_90 ((congrFun xo_12 116).trans rfl) rfl rfl rfl
      replace h := tx_sipush (v := 320) (p' := 96) h em131_93 (by decide +kernel) rfl
      replace h := tx_iload_n (p' := 97) h em131_96 rfl rfl
      replace h := tx_iadd (p' := 98) h em131_97 rfl
      obtain ⟨hb98, h⟩ := tx_iald (len := 390) (p' := 99) h em131_98 rfl rfl
      replace hb98 : (0 : Int) ≤ ((320 : Int32) + i).toInt ∧ ((320 : Int32) + i).toInt < 390 := hb98
      replace h := tx_iconst (v := 1) (p' := 100) h em131_99 (by decide +kernel) rfl
      rcases tx_icmp (t := 106) (p' := 103) h em131_100 (by decide) rfl with ⟨c100, h⟩ | ⟨c100, h⟩
      · replace c100 : (ω.1 108 ((320 : Int32) + i).toInt.toNat).toInt = 1 := c100
        replace h := tx_aload_n (p' := 107) h em131_106 rfl rfl
        replace h := tx_getc (c := 12) (j := 0) (p' := 110) h em131_107 ((congrFun xo_12 116).trans rfl) rfl rfl rfl
        replace h := tx_sipush (v := 320) (p' := 113) h em131_110 (by decide +kernel) rfl
        replace h := tx_iload_n (p' := 114) h em131_113 rfl rfl
        replace h := tx_iadd (p' := 115) h em131_114 rfl
        replace h := tx_iconst (v := 2) (p' := 116) h em131_115 (by decide +kernel) rfl
        obtain ⟨hb116, h⟩ := tx_iast (len := 390) (p' := 117) h em131_116 rfl rfl
        replace hb116 : (0 : Int) ≤ ((320 : Int32) + i).toInt ∧ ((320 : Int32) + i).toInt < 390 := hb116
        replace h := tx_aload_n (p' := 118) h em131_117 rfl rfl
        replace h := tx_getc (c := 12) (j := 0) (p' := 121) h em131_118 ((congrFun xo_12 116).trans rfl) rfl rfl rfl
        replace h := tx_sipush (v := 387) (p' := 124) h em131_121 (by decide +kernel) rfl
        replace h := tx_dup2 (p' := 125) h em131_124 rfl
        obtain ⟨hb125, h⟩ := tx_iald (len := 390) (p' := 126) h em131_125 rfl rfl
        replace hb125 : (0 : Int) ≤ 387 ∧ (387 : Int) < 390 := hb125
        replace h : eT xq_131 _ 126 [some (.inr (.inl (some 75))), some (.inl i)] [.inl ((xpi ω 108 ((320 : Int32) + i).toInt.toNat (2 : Int32)).1 108 387), .inl (387 : Int32), .inr (.inl (some 108))] (xpi ω 108 ((320 : Int32) + i).toInt.toNat (2 : Int32)) r μ' := h
        replace h := tx_aload_n (p' := 127) h em131_126 rfl rfl
        replace h := tx_getc (c := 12) (j := 14) (p' := 130) h em131_127 ((congrFun xo_12 125).trans rfl) rfl rfl rfl
        replace h := tx_iload_n (p' := 131) h em131_130 rfl rfl
        obtain ⟨hb131, h⟩ := tx_iald (len := 7) (p' := 132) h em131_131 rfl rfl
        replace hb131 : (0 : Int) ≤ i.toInt ∧ i.toInt < 7 := hb131
        replace h : eT xq_131 _ 132 [some (.inr (.inl (some 75))), some (.inl i)] [.inl (ω.1 111 i.toInt.toNat), .inl ((xpi ω 108 ((320 : Int32) + i).toInt.toNat (2 : Int32)).1 108 387), .inl (387 : Int32), .inr (.inl (some 108))] (xpi ω 108 ((320 : Int32) + i).toInt.toNat (2 : Int32)) r μ' := h
        replace h := tx_iadd (p' := 133) h em131_132 rfl
        obtain ⟨hb133, h⟩ := tx_iast (len := 390) (p' := 134) h em131_133 rfl rfl
        replace hb133 : (0 : Int) ≤ 387 ∧ (387 : Int) < 390 := hb133
        replace h := tx_iinc (v := 1) (p' := 137) h em131_134 (by decide +kernel) rfl rfl
        replace h : eT xq_131 _ 137 [some (.inr (.inl (some 75))), some (.inl (i + 1))] [] (xpi (xpi ω 108 ((320 : Int32) + i).toInt.toNat (2 : Int32)) 108 387 (((xpi ω 108 ((320 : Int32) + i).toInt.toNat (2 : Int32)).1 108 387) + (ω.1 111 i.toInt.toNat))) r μ' := h
        obtain ⟨n2, hn2, h⟩ := tx_gotoS (t := 76) h em131_137 (by decide)
        have ei : (i + 1).toInt = ((k + 1 : Nat) : Int) := by rw [an_add (by rw [e1i]; omega) (by rw [e1i]; omega), e1i]; omega
        have u1 : ((320 : Int32) + i).toInt.toNat = 320 + k := by
          have : ((320 : Int32) + i).toInt = 320 + (k : Int) := by rw [an_add (by rw [e320]; omega) (by rw [e320]; omega), e320, hi]
          omega
        have s1 : (fun x => μ.1 108 x) (320 + k) = ω.1 108 (320 + k) := by
          rw [row_v hr (320 + k)]
          unfold pPd
          rw [pUp_ne (by omega)]
          exact (pDn_ne (by omega)).symm
        have hkV : k < S.2.1.length := by omega
        rw [u1, ← s1] at c100
        have s2 : (fun x => μ.1 108 x) (320 + k) = 1 := Int32.toInt_inj.mp (c100.trans (by decide))
        rw [u1, show i.toInt.toNat = k by omega, hp k hkV] at h
        have r1 := row_s (j := 320 + k) (v := (2 : Int32)) hr
        have v1 := row_v r1 387
        rw [v1, pUp_ne (by omega)] at h
        refine ih n2 hn2 (k + 1) _ _ h ei (by omega) (gP9_i (gP9_i hG (Or.inl rfl)) (Or.inl rfl)) ?_ (fun c hc => by rw [xpi_ne (fun q => absurd q.1 (by decide)), xpi_ne (fun q => absurd q.1 (by decide))]; exact hw c hc) (fun v hv => by rw [xpi_ne (fun q => absurd q.1 (by decide)), xpi_ne (fun q => absurd q.1 (by decide))]; exact hp v hv)
        rw [pPd_y (by omega) s2]
        exact row_s r1
      · replace c100 : ¬ (ω.1 108 ((320 : Int32) + i).toInt.toNat).toInt = 1 := c100
        replace h := tx_goto (t := 134) h em131_103 (by decide)
        replace h := tx_iinc (v := 1) (p' := 137) h em131_134 (by decide +kernel) rfl rfl
        replace h : eT xq_131 _ 137 [some (.inr (.inl (some 75))), some (.inl (i + 1))] [] ω r μ' := h
        obtain ⟨n2, hn2, h⟩ := tx_gotoS (t := 76) h em131_137 (by decide)
        have ei : (i + 1).toInt = ((k + 1 : Nat) : Int) := by rw [an_add (by rw [e1i]; omega) (by rw [e1i]; omega), e1i]; omega
        have u1 : ((320 : Int32) + i).toInt.toNat = 320 + k := by
          have : ((320 : Int32) + i).toInt = 320 + (k : Int) := by rw [an_add (by rw [e320]; omega) (by rw [e320]; omega), e320, hi]
          omega
        have s1 : (fun x => μ.1 108 x) (320 + k) = ω.1 108 (320 + k) := by
          rw [row_v hr (320 + k)]
          unfold pPd
          rw [pUp_ne (by omega)]
          exact (pDn_ne (by omega)).symm
        rw [u1, ← s1] at c100
        refine ih n2 hn2 (k + 1) _ _ h ei (by omega) hG ?_ hw hp
        rw [pPd_n (fun q => c100 (congrArg Int32.toInt q))]
        exact hr
  have L34 : ∀ (n k : Nat) (i : Int32) (ω : xM), eT xq_131 n 34 [some (.inr (.inl (some 75))), some (.inl i)] [] ω r μ' → i.toInt = (k : Int) → k ≤ 8 * S.1.length → gP9 μ ω → (fun x => ω.1 108 x) = (fun x => μ.1 108 x) → (∀ c, c < k → ω.1 110 c = pWr S (fun x => μ.1 108 x) (c / 8) (c % 8)) → (∀ v, v < S.2.1.length → ω.1 111 v = pPy S (μ.1 108 386) v) → r = none ∧ gP9 μ μ' ∧ (fun x => μ'.1 108 x) = pDy S (μ.1 75 7) (μ.1 75 6) (fun x => μ.1 108 x) ∧ ∀ c, c < 8 * S.1.length → (μ'.1 109 c = 1 ∧ pGn S.2.2.1.1 (pWr S (fun x => μ.1 108 x) (c / 8) (c % 8)) c (pWn S (fun x => μ.1 108 x) c (pPd S S.2.1.length (fun x => μ.1 108 x)))) ∨ (μ'.1 109 c = 0 ∧ ¬ pGn S.2.2.1.1 (pWr S (fun x => μ.1 108 x) (c / 8) (c % 8)) c (pWn S (fun x => μ.1 108 x) c (pPd S S.2.1.length (fun x => μ.1 108 x)))) := by
    intro n
    induction n using Nat.strongRecOn with
    | ind n ih =>
    intro k i ω h hi hk hG hr hw hp
    have hSω := rS9_P hS hG
    have hlv : (ω.1 75 2).toInt.toNat = s := by have := hSω.2.1.2; omega
    have hVV : (ω.1 86 (ω.1 75 2).toInt.toNat).toInt = (S.2.1.length : Int) := by rw [hlv]; exact hSω.2.2.1.1.2.1
    have hHH : (ω.1 84 (ω.1 75 2).toInt.toNat).toInt = (S.1.length : Int) := by rw [hlv]; exact hSω.2.2.1.1.1
    have e8H : ((8 : Int32) * (ω.1 84 (ω.1 75 2).toInt.toNat)).toInt = 8 * (S.1.length : Int) := by rw [an_mul (by rw [e8i, hHH]; omega) (by rw [e8i, hHH]; omega), e8i, hHH]
    replace h := tx_iload_n (p' := 35) h em131_34 rfl rfl
    replace h := tx_bipush (v := 8) (p' := 37) h em131_35 (by decide +kernel) rfl
    replace h := tx_aload_n (p' := 38) h em131_37 rfl rfl
    replace h := tx_getc (c := 12) (j := 3) (p' := 41) h em131_38 ((congrFun xo_12 43).trans rfl) rfl rfl rfl
    replace h := tx_aload_n (p' := 42) h em131_41 rfl rfl
    replace h := tx_getf (c := 12) (j := 2) (p' := 45) h em131_42 ((congrFun xo_12 230).trans rfl) rfl rfl (by decide) rfl
    obtain ⟨hb45, h⟩ := tx_iald (len := 2) (p' := 46) h em131_45 rfl rfl
    replace hb45 : (0 : Int) ≤ (ω.1 75 2).toInt ∧ (ω.1 75 2).toInt < 2 := hb45
    replace h := tx_imul (p' := 47) h em131_46 rfl
    rcases tx_icmp (t := 74) (p' := 50) h em131_47 (by decide) rfl with ⟨c47, h⟩ | ⟨c47, h⟩
    · replace c47 : ((8 : Int32) * (ω.1 84 (ω.1 75 2).toInt.toNat)).toInt ≤ i.toInt := c47
      replace h := tx_iconst (v := 0) (p' := 75) h em131_74 (by decide +kernel) rfl
      replace h := tx_istore_n (p' := 76) h em131_75 rfl
      replace h : eT xq_131 _ 76 [some (.inr (.inl (some 75))), some (.inl (0 : Int32))] [] ω r μ' := h
      have ek : k = 8 * S.1.length := by omega
      exact L76 _ 0 _ _ h (by decide) (Nat.zero_le _) hG (hr.trans pPd_0.symm) (fun c hc => hw c (by omega)) hp
    · replace c47 : ¬ ((8 : Int32) * (ω.1 84 (ω.1 75 2).toInt.toNat)).toInt ≤ i.toInt := c47
      replace h := tx_aload_n (p' := 51) h em131_50 rfl rfl
      replace h := tx_getc (c := 12) (j := 15) (p' := 54) h em131_51 ((congrFun xo_12 122).trans rfl) rfl rfl rfl
      replace h := tx_iload_n (p' := 55) h em131_54 rfl rfl
      replace h := tx_aload_n (p' := 56) h em131_55 rfl rfl
      replace h := tx_iload_n (p' := 57) h em131_56 rfl rfl
      replace h := tx_bipush (v := 8) (p' := 59) h em131_57 (by decide +kernel) rfl
      obtain ⟨hz59, h⟩ := tx_idiv (p' := 60) h em131_59 rfl
      replace h := tx_iload_n (p' := 61) h em131_60 rfl rfl
      replace h := tx_bipush (v := 8) (p' := 63) h em131_61 (by decide +kernel) rfl
      obtain ⟨hz63, h⟩ := tx_irem (p' := 64) h em131_63 rfl
      obtain ⟨r64, μ64, hE64, h⟩ := tx_invV (na := 3) (mn := 199) (as := [.inr (.inl (some 75)), .inl (i / (8 : Int32)), .inl (i - i / (8 : Int32) * (8 : Int32))]) (rest := [.inl i, .inr (.inl (some 110))]) (p' := 67) h em131_64 ((congrFun xo_12 389).trans rfl) xm_199 rfl rfl
      have d1 : (i / (8 : Int32)).toInt = ((k / 8 : Nat) : Int) := by
        have := an_div (x := i) (y := 8) (by omega) (by decide)
        rw [this, e8i, hi]; omega
      have d2 : (i / (8 : Int32) * (8 : Int32)).toInt = ((k / 8 * 8 : Nat) : Int) := by rw [an_mul (by rw [d1, e8i]; omega) (by rw [d1, e8i]; omega), d1, e8i]; omega
      have d3 : (i - i / (8 : Int32) * (8 : Int32)).toInt = ((k % 8 : Nat) : Int) := by rw [an_sub (by rw [d2]; omega) (by rw [d2]; omega), d2, hi]; omega
      obtain ⟨g1, rfl⟩ := ex_mwears (hn := k / 8) (ln := k % 8) hE64 hSω d1 (by omega) d3 (by omega)
      replace h : eT xq_131 _ 67 [some (.inr (.inl (some 75))), some (.inl i)] [.inl (pWr S (fun x => ω.1 108 x) (k / 8) (k % 8)), .inl i, .inr (.inl (some 110))] μ64 r μ' := h
      obtain ⟨hb67, h⟩ := tx_iast (len := 40) (p' := 68) h em131_67 rfl rfl
      replace hb67 : (0 : Int) ≤ i.toInt ∧ i.toInt < 40 := hb67
      replace h := tx_iinc (v := 1) (p' := 71) h em131_68 (by decide +kernel) rfl rfl
      replace h : eT xq_131 _ 71 [some (.inr (.inl (some 75))), some (.inl (i + 1))] [] (xpi μ64 110 i.toInt.toNat (pWr S (fun x => ω.1 108 x) (k / 8) (k % 8))) r μ' := h
      obtain ⟨n2, hn2, h⟩ := tx_gotoS (t := 34) h em131_71 (by decide)
      have ei : (i + 1).toInt = ((k + 1 : Nat) : Int) := by rw [an_add (by rw [e1i]; omega) (by rw [e1i]; omega), e1i]; omega
      rw [show i.toInt.toNat = k by omega] at h
      refine ih n2 hn2 (k + 1) _ _ h ei (by omega) (gP9_i (gP9_tr hG (gP9_M g1)) (by decide)) ?_ (fun c hc => ?_) (fun v hv => ?_)
      · rw [row_o (by decide) rfl, ← hr]
        funext x
        exact gM_c g1 (by decide) (by decide) (by decide)
      · by_cases e : c = k
        · rw [e, xpi_at, hr]
        · rw [xpi_ne (fun q => e q.2), gM_c g1 (by decide) (by decide) (by decide)]; exact hw c (by omega)
      · rw [xpi_ne (fun q => absurd q.1 (by decide)), gM_c g1 (by decide) (by decide) (by decide)]; exact hp v hv
  have L2 : ∀ (n k : Nat) (i : Int32) (ω : xM), eT xq_131 n 2 [some (.inr (.inl (some 75))), some (.inl i)] [] ω r μ' → i.toInt = (k : Int) → k ≤ S.2.1.length → gP9 μ ω → (fun x => ω.1 108 x) = (fun x => μ.1 108 x) → (∀ v, v < k → ω.1 111 v = pPy S (μ.1 108 386) v) → r = none ∧ gP9 μ μ' ∧ (fun x => μ'.1 108 x) = pDy S (μ.1 75 7) (μ.1 75 6) (fun x => μ.1 108 x) ∧ ∀ c, c < 8 * S.1.length → (μ'.1 109 c = 1 ∧ pGn S.2.2.1.1 (pWr S (fun x => μ.1 108 x) (c / 8) (c % 8)) c (pWn S (fun x => μ.1 108 x) c (pPd S S.2.1.length (fun x => μ.1 108 x)))) ∨ (μ'.1 109 c = 0 ∧ ¬ pGn S.2.2.1.1 (pWr S (fun x => μ.1 108 x) (c / 8) (c % 8)) c (pWn S (fun x => μ.1 108 x) c (pPd S S.2.1.length (fun x => μ.1 108 x)))) := by
    intro n
    induction n using Nat.strongRecOn with
    | ind n ih =>
    intro k i ω h hi hk hG hr hp
    have hSω := rS9_P hS hG
    have hlv : (ω.1 75 2).toInt.toNat = s := by have := hSω.2.1.2; omega
    have hVV : (ω.1 86 (ω.1 75 2).toInt.toNat).toInt = (S.2.1.length : Int) := by rw [hlv]; exact hSω.2.2.1.1.2.1
    have hHH : (ω.1 84 (ω.1 75 2).toInt.toNat).toInt = (S.1.length : Int) := by rw [hlv]; exact hSω.2.2.1.1.1
    have e8H : ((8 : Int32) * (ω.1 84 (ω.1 75 2).toInt.toNat)).toInt = 8 * (S.1.length : Int) := by rw [an_mul (by rw [e8i, hHH]; omega) (by rw [e8i, hHH]; omega), e8i, hHH]
    replace h := tx_iload_n (p' := 3) h em131_2 rfl rfl
    replace h := tx_aload_n (p' := 4) h em131_3 rfl rfl
    replace h := tx_getc (c := 12) (j := 4) (p' := 7) h em131_4 ((congrFun xo_12 49).trans rfl) rfl rfl rfl
    replace h := tx_aload_n (p' := 8) h em131_7 rfl rfl
    replace h := tx_getf (c := 12) (j := 2) (p' := 11) h em131_8 ((congrFun xo_12 230).trans rfl) rfl rfl (by decide) rfl
    obtain ⟨hb11, h⟩ := tx_iald (len := 2) (p' := 12) h em131_11 rfl rfl
    replace hb11 : (0 : Int) ≤ (ω.1 75 2).toInt ∧ (ω.1 75 2).toInt < 2 := hb11
    rcases tx_icmp (t := 32) (p' := 15) h em131_12 (by decide) rfl with ⟨c12, h⟩ | ⟨c12, h⟩
    · replace c12 : (ω.1 86 (ω.1 75 2).toInt.toNat).toInt ≤ i.toInt := c12
      replace h := tx_iconst (v := 0) (p' := 33) h em131_32 (by decide +kernel) rfl
      replace h := tx_istore_n (p' := 34) h em131_33 rfl
      replace h : eT xq_131 _ 34 [some (.inr (.inl (some 75))), some (.inl (0 : Int32))] [] ω r μ' := h
      have ek : k = S.2.1.length := by omega
      exact L34 _ 0 _ _ h (by decide) (Nat.zero_le _) hG hr (fun c hc => absurd hc (Nat.not_lt_zero c)) (fun v hv => hp v (by omega))
    · replace c12 : ¬ (ω.1 86 (ω.1 75 2).toInt.toNat).toInt ≤ i.toInt := c12
      replace h := tx_aload_n (p' := 16) h em131_15 rfl rfl
      replace h := tx_getc (c := 12) (j := 14) (p' := 19) h em131_16 ((congrFun xo_12 125).trans rfl) rfl rfl rfl
      replace h := tx_iload_n (p' := 20) h em131_19 rfl rfl
      replace h := tx_aload_n (p' := 21) h em131_20 rfl rfl
      replace h := tx_iload_n (p' := 22) h em131_21 rfl rfl
      obtain ⟨r22, μ22, hE22, h⟩ := tx_invV (na := 2) (mn := 175) (as := [.inr (.inl (some 75)), .inl i]) (rest := [.inl i, .inr (.inl (some 111))]) (p' := 25) h em131_22 ((congrFun xo_12 386).trans rfl) xm_175 rfl rfl
      have hkV : k < S.2.1.length := by omega
      obtain ⟨g1, rfl⟩ := ex_mpays (vn := k) hE22 hSω hi hkV
      replace h : eT xq_131 _ 25 [some (.inr (.inl (some 75))), some (.inl i)] [.inl (pPy S (ω.1 108 386) k), .inl i, .inr (.inl (some 111))] μ22 r μ' := h
      obtain ⟨hb25, h⟩ := tx_iast (len := 7) (p' := 26) h em131_25 rfl rfl
      replace hb25 : (0 : Int) ≤ i.toInt ∧ i.toInt < 7 := hb25
      replace h := tx_iinc (v := 1) (p' := 29) h em131_26 (by decide +kernel) rfl rfl
      replace h : eT xq_131 _ 29 [some (.inr (.inl (some 75))), some (.inl (i + 1))] [] (xpi μ22 111 i.toInt.toNat (pPy S (ω.1 108 386) k)) r μ' := h
      obtain ⟨n2, hn2, h⟩ := tx_gotoS (t := 2) h em131_29 (by decide)
      have ei : (i + 1).toInt = ((k + 1 : Nat) : Int) := by rw [an_add (by rw [e1i]; omega) (by rw [e1i]; omega), e1i]; omega
      rw [show i.toInt.toNat = k by omega] at h
      refine ih n2 hn2 (k + 1) _ _ h ei (by omega) (gP9_i (gP9_tr hG (gP9_M g1)) (by decide)) ?_ (fun v hv => ?_)
      · rw [row_o (by decide) rfl, ← hr]
        funext x
        exact gM_c g1 (by decide) (by decide) (by decide)
      · by_cases e : v = k
        · rw [e, xpi_at, row_v hr 386]
        · rw [xpi_ne (fun q => e q.2), gM_c g1 (by decide) (by decide) (by decide)]; exact hp v (by omega)
  replace h := tx_iconst (v := 0) (p' := 1) h em131_0 (by decide +kernel) rfl
  replace h := tx_istore_n (p' := 2) h em131_1 rfl
  replace h : eT xq_131 _ 2 [some (.inr (.inl (some 75))), some (.inl (0 : Int32))] [] μ r μ' := h
  exact L2 _ 0 _ _ h (by decide) (Nat.zero_le _) gP9_rf rfl (fun v hv => absurd hv (Nat.not_lt_zero v))
set_option maxRecDepth 10000 in
set_option maxHeartbeats 4000000 in
theorem ex_mgoes {nn : Int32} {S : kSt} {s : Nat} {μ μ' : xM} {r : Option zV} (h0 : Ex gx xq_143 [.inr (.inl (some 75)), .inl nn] μ r μ') (hS : rS9 S s μ) (hI : pI S (fun x => μ.1 108 x)) (hn0 : 0 ≤ nn.toInt) : r = none ∧ gP9 μ μ' ∧ (fun x => μ'.1 108 x) = pDys S (μ.1 75 7) (μ.1 75 6) nn.toInt.toNat (fun x => μ.1 108 x) := by
  obtain ⟨n, h⟩ := tx_in (L := [some (.inr (.inl (some 75))), some (.inl nn), none]) h0 rfl
  have e1i : (1 : Int32).toInt = 1 := by decide
  have hnh := an_hi nn
  have loop : ∀ (n k : Nat) (i : Int32) (ω : xM), eT xq_143 n 2 [some (.inr (.inl (some 75))), some (.inl nn), some (.inl i)] [] ω r μ' → i.toInt = (k : Int) → k ≤ nn.toInt.toNat → gP9 μ ω → (fun x => ω.1 108 x) = pDys S (μ.1 75 7) (μ.1 75 6) k (fun x => μ.1 108 x) → r = none ∧ gP9 μ μ' ∧ (fun x => μ'.1 108 x) = pDys S (μ.1 75 7) (μ.1 75 6) nn.toInt.toNat (fun x => μ.1 108 x) := by
    intro n
    induction n using Nat.strongRecOn with
    | ind n ih =>
    intro k i ω h hi hk hG hr
    have hSω := rS9_P hS hG
    replace h := tx_iload_n (p' := 3) h em143_2 rfl rfl
    replace h := tx_iload_n (p' := 4) h em143_3 rfl rfl
    rcases tx_icmp (t := 17) (p' := 7) h em143_4 (by decide) rfl with ⟨c4, h⟩ | ⟨c4, h⟩
    · replace c4 : nn.toInt ≤ i.toInt := c4
      obtain ⟨rfl, hμ⟩ := tx_return h em143_17
      rw [hμ]
      have ek : k = nn.toInt.toNat := by omega
      rw [ek] at hr
      exact ⟨rfl, hG, hr⟩
    · replace c4 : ¬ nn.toInt ≤ i.toInt := c4
      replace h := tx_aload_n (p' := 8) h em143_7 rfl rfl
      obtain ⟨r8, μ8, hE8, h⟩ := tx_invV (na := 1) (mn := 131) (as := [.inr (.inl (some 75))]) (rest := []) (p' := 11) h em143_8 ((congrFun xo_12 402).trans rfl) xm_131 rfl rfl
      have h6 : ω.1 75 6 = μ.1 75 6 := hG.1 75 6 (by decide) (by decide) (by decide) (by decide) (by decide) (by decide) (by decide)
      have h7 : ω.1 75 7 = μ.1 75 7 := hG.1 75 7 (by decide) (by decide) (by decide) (by decide) (by decide) (by decide) (by decide)
      have hIk := pI_dys hS.1.1 (st := μ.1 75 7) (sd := μ.1 75 6) hI k
      obtain ⟨rfl, k1, k2, -⟩ := ex_mday hE8 hSω (by rw [hr]; exact hIk)
      rw [hr, h6, h7] at k2
      replace h : eT xq_143 _ 11 [some (.inr (.inl (some 75))), some (.inl nn), some (.inl i)] [] μ8 r μ' := h
      replace h := tx_iinc (v := 1) (p' := 14) h em143_11 (by decide +kernel) rfl rfl
      replace h : eT xq_143 _ 14 [some (.inr (.inl (some 75))), some (.inl nn), some (.inl (i + 1))] [] μ8 r μ' := h
      obtain ⟨n2, hn2, h⟩ := tx_gotoS (t := 2) h em143_14 (by decide)
      have ei : (i + 1).toInt = ((k + 1 : Nat) : Int) := by rw [an_add (by rw [e1i]; omega) (by rw [e1i]; omega), e1i]; omega
      exact ih n2 hn2 (k + 1) _ _ h ei (by omega) (gP9_tr hG k1) k2
  replace h := tx_iconst (v := 0) (p' := 1) h em143_0 (by decide +kernel) rfl
  replace h := tx_istore_n (p' := 2) h em143_1 rfl
  replace h : eT xq_143 _ 2 [some (.inr (.inl (some 75))), some (.inl nn), some (.inl (0 : Int32))] [] μ r μ' := h
  exact loop _ 0 _ _ h (by decide) (Nat.zero_le _) gP9_rf rfl
