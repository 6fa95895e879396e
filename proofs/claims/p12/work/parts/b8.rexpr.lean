/-- a unit -/
def pUn (K : Int → Int) : pP := fun a => if K a = 3 ∨ 140 ≤ K a then pOn a else (a, 1)
theorem kmp_v {x : Int} : 140 ≤ kmp x ↔ (32 ≤ x ∧ x ≤ 40) := by
  unfold kmp
  constructor
  · intro h
    repeat' split at h
    all_goals omega
  · intro h
    repeat' split
    all_goals omega
/-- pieces that may change what an expression may -/
def stX (F : pP) (μ μ' : xM) : Prop := rE μ μ' ∧ (rF μ = 0 → 0 ≤ rT μ → rT μ ≤ 400 → rQ μ = 0 → rO (F (rT μ)) μ μ' ∧ (rF μ' = 0 → 0 ≤ rT μ' ∧ rT μ' ≤ 400 ∧ rQ μ' = 0)) ∧ (0 < rF μ → rF μ' = rF μ ∧ rV μ' = rV μ)
theorem rO_nn {x : Int × Int} {μ μ' : xM} (h : rO x μ μ') : (x.2 = 0 ↔ rF μ' = 0) := by
  rcases h with ⟨h1, h2, h3⟩ | ⟨h1, h2, h3⟩
  · exact ⟨fun _ => h2, fun _ => h1⟩
  · exact ⟨fun q => absurd q h1, fun q => by omega⟩
set_option maxRecDepth 10000 in
set_option maxHeartbeats 4000000 in
theorem ex_unit {μ μ' : xM} {r : Option zV} (h0 : Ex gx xq_231 [.inr (.inl (some 75))] μ r μ') (hb : rF μ = 0 → 0 ≤ rT μ ∧ rT μ ≤ 400) : r = none ∧ rE μ μ' ∧ (rF μ = 0 → rO (pUn (rK μ) (rT μ)) μ μ') ∧ (0 < rF μ → rF μ' = rF μ ∧ rV μ' = rV μ) ∧ rQ μ' = rQ μ := by
  obtain ⟨n, h⟩ := tx_in (L := [some (.inr (.inl (some 75)))]) h0 rfl
  replace h := tx_aload_n (p' := 1) h em231_0 rfl rfl
  replace h := tx_iconst (v := 2) (p' := 2) h em231_1 (by decide +kernel) rfl
  obtain ⟨r2, μ2, hE2, h⟩ := tx_invV (na := 2) (mn := 149) (as := [.inr (.inl (some 75)), .inl (2 : Int32)]) (rest := []) (p' := 5) h em231_2 ((congrFun xo_12 218).trans rfl) xm_149 rfl rfl
  obtain ⟨hm, ⟨rfl, i21, i22, i23⟩ | ⟨rfl, i21⟩⟩ := ex_is hE2 (by decide)
  · rw [hm] at h
    replace h : eT xq_231 _ 5 [some (.inr (.inl (some 75)))] [.inl (1 : Int32)] μ r μ' := h
    rcases tx_if (t := 29) (p' := 8) h em231_5 (by decide) rfl with ⟨c5, h⟩ | ⟨c5, h⟩
    · replace c5 : (1 : Int) = (0 : Int) := c5
      exfalso
      omega
    · replace c5 : ¬ (1 : Int) = (0 : Int) := c5
      replace h := tx_aload_n (p' := 9) h em231_8 rfl rfl
      replace h := tx_iconst (v := 0) (p' := 10) h em231_9 (by decide +kernel) rfl
      replace h := tx_aload_n (p' := 11) h em231_10 rfl rfl
      replace h := tx_getc (c := 12) (j := 21) (p' := 14) h em231_11 ((congrFun xo_12 27).trans rfl) rfl rfl rfl
      replace h := tx_aload_n (p' := 15) h em231_14 rfl rfl
      replace h := tx_getf (c := 12) (j := 25) (p' := 18) h em231_15 ((congrFun xo_12 203).trans rfl) rfl rfl (by decide) rfl
      obtain ⟨hb18, h⟩ := tx_iald (len := 403) (p' := 19) h em231_18 rfl rfl
      replace hb18 : 0 ≤ (μ.1 75 25).toInt ∧ (μ.1 75 25).toInt < 403 := hb18
      obtain ⟨r19, μ19, hE19, h⟩ := tx_invV (na := 3) (mn := 228) (as := [.inr (.inl (some 75)), .inl (0 : Int32), .inl (μ.1 80 (μ.1 75 25).toInt.toNat)]) (rest := []) (p' := 22) h em231_19 ((congrFun xo_12 310).trans rfl) xm_228 rfl rfl
      obtain ⟨rfl, hc19⟩ := ex_emit hE19
      obtain ⟨ct19, cf19, cv19, cq19⟩ := rC_f hc19
      replace h : eT xq_231 _ 22 [some (.inr (.inl (some 75)))] [] μ19 r μ' := h
      replace h := tx_aload_n (p' := 23) h em231_22 rfl rfl
      obtain ⟨r23, μ23, hE23, h⟩ := tx_invV (na := 1) (mn := 144) (as := [.inr (.inl (some 75))]) (rest := []) (p' := 26) h em231_23 ((congrFun xo_12 221).trans rfl) xm_144 rfl rfl
      obtain ⟨rfl, hs23⟩ := st_goesOn hE23 (fun q => by rw [cf19] at q; rw [ct19]; exact hb q)
      replace h : eT xq_231 _ 26 [some (.inr (.inl (some 75)))] [] μ23 r μ' := h
      replace h := tx_goto (t := 93) h em231_26 (by decide)
      obtain ⟨rfl, hμ⟩ := tx_return h em231_93
      rw [hμ]
      obtain ⟨g1, g2, g3⟩ := hs23
      refine ⟨rfl, rE_tr (rC_E hc19) (rE_m g1), fun q => ?_, fun q => by omega, by unfold rQ; rw [g1.2.1 26 (by decide) (by decide) (by decide)]; exact cq19⟩
      have g4 := g2 (by omega)
      have hor : rK μ (rT μ) = 3 ∨ 140 ≤ rK μ (rT μ) := Or.inl i22
      unfold pUn
      rw [if_pos hor, ← ct19]
      rcases g4 with ⟨k1, k2, k3⟩ | ⟨k1, k2, k3⟩
      · exact Or.inl ⟨k1, k2, k3⟩
      · exact Or.inr ⟨k1, k2, by rw [k3, rE_P (rC_E hc19)]⟩
  · rw [hm] at h
    replace h : eT xq_231 _ 5 [some (.inr (.inl (some 75)))] [.inl (0 : Int32)] μ r μ' := h
    rcases tx_if (t := 29) (p' := 8) h em231_5 (by decide) rfl with ⟨c5_1, h⟩ | ⟨c5_1, h⟩
    · replace c5_1 : (0 : Int) = (0 : Int) := c5_1
      replace h := tx_aload_n (p' := 30) h em231_29 rfl rfl
      replace h := tx_getf (c := 12) (j := 27) (p' := 33) h em231_30 ((congrFun xo_12 200).trans rfl) rfl rfl (by decide) rfl
      rcases tx_if (t := 88) (p' := 36) h em231_33 (by decide) rfl with ⟨c33, h⟩ | ⟨c33, h⟩
      · replace c33 : ¬ (μ.1 75 27).toInt = 0 := c33
        replace h := tx_aload_n (p' := 89) h em231_88 rfl rfl
        replace h := tx_iconst (v := 1) (p' := 90) h em231_89 (by decide +kernel) rfl
        obtain ⟨r90, μ90, hE90, h⟩ := tx_invV (na := 2) (mn := 133) (as := [.inr (.inl (some 75)), .inl (1 : Int32)]) (rest := []) (p' := 93) h em231_90 ((congrFun xo_12 215).trans rfl) xm_133 rfl rfl
        obtain ⟨rfl, hs90⟩ := st_fail (f0 := 1) hE90 (by decide) (by decide)
        replace h : eT xq_231 _ 93 [some (.inr (.inl (some 75)))] [] μ90 r μ' := h
        obtain ⟨rfl, hμ⟩ := tx_return h em231_93
        rw [hμ]
        obtain ⟨g1, g2, g3⟩ := hs90
        refine ⟨rfl, rE_m g1, fun q => ?_, g3, by unfold rQ; rw [g1.2.1 26 (by decide) (by decide) (by decide)]⟩
        exfalso
        unfold rF at q
        omega
      · replace c33 : ¬ ¬ (μ.1 75 27).toInt = 0 := c33
        replace h := tx_aload_n (p' := 37) h em231_36 rfl rfl
        replace h := tx_getc (c := 12) (j := 19) (p' := 40) h em231_37 ((congrFun xo_12 20).trans rfl) rfl rfl rfl
        replace h := tx_aload_n (p' := 41) h em231_40 rfl rfl
        replace h := tx_getf (c := 12) (j := 25) (p' := 44) h em231_41 ((congrFun xo_12 203).trans rfl) rfl rfl (by decide) rfl
        obtain ⟨hb44, h⟩ := tx_iald (len := 403) (p' := 45) h em231_44 rfl rfl
        replace hb44 : 0 ≤ (μ.1 75 25).toInt ∧ (μ.1 75 25).toInt < 403 := hb44
        replace h := tx_bipush (v := 32) (p' := 47) h em231_45 (by decide +kernel) rfl
        rcases tx_icmp (t := 88) (p' := 50) h em231_47 (by decide) rfl with ⟨c47, h⟩ | ⟨c47, h⟩
        · replace c47 : (μ.1 78 (μ.1 75 25).toInt.toNat).toInt < 32 := c47
          replace h := tx_aload_n (p' := 89) h em231_88 rfl rfl
          replace h := tx_iconst (v := 1) (p' := 90) h em231_89 (by decide +kernel) rfl
          obtain ⟨r90_1, μ90_1, hE90_1, h⟩ := tx_invV (na := 2) (mn := 133) (as := [.inr (.inl (some 75)), .inl (1 : Int32)]) (rest := []) (p' := 93) h em231_90 ((congrFun xo_12 215).trans rfl) xm_133 rfl rfl
          obtain ⟨rfl, hs90_1⟩ := st_fail (f0 := 1) hE90_1 (by decide) (by decide)
          replace h : eT xq_231 _ 93 [some (.inr (.inl (some 75)))] [] μ90_1 r μ' := h
          obtain ⟨rfl, hμ⟩ := tx_return h em231_93
          rw [hμ]
          obtain ⟨g1, g2, g3⟩ := hs90_1
          refine ⟨rfl, rE_m g1, fun q => ?_, g3, by unfold rQ; rw [g1.2.1 26 (by decide) (by decide) (by decide)]⟩
          have g4 := g2 q
          unfold pUn
          rw [if_neg]
          · exact g4
          · intro hk
            rcases hk with hk | hk
            · exact i21 ⟨q, hk⟩
            · have hk2 := kmp_v.mp hk
              unfold rT at hk2
              omega
        · replace c47 : ¬ (μ.1 78 (μ.1 75 25).toInt.toNat).toInt < 32 := c47
          replace h := tx_aload_n (p' := 51) h em231_50 rfl rfl
          replace h := tx_getc (c := 12) (j := 19) (p' := 54) h em231_51 ((congrFun xo_12 20).trans rfl) rfl rfl rfl
          replace h := tx_aload_n (p' := 55) h em231_54 rfl rfl
          replace h := tx_getf (c := 12) (j := 25) (p' := 58) h em231_55 ((congrFun xo_12 203).trans rfl) rfl rfl (by decide) rfl
          obtain ⟨hb58, h⟩ := tx_iald (len := 403) (p' := 59) h em231_58 rfl rfl
          replace hb58 : 0 ≤ (μ.1 75 25).toInt ∧ (μ.1 75 25).toInt < 403 := hb58
          replace h := tx_bipush (v := 40) (p' := 61) h em231_59 (by decide +kernel) rfl
          rcases tx_icmp (t := 88) (p' := 64) h em231_61 (by decide) rfl with ⟨c61, h⟩ | ⟨c61, h⟩
          · replace c61 : 40 < (μ.1 78 (μ.1 75 25).toInt.toNat).toInt := c61
            replace h := tx_aload_n (p' := 89) h em231_88 rfl rfl
            replace h := tx_iconst (v := 1) (p' := 90) h em231_89 (by decide +kernel) rfl
            obtain ⟨r90_2, μ90_2, hE90_2, h⟩ := tx_invV (na := 2) (mn := 133) (as := [.inr (.inl (some 75)), .inl (1 : Int32)]) (rest := []) (p' := 93) h em231_90 ((congrFun xo_12 215).trans rfl) xm_133 rfl rfl
            obtain ⟨rfl, hs90_2⟩ := st_fail (f0 := 1) hE90_2 (by decide) (by decide)
            replace h : eT xq_231 _ 93 [some (.inr (.inl (some 75)))] [] μ90_2 r μ' := h
            obtain ⟨rfl, hμ⟩ := tx_return h em231_93
            rw [hμ]
            obtain ⟨g1, g2, g3⟩ := hs90_2
            refine ⟨rfl, rE_m g1, fun q => ?_, g3, by unfold rQ; rw [g1.2.1 26 (by decide) (by decide) (by decide)]⟩
            have g4 := g2 q
            unfold pUn
            rw [if_neg]
            · exact g4
            · intro hk
              rcases hk with hk | hk
              · exact i21 ⟨q, hk⟩
              · have hk2 := kmp_v.mp hk
                unfold rT at hk2
                omega
          · replace c61 : ¬ 40 < (μ.1 78 (μ.1 75 25).toInt.toNat).toInt := c61
            replace h := tx_aload_n (p' := 65) h em231_64 rfl rfl
            replace h := tx_iconst (v := 1) (p' := 66) h em231_65 (by decide +kernel) rfl
            replace h := tx_aload_n (p' := 67) h em231_66 rfl rfl
            replace h := tx_getc (c := 12) (j := 19) (p' := 70) h em231_67 ((congrFun xo_12 20).trans rfl) rfl rfl rfl
            replace h := tx_aload_n (p' := 71) h em231_70 rfl rfl
            replace h := tx_getf (c := 12) (j := 25) (p' := 74) h em231_71 ((congrFun xo_12 203).trans rfl) rfl rfl (by decide) rfl
            obtain ⟨hb74, h⟩ := tx_iald (len := 403) (p' := 75) h em231_74 rfl rfl
            replace hb74 : 0 ≤ (μ.1 75 25).toInt ∧ (μ.1 75 25).toInt < 403 := hb74
            replace h := tx_bipush (v := 32) (p' := 77) h em231_75 (by decide +kernel) rfl
            replace h := tx_isub (p' := 78) h em231_77 rfl
            obtain ⟨r78, μ78, hE78, h⟩ := tx_invV (na := 3) (mn := 228) (as := [.inr (.inl (some 75)), .inl (1 : Int32), .inl ((μ.1 78 (μ.1 75 25).toInt.toNat) - (32 : Int32))]) (rest := []) (p' := 81) h em231_78 ((congrFun xo_12 310).trans rfl) xm_228 rfl rfl
            obtain ⟨rfl, hc78⟩ := ex_emit hE78
            obtain ⟨ct78, cf78, cv78, cq78⟩ := rC_f hc78
            replace h : eT xq_231 _ 81 [some (.inr (.inl (some 75)))] [] μ78 r μ' := h
            replace h := tx_aload_n (p' := 82) h em231_81 rfl rfl
            obtain ⟨r82, μ82, hE82, h⟩ := tx_invV (na := 1) (mn := 144) (as := [.inr (.inl (some 75))]) (rest := []) (p' := 85) h em231_82 ((congrFun xo_12 221).trans rfl) xm_144 rfl rfl
            obtain ⟨rfl, hs82⟩ := st_goesOn hE82 (fun q => by rw [cf78] at q; rw [ct78]; exact hb q)
            replace h : eT xq_231 _ 85 [some (.inr (.inl (some 75)))] [] μ82 r μ' := h
            replace h := tx_goto (t := 93) h em231_85 (by decide)
            obtain ⟨rfl, hμ⟩ := tx_return h em231_93
            rw [hμ]
            obtain ⟨g1, g2, g3⟩ := hs82
            refine ⟨rfl, rE_tr (rC_E hc78) (rE_m g1), fun q => ?_, fun q => by unfold rF at q; omega, by unfold rQ; rw [g1.2.1 26 (by decide) (by decide) (by decide)]; exact cq78⟩
            have g4 := g2 (by omega)
            have hor : rK μ (rT μ) = 3 ∨ 140 ≤ rK μ (rT μ) := Or.inr (show 140 ≤ kmp (μ.1 78 (μ.1 75 25).toInt.toNat).toInt from kmp_v.mpr ⟨by omega, by omega⟩)
            unfold pUn
            rw [if_pos hor, ← ct78]
            rcases g4 with ⟨k1, k2, k3⟩ | ⟨k1, k2, k3⟩
            · exact Or.inl ⟨k1, k2, k3⟩
            · exact Or.inr ⟨k1, k2, by rw [k3, rE_P (rC_E hc78)]⟩
    · replace c5_1 : ¬ (0 : Int) = (0 : Int) := c5_1
      exfalso
      omega
/-- where an expression stands: a unit is wanted (m false), or stands behind (true); or it has failed -/
def xWv (μ ν : xM) (m : Bool) : Prop := rE μ ν ∧ ((rF ν = 0 ∧ xs (rK μ) (rT μ) 0 false = xs (rK μ) (rT ν) (rQ ν) m ∧ (0 ≤ rT ν ∧ rT ν ≤ 400) ∧ 0 ≤ rQ ν ∧ rQ ν ≤ 6) ∨ (0 < rF ν ∧ ∃ p : Int, xs (rK μ) (rT μ) 0 false = (p, rF ν) ∧ rV ν = rP μ p))
theorem xWv_b {μ ν : xM} {m : Bool} (h : xWv μ ν m) : 0 ≤ rF ν ∧ (rF ν = 0 → 0 ≤ rT ν ∧ rT ν ≤ 400) := by
  obtain ⟨-, ⟨h1, -, h2, -⟩ | ⟨h1, -⟩⟩ := h
  · exact ⟨by omega, fun _ => h2⟩
  · exact ⟨by omega, fun q => by omega⟩
/-- a move: the fields t, fault, faultPlace by F, all else that counts as it is said -/
theorem xWv_mv {μ ν ν1 ν2 : xM} {m m2 : Bool} {F : pP} (h : xWv μ ν m) (h1 : rE ν ν1) (e1 : rT ν1 = rT ν ∧ rF ν1 = rF ν ∧ rV ν1 = rV ν) (hs : stM F ν1 ν2) (hF : rF ν = 0 → (F (rT ν)).2 = 0 → xs (rK μ) (rT ν) (rQ ν) m = xs (rK μ) (F (rT ν)).1 (rQ ν1) m2 ∧ (0 ≤ (F (rT ν)).1 ∧ (F (rT ν)).1 ≤ 400) ∧ 0 ≤ rQ ν1 ∧ rQ ν1 ≤ 6) (hF2 : rF ν = 0 → ¬ (F (rT ν)).2 = 0 → 0 < (F (rT ν)).2 ∧ xs (rK μ) (rT ν) (rQ ν) m = F (rT ν)) : xWv μ ν2 m2 := by
  obtain ⟨g1, g2, g3⟩ := hs
  obtain ⟨h2, h3⟩ := h
  have hE := rE_tr h2 h1
  have hq : rQ ν2 = rQ ν1 := by unfold rQ; rw [g1.2.1 26 (by decide) (by decide) (by decide)]
  refine ⟨rE_tr hE (rE_m g1), ?_⟩
  obtain ⟨e1, e2, e3⟩ := e1
  rcases h3 with ⟨k1, k2, k3, k4⟩ | ⟨k1, p, k2, k3⟩
  · have g4 := g2 (by omega)
    rw [e1] at g4
    rcases g4 with ⟨l1, l2, l3⟩ | ⟨l1, l2, l3⟩
    · obtain ⟨m1, m2, m3⟩ := hF k1 l1
      exact Or.inl ⟨l2, by rw [k2, m1, l3, hq], by rw [l3]; exact m2, by rw [hq]; exact m3⟩
    · obtain ⟨m1, m2⟩ := hF2 k1 l1
      exact Or.inr ⟨by omega, (F (rT ν)).1, by rw [k2, m2, l2], by rw [l3, rE_P hE]⟩
  · have g4 := g3 (by omega)
    exact Or.inr ⟨by omega, p, by rw [k2, g4.1, e2], by rw [g4.2, e3, k3]⟩
theorem pOn_y {a : Int} (h : ¬ a = 400) : pOn a = (a + 1, 0) := by unfold pOn; rw [if_neg h]
theorem pOn_n {a : Int} (h : a = 400) : pOn a = (a, 2) := by unfold pOn; rw [if_pos h]
theorem rQ_p {μ : xM} {v : Int32} : rQ (xpi μ 75 26 v) = v.toInt := by unfold rQ; rw [xpi_at]
theorem rQ_inc {μ : xM} {k : Int} {v : Int32} (hv : v.toInt = k) (h0 : -10 ≤ rQ μ) (h1 : rQ μ ≤ 100) (hk : -1 ≤ k ∧ k ≤ 1) : (μ.1 75 26 + v).toInt = rQ μ + k := by unfold rQ at *; rw [an_add (by omega) (by omega), hv]
theorem rQ_dec {μ : xM} (h0 : -10 ≤ rQ μ) (h1 : rQ μ ≤ 100) : (μ.1 75 26 - 1).toInt = rQ μ - 1 := by
  unfold rQ at *
  have e1 : (1 : Int32).toInt = 1 := by decide
  rw [an_sub (by omega) (by omega), e1]
theorem xWv_on {μ ν ν1 ν2 : xM} {m m2 : Bool} (h : xWv μ ν m) (h1 : rE ν ν1) (e1 : rT ν1 = rT ν ∧ rF ν1 = rF ν ∧ rV ν1 = rV ν) (hs : stM pOn ν1 ν2) (hq : rF ν = 0 → 0 ≤ rQ ν1 ∧ rQ ν1 ≤ 6) (hy : rF ν = 0 → 0 ≤ rT ν → rT ν ≤ 399 → xs (rK μ) (rT ν) (rQ ν) m = xs (rK μ) (rT ν + 1) (rQ ν1) m2) (hn : rF ν = 0 → rT ν = 400 → xs (rK μ) (rT ν) (rQ ν) m = (rT ν, 2)) : xWv μ ν2 m2 := by
  have hb := (xWv_b h).2
  refine xWv_mv h h1 e1 hs (fun f0 q => ?_) (fun f0 q => ?_)
  · have hb := hb f0
    by_cases h4 : rT ν = 400
    · rw [pOn_n h4] at q
      exact absurd (show (2 : Int) = 0 from q) (by decide)
    · rw [pOn_y h4]
      exact ⟨hy f0 (by omega) (by omega), by show 0 ≤ rT ν + 1 ∧ rT ν + 1 ≤ 400; omega, hq f0⟩
  · by_cases h4 : rT ν = 400
    · rw [pOn_n h4]
      exact ⟨by show (0 : Int) < 2; omega, hn f0 h4⟩
    · rw [pOn_y h4] at q
      exact absurd rfl q
theorem xWv_fl {μ ν ν2 : xM} {m m2 : Bool} {f : Int} (h : xWv μ ν m) (hs : stM (fun a => (a, f)) ν ν2) (hf : 0 < f) (hn : rF ν = 0 → xs (rK μ) (rT ν) (rQ ν) m = (rT ν, f)) : xWv μ ν2 m2 := xWv_mv h rE_rf ⟨rfl, rfl, rfl⟩ hs (fun _ q => absurd (show f = 0 from q) (by omega)) (fun f0 _ => ⟨hf, hn f0⟩)
theorem xWv_dead {μ ν ν2 : xM} {m m2 : Bool} (h : xWv μ ν m) (hd : 0 < rF ν) (h1 : rE ν ν2) (e1 : rF ν2 = rF ν ∧ rV ν2 = rV ν) : xWv μ ν2 m2 := by
  obtain ⟨h2, ⟨k1, -⟩ | ⟨k1, p, k2, k3⟩⟩ := h
  · omega
  · exact ⟨rE_tr h2 h1, Or.inr ⟨by omega, p, by rw [k2, e1.1], by rw [e1.2, k3]⟩⟩
theorem xWv_out {μ ν : xM} {m : Bool} (h : xWv μ ν m) (hd : 0 < rF ν) : rE μ ν ∧ rO (xs (rK μ) (rT μ) 0 false) μ ν ∧ (rF ν = 0 → 0 ≤ rT ν ∧ rT ν ≤ 400 ∧ rQ ν = 0) := by
  obtain ⟨h2, ⟨k1, -⟩ | ⟨k1, p, k2, k3⟩⟩ := h
  · omega
  · exact ⟨h2, Or.inr ⟨by rw [k2]; show ¬ rF ν = 0; omega, by rw [k2], by rw [k2]; exact k3⟩, fun q => by omega⟩
set_option maxRecDepth 10000 in
set_option maxHeartbeats 4000000 in
theorem ex_expr {μ μ' : xM} {r : Option zV} (h0 : Ex gx xq_230 [.inr (.inl (some 75))] μ r μ') (hF0 : rF μ = 0) (ht0 : 0 ≤ rT μ) (ht4 : rT μ ≤ 400) (hq0 : rQ μ = 0) : r = none ∧ rE μ μ' ∧ rO (xs (rK μ) (rT μ) 0 false) μ μ' ∧ (rF μ' = 0 → 0 ≤ rT μ' ∧ rT μ' ≤ 400 ∧ rQ μ' = 0) := by
  obtain ⟨n, h⟩ := tx_in (L := [some (.inr (.inl (some 75))), none, none]) h0 rfl
  have main : ∀ n : Nat, (∀ (mo bs : Int32) (ν : xM), eT xq_230 n 12 [some (.inr (.inl (some 75))), some (.inl bs), some (.inl mo)] [] ν r μ' → bs.toInt = 0 → xWv μ ν false → mo.toInt = 1 → r = none ∧ rE μ μ' ∧ rO (xs (rK μ) (rT μ) 0 false) μ μ' ∧ (rF μ' = 0 → 0 ≤ rT μ' ∧ rT μ' ≤ 400 ∧ rQ μ' = 0)) ∧ (∀ (mo bs : Int32) (ν : xM), eT xq_230 n 23 [some (.inr (.inl (some 75))), some (.inl bs), some (.inl mo)] [] ν r μ' → bs.toInt = 0 → xWv μ ν false → r = none ∧ rE μ μ' ∧ rO (xs (rK μ) (rT μ) 0 false) μ μ' ∧ (rF μ' = 0 → 0 ≤ rT μ' ∧ rT μ' ≤ 400 ∧ rQ μ' = 0)) ∧ (∀ (o : Option zV) (bs : Int32) (ν : xM), eT xq_230 n 96 [some (.inr (.inl (some 75))), some (.inl bs), o] [] ν r μ' → bs.toInt = 0 → xWv μ ν true → r = none ∧ rE μ μ' ∧ rO (xs (rK μ) (rT μ) 0 false) μ μ' ∧ (rF μ' = 0 → 0 ≤ rT μ' ∧ rT μ' ≤ 400 ∧ rQ μ' = 0)) := by
    intro n
    induction n using Nat.strongRecOn with
    | ind n ih =>
    have h210 : ∀ (bs : Int32) (ν : xM) {mo : Int32}, eT xq_230 n 210 [some (.inr (.inl (some 75))), some (.inl bs), some (.inl mo)] [] ν r μ' → bs.toInt = 0 → xWv μ ν true → rF ν = 0 → (rK μ (rT ν) = 43 ∨ rK μ (rT ν) = 45 ∨ rK μ (rT ν) = 42 ∨ rK μ (rT ν) = 47) → mo.toInt = 1 → r = none ∧ rE μ μ' ∧ rO (xs (rK μ) (rT μ) 0 false) μ μ' ∧ (rF μ' = 0 → 0 ≤ rT μ' ∧ rT μ' ≤ 400 ∧ rQ μ' = 0) := by
      intro bs ν mo h hbs hW hf0 hk hmo
      replace h := tx_aload_n (p' := 211) h em230_210 rfl rfl
      replace h := tx_aload_n (p' := 212) h em230_211 rfl rfl
      replace h := tx_bipush (v := 10) (p' := 214) h em230_212 (by decide +kernel) rfl
      obtain ⟨r214, μ214, hE214, h⟩ := tx_invV (na := 2) (mn := 149) (as := [.inr (.inl (some 75)), .inl (10 : Int32)]) (rest := [.inr (.inl (some 75))]) (p' := 217) h em230_214 ((congrFun xo_12 218).trans rfl) xm_149 rfl rfl
      obtain ⟨hm, ⟨rfl, i2141, i2142, i2143⟩ | ⟨rfl, i2141⟩⟩ := ex_is hE214 (by decide)
      · rw [hm] at h
        replace h : eT xq_230 _ 217 [some (.inr (.inl (some 75))), some (.inl bs), some (.inl mo)] [.inl (1 : Int32), .inr (.inl (some 75))] ν r μ' := h
        rcases tx_if (t := 229) (p' := 220) h em230_217 (by decide) rfl with ⟨c217, h⟩ | ⟨c217, h⟩
        · replace c217 : ¬ (1 : Int) = (0 : Int) := c217
          replace h := tx_iconst (v := 1) (p' := 230) h em230_229 (by decide +kernel) rfl
          replace h := tx_goto (t := 234) h em230_230 (by decide)
          obtain ⟨r234, μ234, hE234, h⟩ := tx_invV (na := 2) (mn := 229) (as := [.inr (.inl (some 75)), .inl (1 : Int32)]) (rest := []) (p' := 237) h em230_234 ((congrFun xo_12 316).trans rfl) xm_229 rfl rfl
          obtain ⟨rfl, hc234⟩ := ex_comesOut hE234
          obtain ⟨ct234, cf234, cv234, cq234⟩ := rC_f hc234
          replace h : eT xq_230 _ 237 [some (.inr (.inl (some 75))), some (.inl bs), some (.inl mo)] [] μ234 r μ' := h
          replace h := tx_aload_n (p' := 238) h em230_237 rfl rfl
          replace h := tx_getc (c := 12) (j := 54) (p' := 241) h em230_238 ((congrFun xo_12 104).trans rfl) rfl rfl rfl
          replace h := tx_aload_n (p' := 242) h em230_241 rfl rfl
          replace h := tx_getf (c := 12) (j := 55) (p' := 245) h em230_242 ((congrFun xo_12 307).trans rfl) rfl rfl (by decide) rfl
          replace h := tx_aload_n (p' := 246) h em230_245 rfl rfl
          replace h := tx_getc (c := 12) (j := 19) (p' := 249) h em230_246 ((congrFun xo_12 20).trans rfl) rfl rfl rfl
          replace h := tx_aload_n (p' := 250) h em230_249 rfl rfl
          replace h := tx_getf (c := 12) (j := 25) (p' := 253) h em230_250 ((congrFun xo_12 203).trans rfl) rfl rfl (by decide) rfl
          obtain ⟨hb253, h⟩ := tx_iald (len := 403) (p' := 254) h em230_253 rfl rfl
          replace hb253 : 0 ≤ (μ234.1 75 25).toInt ∧ (μ234.1 75 25).toInt < 403 := hb253
          obtain ⟨hb254, h⟩ := tx_iast (len := 64) (p' := 255) h em230_254 rfl rfl
          replace hb254 : 0 ≤ (μ234.1 75 55).toInt ∧ (μ234.1 75 55).toInt < 64 := hb254
          replace h := tx_aload_n (p' := 256) h em230_255 rfl rfl
          replace h := tx_dup (p' := 257) h em230_256 rfl
          replace h := tx_getf (c := 12) (j := 55) (p' := 260) h em230_257 ((congrFun xo_12 307).trans rfl) rfl rfl (by decide) rfl
          replace h : eT xq_230 _ 260 [some (.inr (.inl (some 75))), some (.inl bs), some (.inl mo)] [.inl (μ234.1 75 55), .inr (.inl (some 75))] (xpi μ234 104 (μ234.1 75 55).toInt.toNat (μ234.1 78 (μ234.1 75 25).toInt.toNat)) r μ' := h
          replace h := tx_iconst (v := 1) (p' := 261) h em230_260 (by decide +kernel) rfl
          replace h := tx_iadd (p' := 262) h em230_261 rfl
          replace h := tx_putf (a := 75) (c := 12) (j := 55) (p' := 265) h em230_262 ((congrFun xo_12 307).trans rfl) rfl
          replace h := tx_aload_n (p' := 266) h em230_265 rfl rfl
          obtain ⟨r266, μ266, hE266, h⟩ := tx_invV (na := 1) (mn := 144) (as := [.inr (.inl (some 75))]) (rest := []) (p' := 269) h em230_266 ((congrFun xo_12 221).trans rfl) xm_144 rfl rfl
          obtain ⟨rfl, hs266⟩ := st_goesOn hE266 (fun q => by have q : rF μ234 = 0 := q; have := (xWv_b hW).2 (by omega); show 0 ≤ rT μ234 ∧ rT μ234 ≤ 400; omega)
          replace h : eT xq_230 _ 269 [some (.inr (.inl (some 75))), some (.inl bs), some (.inl mo)] [] μ266 r μ' := h
          obtain ⟨n2, hn2, h⟩ := tx_gotoS (t := 12) h em230_269 (by decide)
          exact (ih n2 hn2).1 _ _ _ h hbs (xWv_on hW (rE_f (rE_c (rC_E hc234) ⟨by decide, by decide⟩) (by omega)) (by exact ⟨ct234, cf234, cv234⟩) hs266 (fun f0 => by have := hW.2; show 0 ≤ rQ μ234 ∧ rQ μ234 ≤ 6; omega) (fun f0 h0 h3 => by show _ = xs _ _ (rQ μ234) _; rw [cq234]; exact xs_sign h0 h3 hk) (fun f0 h4 => xs_sign_f hk h4)) hmo
        · replace c217 : ¬ ¬ (1 : Int) = (0 : Int) := c217
          exfalso
          omega
      · rw [hm] at h
        replace h : eT xq_230 _ 217 [some (.inr (.inl (some 75))), some (.inl bs), some (.inl mo)] [.inl (0 : Int32), .inr (.inl (some 75))] ν r μ' := h
        rcases tx_if (t := 229) (p' := 220) h em230_217 (by decide) rfl with ⟨c217_1, h⟩ | ⟨c217_1, h⟩
        · replace c217_1 : ¬ (0 : Int) = (0 : Int) := c217_1
          exfalso
          omega
        · replace c217_1 : ¬ ¬ (0 : Int) = (0 : Int) := c217_1
          replace h := tx_aload_n (p' := 221) h em230_220 rfl rfl
          replace h := tx_bipush (v := 15) (p' := 223) h em230_221 (by decide +kernel) rfl
          obtain ⟨r223, μ223, hE223, h⟩ := tx_invV (na := 2) (mn := 149) (as := [.inr (.inl (some 75)), .inl (15 : Int32)]) (rest := [.inr (.inl (some 75))]) (p' := 226) h em230_223 ((congrFun xo_12 218).trans rfl) xm_149 rfl rfl
          obtain ⟨hm, ⟨rfl, i2231, i2232, i2233⟩ | ⟨rfl, i2231⟩⟩ := ex_is hE223 (by decide)
          · rw [hm] at h
            replace h : eT xq_230 _ 226 [some (.inr (.inl (some 75))), some (.inl bs), some (.inl mo)] [.inl (1 : Int32), .inr (.inl (some 75))] ν r μ' := h
            rcases tx_if (t := 233) (p' := 229) h em230_226 (by decide) rfl with ⟨c226, h⟩ | ⟨c226, h⟩
            · replace c226 : (1 : Int) = (0 : Int) := c226
              exfalso
              omega
            · replace c226 : ¬ (1 : Int) = (0 : Int) := c226
              replace h := tx_iconst (v := 1) (p' := 230) h em230_229 (by decide +kernel) rfl
              replace h := tx_goto (t := 234) h em230_230 (by decide)
              obtain ⟨r234_1, μ234_1, hE234_1, h⟩ := tx_invV (na := 2) (mn := 229) (as := [.inr (.inl (some 75)), .inl (1 : Int32)]) (rest := []) (p' := 237) h em230_234 ((congrFun xo_12 316).trans rfl) xm_229 rfl rfl
              obtain ⟨rfl, hc234_1⟩ := ex_comesOut hE234_1
              obtain ⟨ct234_1, cf234_1, cv234_1, cq234_1⟩ := rC_f hc234_1
              replace h : eT xq_230 _ 237 [some (.inr (.inl (some 75))), some (.inl bs), some (.inl mo)] [] μ234_1 r μ' := h
              replace h := tx_aload_n (p' := 238) h em230_237 rfl rfl
              replace h := tx_getc (c := 12) (j := 54) (p' := 241) h em230_238 ((congrFun xo_12 104).trans rfl) rfl rfl rfl
              replace h := tx_aload_n (p' := 242) h em230_241 rfl rfl
              replace h := tx_getf (c := 12) (j := 55) (p' := 245) h em230_242 ((congrFun xo_12 307).trans rfl) rfl rfl (by decide) rfl
              replace h := tx_aload_n (p' := 246) h em230_245 rfl rfl
              replace h := tx_getc (c := 12) (j := 19) (p' := 249) h em230_246 ((congrFun xo_12 20).trans rfl) rfl rfl rfl
              replace h := tx_aload_n (p' := 250) h em230_249 rfl rfl
              replace h := tx_getf (c := 12) (j := 25) (p' := 253) h em230_250 ((congrFun xo_12 203).trans rfl) rfl rfl (by decide) rfl
              obtain ⟨hb253_1, h⟩ := tx_iald (len := 403) (p' := 254) h em230_253 rfl rfl
              replace hb253_1 : 0 ≤ (μ234_1.1 75 25).toInt ∧ (μ234_1.1 75 25).toInt < 403 := hb253_1
              obtain ⟨hb254_1, h⟩ := tx_iast (len := 64) (p' := 255) h em230_254 rfl rfl
              replace hb254_1 : 0 ≤ (μ234_1.1 75 55).toInt ∧ (μ234_1.1 75 55).toInt < 64 := hb254_1
              replace h := tx_aload_n (p' := 256) h em230_255 rfl rfl
              replace h := tx_dup (p' := 257) h em230_256 rfl
              replace h := tx_getf (c := 12) (j := 55) (p' := 260) h em230_257 ((congrFun xo_12 307).trans rfl) rfl rfl (by decide) rfl
              replace h : eT xq_230 _ 260 [some (.inr (.inl (some 75))), some (.inl bs), some (.inl mo)] [.inl (μ234_1.1 75 55), .inr (.inl (some 75))] (xpi μ234_1 104 (μ234_1.1 75 55).toInt.toNat (μ234_1.1 78 (μ234_1.1 75 25).toInt.toNat)) r μ' := h
              replace h := tx_iconst (v := 1) (p' := 261) h em230_260 (by decide +kernel) rfl
              replace h := tx_iadd (p' := 262) h em230_261 rfl
              replace h := tx_putf (a := 75) (c := 12) (j := 55) (p' := 265) h em230_262 ((congrFun xo_12 307).trans rfl) rfl
              replace h := tx_aload_n (p' := 266) h em230_265 rfl rfl
              obtain ⟨r266_1, μ266_1, hE266_1, h⟩ := tx_invV (na := 1) (mn := 144) (as := [.inr (.inl (some 75))]) (rest := []) (p' := 269) h em230_266 ((congrFun xo_12 221).trans rfl) xm_144 rfl rfl
              obtain ⟨rfl, hs266_1⟩ := st_goesOn hE266_1 (fun q => by have q : rF μ234_1 = 0 := q; have := (xWv_b hW).2 (by omega); show 0 ≤ rT μ234_1 ∧ rT μ234_1 ≤ 400; omega)
              replace h : eT xq_230 _ 269 [some (.inr (.inl (some 75))), some (.inl bs), some (.inl mo)] [] μ266_1 r μ' := h
              obtain ⟨n2, hn2, h⟩ := tx_gotoS (t := 12) h em230_269 (by decide)
              exact (ih n2 hn2).1 _ _ _ h hbs (xWv_on hW (rE_f (rE_c (rC_E hc234_1) ⟨by decide, by decide⟩) (by omega)) (by exact ⟨ct234_1, cf234_1, cv234_1⟩) hs266_1 (fun f0 => by have := hW.2; show 0 ≤ rQ μ234_1 ∧ rQ μ234_1 ≤ 6; omega) (fun f0 h0 h3 => by show _ = xs _ _ (rQ μ234_1) _; rw [cq234_1]; exact xs_sign h0 h3 hk) (fun f0 h4 => xs_sign_f hk h4)) hmo
          · rw [hm] at h
            replace h : eT xq_230 _ 226 [some (.inr (.inl (some 75))), some (.inl bs), some (.inl mo)] [.inl (0 : Int32), .inr (.inl (some 75))] ν r μ' := h
            rcases tx_if (t := 233) (p' := 229) h em230_226 (by decide) rfl with ⟨c226_1, h⟩ | ⟨c226_1, h⟩
            · replace c226_1 : (0 : Int) = (0 : Int) := c226_1
              replace h := tx_iconst (v := 0) (p' := 234) h em230_233 (by decide +kernel) rfl
              obtain ⟨r234_2, μ234_2, hE234_2, h⟩ := tx_invV (na := 2) (mn := 229) (as := [.inr (.inl (some 75)), .inl (0 : Int32)]) (rest := []) (p' := 237) h em230_234 ((congrFun xo_12 316).trans rfl) xm_229 rfl rfl
              obtain ⟨rfl, hc234_2⟩ := ex_comesOut hE234_2
              obtain ⟨ct234_2, cf234_2, cv234_2, cq234_2⟩ := rC_f hc234_2
              replace h : eT xq_230 _ 237 [some (.inr (.inl (some 75))), some (.inl bs), some (.inl mo)] [] μ234_2 r μ' := h
              replace h := tx_aload_n (p' := 238) h em230_237 rfl rfl
              replace h := tx_getc (c := 12) (j := 54) (p' := 241) h em230_238 ((congrFun xo_12 104).trans rfl) rfl rfl rfl
              replace h := tx_aload_n (p' := 242) h em230_241 rfl rfl
              replace h := tx_getf (c := 12) (j := 55) (p' := 245) h em230_242 ((congrFun xo_12 307).trans rfl) rfl rfl (by decide) rfl
              replace h := tx_aload_n (p' := 246) h em230_245 rfl rfl
              replace h := tx_getc (c := 12) (j := 19) (p' := 249) h em230_246 ((congrFun xo_12 20).trans rfl) rfl rfl rfl
              replace h := tx_aload_n (p' := 250) h em230_249 rfl rfl
              replace h := tx_getf (c := 12) (j := 25) (p' := 253) h em230_250 ((congrFun xo_12 203).trans rfl) rfl rfl (by decide) rfl
              obtain ⟨hb253_2, h⟩ := tx_iald (len := 403) (p' := 254) h em230_253 rfl rfl
              replace hb253_2 : 0 ≤ (μ234_2.1 75 25).toInt ∧ (μ234_2.1 75 25).toInt < 403 := hb253_2
              obtain ⟨hb254_2, h⟩ := tx_iast (len := 64) (p' := 255) h em230_254 rfl rfl
              replace hb254_2 : 0 ≤ (μ234_2.1 75 55).toInt ∧ (μ234_2.1 75 55).toInt < 64 := hb254_2
              replace h := tx_aload_n (p' := 256) h em230_255 rfl rfl
              replace h := tx_dup (p' := 257) h em230_256 rfl
              replace h := tx_getf (c := 12) (j := 55) (p' := 260) h em230_257 ((congrFun xo_12 307).trans rfl) rfl rfl (by decide) rfl
              replace h : eT xq_230 _ 260 [some (.inr (.inl (some 75))), some (.inl bs), some (.inl mo)] [.inl (μ234_2.1 75 55), .inr (.inl (some 75))] (xpi μ234_2 104 (μ234_2.1 75 55).toInt.toNat (μ234_2.1 78 (μ234_2.1 75 25).toInt.toNat)) r μ' := h
              replace h := tx_iconst (v := 1) (p' := 261) h em230_260 (by decide +kernel) rfl
              replace h := tx_iadd (p' := 262) h em230_261 rfl
              replace h := tx_putf (a := 75) (c := 12) (j := 55) (p' := 265) h em230_262 ((congrFun xo_12 307).trans rfl) rfl
              replace h := tx_aload_n (p' := 266) h em230_265 rfl rfl
              obtain ⟨r266_2, μ266_2, hE266_2, h⟩ := tx_invV (na := 1) (mn := 144) (as := [.inr (.inl (some 75))]) (rest := []) (p' := 269) h em230_266 ((congrFun xo_12 221).trans rfl) xm_144 rfl rfl
              obtain ⟨rfl, hs266_2⟩ := st_goesOn hE266_2 (fun q => by have q : rF μ234_2 = 0 := q; have := (xWv_b hW).2 (by omega); show 0 ≤ rT μ234_2 ∧ rT μ234_2 ≤ 400; omega)
              replace h : eT xq_230 _ 269 [some (.inr (.inl (some 75))), some (.inl bs), some (.inl mo)] [] μ266_2 r μ' := h
              obtain ⟨n2, hn2, h⟩ := tx_gotoS (t := 12) h em230_269 (by decide)
              exact (ih n2 hn2).1 _ _ _ h hbs (xWv_on hW (rE_f (rE_c (rC_E hc234_2) ⟨by decide, by decide⟩) (by omega)) (by exact ⟨ct234_2, cf234_2, cv234_2⟩) hs266_2 (fun f0 => by have := hW.2; show 0 ≤ rQ μ234_2 ∧ rQ μ234_2 ≤ 6; omega) (fun f0 h0 h3 => by show _ = xs _ _ (rQ μ234_2) _; rw [cq234_2]; exact xs_sign h0 h3 hk) (fun f0 h4 => xs_sign_f hk h4)) hmo
            · replace c226_1 : ¬ (0 : Int) = (0 : Int) := c226_1
              exfalso
              omega
    have h145 : ∀ (o : Option zV) (bs : Int32) (ν : xM), eT xq_230 n 145 [some (.inr (.inl (some 75))), some (.inl bs), o] [] ν r μ' → bs.toInt = 0 → xWv μ ν true → (rF ν = 0 → ¬ (rK μ (rT ν) = 41 ∧ 0 < rQ ν)) → r = none ∧ rE μ μ' ∧ rO (xs (rK μ) (rT μ) 0 false) μ μ' ∧ (rF μ' = 0 → 0 ≤ rT μ' ∧ rT μ' ≤ 400 ∧ rQ μ' = 0) := by
      intro o bs ν h hbs hW hx
      replace h := tx_aload_n (p' := 146) h em230_145 rfl rfl
      replace h := tx_bipush (v := 8) (p' := 148) h em230_146 (by decide +kernel) rfl
      obtain ⟨r148, μ148, hE148, h⟩ := tx_invV (na := 2) (mn := 149) (as := [.inr (.inl (some 75)), .inl (8 : Int32)]) (rest := []) (p' := 151) h em230_148 ((congrFun xo_12 218).trans rfl) xm_149 rfl rfl
      obtain ⟨hm, ⟨rfl, i1481, i1482, i1483⟩ | ⟨rfl, i1481⟩⟩ := ex_is hE148 (by decide)
      · rw [hm] at h
        replace h : eT xq_230 _ 151 [some (.inr (.inl (some 75))), some (.inl bs), o] [.inl (1 : Int32)] ν r μ' := h
        rcases tx_if (t := 181) (p' := 154) h em230_151 (by decide) rfl with ⟨c151, h⟩ | ⟨c151, h⟩
        · replace c151 : ¬ (1 : Int) = (0 : Int) := c151
          replace h := tx_iconst (v := 1) (p' := 182) h em230_181 (by decide +kernel) rfl
          replace h := tx_goto (t := 186) h em230_182 (by decide)
          replace h := tx_istore_n (p' := 187) h em230_186 rfl
          replace h : eT xq_230 _ 187 [some (.inr (.inl (some 75))), some (.inl bs), some (.inl (1 : Int32))] [] ν r μ' := h
          replace h := tx_iload_n (p' := 188) h em230_187 rfl rfl
          rcases tx_if (t := 210) (p' := 191) h em230_188 (by decide) rfl with ⟨c188, h⟩ | ⟨c188, h⟩
          · replace c188 : ¬ (1 : Int) = (0 : Int) := c188
            exact h210 _ _ h hbs hW i1481 (by rw [← rE_K hW.1, i1482]; decide) (by decide)
          · replace c188 : ¬ ¬ (1 : Int) = (0 : Int) := c188
            exfalso
            omega
        · replace c151 : ¬ ¬ (1 : Int) = (0 : Int) := c151
          exfalso
          omega
      · rw [hm] at h
        replace h : eT xq_230 _ 151 [some (.inr (.inl (some 75))), some (.inl bs), o] [.inl (0 : Int32)] ν r μ' := h
        rcases tx_if (t := 181) (p' := 154) h em230_151 (by decide) rfl with ⟨c151_1, h⟩ | ⟨c151_1, h⟩
        · replace c151_1 : ¬ (0 : Int) = (0 : Int) := c151_1
          exfalso
          omega
        · replace c151_1 : ¬ ¬ (0 : Int) = (0 : Int) := c151_1
          replace h := tx_aload_n (p' := 155) h em230_154 rfl rfl
          replace h := tx_bipush (v := 9) (p' := 157) h em230_155 (by decide +kernel) rfl
          obtain ⟨r157, μ157, hE157, h⟩ := tx_invV (na := 2) (mn := 149) (as := [.inr (.inl (some 75)), .inl (9 : Int32)]) (rest := []) (p' := 160) h em230_157 ((congrFun xo_12 218).trans rfl) xm_149 rfl rfl
          obtain ⟨hm, ⟨rfl, i1571, i1572, i1573⟩ | ⟨rfl, i1571⟩⟩ := ex_is hE157 (by decide)
          · rw [hm] at h
            replace h : eT xq_230 _ 160 [some (.inr (.inl (some 75))), some (.inl bs), o] [.inl (1 : Int32)] ν r μ' := h
            rcases tx_if (t := 181) (p' := 163) h em230_160 (by decide) rfl with ⟨c160, h⟩ | ⟨c160, h⟩
            · replace c160 : ¬ (1 : Int) = (0 : Int) := c160
              replace h := tx_iconst (v := 1) (p' := 182) h em230_181 (by decide +kernel) rfl
              replace h := tx_goto (t := 186) h em230_182 (by decide)
              replace h := tx_istore_n (p' := 187) h em230_186 rfl
              replace h : eT xq_230 _ 187 [some (.inr (.inl (some 75))), some (.inl bs), some (.inl (1 : Int32))] [] ν r μ' := h
              replace h := tx_iload_n (p' := 188) h em230_187 rfl rfl
              rcases tx_if (t := 210) (p' := 191) h em230_188 (by decide) rfl with ⟨c188_1, h⟩ | ⟨c188_1, h⟩
              · replace c188_1 : ¬ (1 : Int) = (0 : Int) := c188_1
                exact h210 _ _ h hbs hW i1571 (by rw [← rE_K hW.1, i1572]; decide) (by decide)
              · replace c188_1 : ¬ ¬ (1 : Int) = (0 : Int) := c188_1
                exfalso
                omega
            · replace c160 : ¬ ¬ (1 : Int) = (0 : Int) := c160
              exfalso
              omega
          · rw [hm] at h
            replace h : eT xq_230 _ 160 [some (.inr (.inl (some 75))), some (.inl bs), o] [.inl (0 : Int32)] ν r μ' := h
            rcases tx_if (t := 181) (p' := 163) h em230_160 (by decide) rfl with ⟨c160_1, h⟩ | ⟨c160_1, h⟩
            · replace c160_1 : ¬ (0 : Int) = (0 : Int) := c160_1
              exfalso
              omega
            · replace c160_1 : ¬ ¬ (0 : Int) = (0 : Int) := c160_1
              replace h := tx_aload_n (p' := 164) h em230_163 rfl rfl
              replace h := tx_bipush (v := 10) (p' := 166) h em230_164 (by decide +kernel) rfl
              obtain ⟨r166, μ166, hE166, h⟩ := tx_invV (na := 2) (mn := 149) (as := [.inr (.inl (some 75)), .inl (10 : Int32)]) (rest := []) (p' := 169) h em230_166 ((congrFun xo_12 218).trans rfl) xm_149 rfl rfl
              obtain ⟨hm, ⟨rfl, i1661, i1662, i1663⟩ | ⟨rfl, i1661⟩⟩ := ex_is hE166 (by decide)
              · rw [hm] at h
                replace h : eT xq_230 _ 169 [some (.inr (.inl (some 75))), some (.inl bs), o] [.inl (1 : Int32)] ν r μ' := h
                rcases tx_if (t := 181) (p' := 172) h em230_169 (by decide) rfl with ⟨c169, h⟩ | ⟨c169, h⟩
                · replace c169 : ¬ (1 : Int) = (0 : Int) := c169
                  replace h := tx_iconst (v := 1) (p' := 182) h em230_181 (by decide +kernel) rfl
                  replace h := tx_goto (t := 186) h em230_182 (by decide)
                  replace h := tx_istore_n (p' := 187) h em230_186 rfl
                  replace h : eT xq_230 _ 187 [some (.inr (.inl (some 75))), some (.inl bs), some (.inl (1 : Int32))] [] ν r μ' := h
                  replace h := tx_iload_n (p' := 188) h em230_187 rfl rfl
                  rcases tx_if (t := 210) (p' := 191) h em230_188 (by decide) rfl with ⟨c188_2, h⟩ | ⟨c188_2, h⟩
                  · replace c188_2 : ¬ (1 : Int) = (0 : Int) := c188_2
                    exact h210 _ _ h hbs hW i1661 (by rw [← rE_K hW.1, i1662]; decide) (by decide)
                  · replace c188_2 : ¬ ¬ (1 : Int) = (0 : Int) := c188_2
                    exfalso
                    omega
                · replace c169 : ¬ ¬ (1 : Int) = (0 : Int) := c169
                  exfalso
                  omega
              · rw [hm] at h
                replace h : eT xq_230 _ 169 [some (.inr (.inl (some 75))), some (.inl bs), o] [.inl (0 : Int32)] ν r μ' := h
                rcases tx_if (t := 181) (p' := 172) h em230_169 (by decide) rfl with ⟨c169_1, h⟩ | ⟨c169_1, h⟩
                · replace c169_1 : ¬ (0 : Int) = (0 : Int) := c169_1
                  exfalso
                  omega
                · replace c169_1 : ¬ ¬ (0 : Int) = (0 : Int) := c169_1
                  replace h := tx_aload_n (p' := 173) h em230_172 rfl rfl
                  replace h := tx_bipush (v := 15) (p' := 175) h em230_173 (by decide +kernel) rfl
                  obtain ⟨r175, μ175, hE175, h⟩ := tx_invV (na := 2) (mn := 149) (as := [.inr (.inl (some 75)), .inl (15 : Int32)]) (rest := []) (p' := 178) h em230_175 ((congrFun xo_12 218).trans rfl) xm_149 rfl rfl
                  obtain ⟨hm, ⟨rfl, i1751, i1752, i1753⟩ | ⟨rfl, i1751⟩⟩ := ex_is hE175 (by decide)
                  · rw [hm] at h
                    replace h : eT xq_230 _ 178 [some (.inr (.inl (some 75))), some (.inl bs), o] [.inl (1 : Int32)] ν r μ' := h
                    rcases tx_if (t := 185) (p' := 181) h em230_178 (by decide) rfl with ⟨c178, h⟩ | ⟨c178, h⟩
                    · replace c178 : (1 : Int) = (0 : Int) := c178
                      exfalso
                      omega
                    · replace c178 : ¬ (1 : Int) = (0 : Int) := c178
                      replace h := tx_iconst (v := 1) (p' := 182) h em230_181 (by decide +kernel) rfl
                      replace h := tx_goto (t := 186) h em230_182 (by decide)
                      replace h := tx_istore_n (p' := 187) h em230_186 rfl
                      replace h : eT xq_230 _ 187 [some (.inr (.inl (some 75))), some (.inl bs), some (.inl (1 : Int32))] [] ν r μ' := h
                      replace h := tx_iload_n (p' := 188) h em230_187 rfl rfl
                      rcases tx_if (t := 210) (p' := 191) h em230_188 (by decide) rfl with ⟨c188_3, h⟩ | ⟨c188_3, h⟩
                      · replace c188_3 : ¬ (1 : Int) = (0 : Int) := c188_3
                        exact h210 _ _ h hbs hW i1751 (by rw [← rE_K hW.1, i1752]; decide) (by decide)
                      · replace c188_3 : ¬ ¬ (1 : Int) = (0 : Int) := c188_3
                        exfalso
                        omega
                  · rw [hm] at h
                    replace h : eT xq_230 _ 178 [some (.inr (.inl (some 75))), some (.inl bs), o] [.inl (0 : Int32)] ν r μ' := h
                    rcases tx_if (t := 185) (p' := 181) h em230_178 (by decide) rfl with ⟨c178_1, h⟩ | ⟨c178_1, h⟩
                    · replace c178_1 : (0 : Int) = (0 : Int) := c178_1
                      replace h := tx_iconst (v := 0) (p' := 186) h em230_185 (by decide +kernel) rfl
                      replace h := tx_istore_n (p' := 187) h em230_186 rfl
                      replace h : eT xq_230 _ 187 [some (.inr (.inl (some 75))), some (.inl bs), some (.inl (0 : Int32))] [] ν r μ' := h
                      replace h := tx_iload_n (p' := 188) h em230_187 rfl rfl
                      rcases tx_if (t := 210) (p' := 191) h em230_188 (by decide) rfl with ⟨c188_4, h⟩ | ⟨c188_4, h⟩
                      · replace c188_4 : ¬ (0 : Int) = (0 : Int) := c188_4
                        exfalso
                        omega
                      · replace c188_4 : ¬ ¬ (0 : Int) = (0 : Int) := c188_4
                        replace h := tx_aload_n (p' := 192) h em230_191 rfl rfl
                        replace h := tx_getf (c := 12) (j := 26) (p' := 195) h em230_192 ((congrFun xo_12 227).trans rfl) rfl rfl (by decide) rfl
                        replace h := tx_iload_n (p' := 196) h em230_195 rfl rfl
                        rcases tx_icmp (t := 204) (p' := 199) h em230_196 (by decide) rfl with ⟨c196, h⟩ | ⟨c196, h⟩
                        · replace c196 : (ν.1 75 26).toInt ≤ bs.toInt := c196
                          replace h := tx_aload_n (p' := 205) h em230_204 rfl rfl
                          replace h := tx_iconst (v := 0) (p' := 206) h em230_205 (by decide +kernel) rfl
                          obtain ⟨r206, μ206, hE206, h⟩ := tx_invV (na := 2) (mn := 229) (as := [.inr (.inl (some 75)), .inl (0 : Int32)]) (rest := []) (p' := 209) h em230_206 ((congrFun xo_12 316).trans rfl) xm_229 rfl rfl
                          obtain ⟨rfl, hc206⟩ := ex_comesOut hE206
                          obtain ⟨ct206, cf206, cv206, cq206⟩ := rC_f hc206
                          replace h : eT xq_230 _ 209 [some (.inr (.inl (some 75))), some (.inl bs), some (.inl (0 : Int32))] [] μ206 r μ' := h
                          obtain ⟨rfl, hμ⟩ := tx_return h em230_209
                          have hQ2 : rQ ν ≤ 0 := by unfold rQ; omega
                          have kn : rF ν = 0 → ¬ rK μ (rT ν) = 43 ∧ ¬ rK μ (rT ν) = 45 ∧ ¬ rK μ (rT ν) = 42 ∧ ¬ rK μ (rT ν) = 47 := fun f0 => by rw [← rE_K hW.1]; exact ⟨fun q => i1481 ⟨f0, q⟩, fun q => i1571 ⟨f0, q⟩, fun q => i1661 ⟨f0, q⟩, fun q => i1751 ⟨f0, q⟩⟩
                          rw [hμ]
                          refine ⟨rfl, ?_⟩
                          by_cases f0 : rF ν = 0
                          · obtain ⟨g1, ⟨k1, k2, k3, k4⟩ | ⟨k1, -⟩⟩ := hW
                            · have kn := kn f0
                              have e0 : rQ ν = 0 := by omega
                              rw [e0] at k2
                              have e9 := k2.trans (xs_end (by omega) (by omega) kn rfl)
                              refine ⟨rE_tr g1 (rC_E hc206), Or.inl ⟨by rw [e9], by omega, by rw [e9]; exact ct206⟩, fun _ => ⟨by omega, by omega, by omega⟩⟩
                            · omega
                          · have f1 : 0 < rF ν := by have := (xWv_b hW).1; omega
                            exact xWv_out (m := true) (xWv_dead hW f1 (rC_E hc206) ⟨cf206, cv206⟩) (by omega)
                        · replace c196 : ¬ (ν.1 75 26).toInt ≤ bs.toInt := c196
                          replace h := tx_aload_n (p' := 200) h em230_199 rfl rfl
                          replace h := tx_iconst (v := 1) (p' := 201) h em230_200 (by decide +kernel) rfl
                          obtain ⟨r201, μ201, hE201, h⟩ := tx_invV (na := 2) (mn := 133) (as := [.inr (.inl (some 75)), .inl (1 : Int32)]) (rest := []) (p' := 204) h em230_201 ((congrFun xo_12 215).trans rfl) xm_133 rfl rfl
                          obtain ⟨rfl, hs201⟩ := st_fail (f0 := 1) hE201 (by decide) (by decide)
                          replace h : eT xq_230 _ 204 [some (.inr (.inl (some 75))), some (.inl bs), some (.inl (0 : Int32))] [] μ201 r μ' := h
                          replace h := tx_aload_n (p' := 205) h em230_204 rfl rfl
                          replace h := tx_iconst (v := 0) (p' := 206) h em230_205 (by decide +kernel) rfl
                          obtain ⟨r206_1, μ206_1, hE206_1, h⟩ := tx_invV (na := 2) (mn := 229) (as := [.inr (.inl (some 75)), .inl (0 : Int32)]) (rest := []) (p' := 209) h em230_206 ((congrFun xo_12 316).trans rfl) xm_229 rfl rfl
                          obtain ⟨rfl, hc206_1⟩ := ex_comesOut hE206_1
                          obtain ⟨ct206_1, cf206_1, cv206_1, cq206_1⟩ := rC_f hc206_1
                          replace h : eT xq_230 _ 209 [some (.inr (.inl (some 75))), some (.inl bs), some (.inl (0 : Int32))] [] μ206_1 r μ' := h
                          obtain ⟨rfl, hμ⟩ := tx_return h em230_209
                          have hQ2 : 0 < rQ ν := by unfold rQ; omega
                          have kn : rF ν = 0 → ¬ rK μ (rT ν) = 43 ∧ ¬ rK μ (rT ν) = 45 ∧ ¬ rK μ (rT ν) = 42 ∧ ¬ rK μ (rT ν) = 47 := fun f0 => by rw [← rE_K hW.1]; exact ⟨fun q => i1481 ⟨f0, q⟩, fun q => i1571 ⟨f0, q⟩, fun q => i1661 ⟨f0, q⟩, fun q => i1751 ⟨f0, q⟩⟩
                          rw [hμ]
                          have hW2 : xWv μ μ201 true := xWv_fl hW hs201 (by decide) (fun f0 => xs_end_f (by have := (xWv_b hW).2 f0; omega) (by have := (xWv_b hW).2 f0; omega) (kn f0) (fun q => hx f0 ⟨q, hQ2⟩) hQ2)
                          have f1 : 0 < rF μ201 := by
                            obtain ⟨-, g2, g3⟩ := hs201
                            by_cases f0 : rF ν = 0
                            · rcases g2 f0 with ⟨k1, -⟩ | ⟨-, k2, -⟩
                              · exact absurd (show (1 : Int) = 0 from k1) (by decide)
                              · rw [k2]; show (0 : Int) < 1; decide
                            · have f1 : 0 < rF ν := by have := (xWv_b hW).1; omega
                              rw [(g3 f1).1]; exact f1
                          exact ⟨rfl, xWv_out (m := true) (xWv_dead hW2 f1 (rC_E hc206_1) ⟨cf206_1, cv206_1⟩) (by omega)⟩
                    · replace c178_1 : ¬ (0 : Int) = (0 : Int) := c178_1
                      exfalso
                      omega
    have h96 : ∀ (o : Option zV) (bs : Int32) (ν : xM), eT xq_230 n 96 [some (.inr (.inl (some 75))), some (.inl bs), o] [] ν r μ' → bs.toInt = 0 → xWv μ ν true → r = none ∧ rE μ μ' ∧ rO (xs (rK μ) (rT μ) 0 false) μ μ' ∧ (rF μ' = 0 → 0 ≤ rT μ' ∧ rT μ' ≤ 400 ∧ rQ μ' = 0) := by
      intro o bs ν h hbs hW
      replace h := tx_aload_n (p' := 97) h em230_96 rfl rfl
      replace h := tx_bipush (v := 7) (p' := 99) h em230_97 (by decide +kernel) rfl
      obtain ⟨r99, μ99, hE99, h⟩ := tx_invV (na := 2) (mn := 149) (as := [.inr (.inl (some 75)), .inl (7 : Int32)]) (rest := []) (p' := 102) h em230_99 ((congrFun xo_12 218).trans rfl) xm_149 rfl rfl
      obtain ⟨hm, ⟨rfl, i991, i992, i993⟩ | ⟨rfl, i991⟩⟩ := ex_is hE99 (by decide)
      · rw [hm] at h
        replace h : eT xq_230 _ 102 [some (.inr (.inl (some 75))), some (.inl bs), o] [.inl (1 : Int32)] ν r μ' := h
        rcases tx_if (t := 145) (p' := 105) h em230_102 (by decide) rfl with ⟨c102, h⟩ | ⟨c102, h⟩
        · replace c102 : (1 : Int) = (0 : Int) := c102
          exfalso
          omega
        · replace c102 : ¬ (1 : Int) = (0 : Int) := c102
          replace h := tx_aload_n (p' := 106) h em230_105 rfl rfl
          replace h := tx_getf (c := 12) (j := 26) (p' := 109) h em230_106 ((congrFun xo_12 227).trans rfl) rfl rfl (by decide) rfl
          replace h := tx_iload_n (p' := 110) h em230_109 rfl rfl
          rcases tx_icmp (t := 145) (p' := 113) h em230_110 (by decide) rfl with ⟨c110, h⟩ | ⟨c110, h⟩
          · replace c110 : (ν.1 75 26).toInt ≤ bs.toInt := c110
            exact h145 _ _ _ h hbs hW (fun f0 q => by have q2 := q.2; unfold rQ at q2; omega)
          · replace c110 : ¬ (ν.1 75 26).toInt ≤ bs.toInt := c110
            replace h := tx_aload_n (p' := 114) h em230_113 rfl rfl
            replace h := tx_iconst (v := 0) (p' := 115) h em230_114 (by decide +kernel) rfl
            obtain ⟨r115, μ115, hE115, h⟩ := tx_invV (na := 2) (mn := 229) (as := [.inr (.inl (some 75)), .inl (0 : Int32)]) (rest := []) (p' := 118) h em230_115 ((congrFun xo_12 316).trans rfl) xm_229 rfl rfl
            obtain ⟨rfl, hc115⟩ := ex_comesOut hE115
            obtain ⟨ct115, cf115, cv115, cq115⟩ := rC_f hc115
            replace h : eT xq_230 _ 118 [some (.inr (.inl (some 75))), some (.inl bs), o] [] μ115 r μ' := h
            replace h := tx_aload_n (p' := 119) h em230_118 rfl rfl
            replace h := tx_dup (p' := 120) h em230_119 rfl
            replace h := tx_getf (c := 12) (j := 55) (p' := 123) h em230_120 ((congrFun xo_12 307).trans rfl) rfl rfl (by decide) rfl
            replace h := tx_iconst (v := 1) (p' := 124) h em230_123 (by decide +kernel) rfl
            replace h := tx_isub (p' := 125) h em230_124 rfl
            replace h := tx_putf (a := 75) (c := 12) (j := 55) (p' := 128) h em230_125 ((congrFun xo_12 307).trans rfl) rfl
            replace h := tx_aload_n (p' := 129) h em230_128 rfl rfl
            replace h := tx_dup (p' := 130) h em230_129 rfl
            replace h := tx_getf (c := 12) (j := 26) (p' := 133) h em230_130 ((congrFun xo_12 227).trans rfl) rfl rfl (by decide) rfl
            replace h : eT xq_230 _ 133 [some (.inr (.inl (some 75))), some (.inl bs), o] [.inl (μ115.1 75 26), .inr (.inl (some 75))] (xpi μ115 75 55 ((μ115.1 75 55) - (1 : Int32))) r μ' := h
            replace h := tx_iconst (v := 1) (p' := 134) h em230_133 (by decide +kernel) rfl
            replace h := tx_isub (p' := 135) h em230_134 rfl
            replace h := tx_putf (a := 75) (c := 12) (j := 26) (p' := 138) h em230_135 ((congrFun xo_12 227).trans rfl) rfl
            replace h := tx_aload_n (p' := 139) h em230_138 rfl rfl
            obtain ⟨r139, μ139, hE139, h⟩ := tx_invV (na := 1) (mn := 144) (as := [.inr (.inl (some 75))]) (rest := []) (p' := 142) h em230_139 ((congrFun xo_12 221).trans rfl) xm_144 rfl rfl
            obtain ⟨rfl, hs139⟩ := st_goesOn hE139 (fun q => by have q : rF μ115 = 0 := q; have := (xWv_b hW).2 (by omega); show 0 ≤ rT μ115 ∧ rT μ115 ≤ 400; omega)
            replace h : eT xq_230 _ 142 [some (.inr (.inl (some 75))), some (.inl bs), o] [] μ139 r μ' := h
            obtain ⟨n2, hn2, h⟩ := tx_gotoS (t := 96) h em230_142 (by decide)
            have hQ1 : 0 < rQ ν := by unfold rQ; omega
            have hQ6 : rQ ν ≤ 6 := by have := hW.2; omega
            have eQ : rQ (xpi (xpi μ115 75 55 (μ115.1 75 55 - 1)) 75 26 (μ115.1 75 26 - 1)) = rQ ν - 1 := by rw [rQ_p, rQ_dec (by omega) (by omega), cq115]
            have hk : rK μ (rT ν) = 41 := by rw [← rE_K hW.1, i992]; decide
            exact (ih n2 hn2).2.2 _ _ _ h hbs (xWv_on hW (rE_f (rE_f (rC_E hc115) (by omega)) (by omega)) (by exact ⟨ct115, cf115, cv115⟩) hs139 (fun f0 => by rw [eQ]; omega) (fun f0 h0 h3 => by rw [eQ]; exact xs_close h0 h3 hk hQ1) (fun f0 h4 => xs_close_f hk hQ1 h4))
      · rw [hm] at h
        replace h : eT xq_230 _ 102 [some (.inr (.inl (some 75))), some (.inl bs), o] [.inl (0 : Int32)] ν r μ' := h
        rcases tx_if (t := 145) (p' := 105) h em230_102 (by decide) rfl with ⟨c102_1, h⟩ | ⟨c102_1, h⟩
        · replace c102_1 : (0 : Int) = (0 : Int) := c102_1
          exact h145 _ _ _ h hbs hW (fun f0 q => i991 ⟨f0, by rw [rE_K hW.1]; exact q.1⟩)
        · replace c102_1 : ¬ (0 : Int) = (0 : Int) := c102_1
          exfalso
          omega
    have h23 : ∀ (mo bs : Int32) (ν : xM), eT xq_230 n 23 [some (.inr (.inl (some 75))), some (.inl bs), some (.inl mo)] [] ν r μ' → bs.toInt = 0 → xWv μ ν false → r = none ∧ rE μ μ' ∧ rO (xs (rK μ) (rT μ) 0 false) μ μ' ∧ (rF μ' = 0 → 0 ≤ rT μ' ∧ rT μ' ≤ 400 ∧ rQ μ' = 0) := by
      intro mo bs ν h hbs hW
      replace h := tx_aload_n (p' := 24) h em230_23 rfl rfl
      replace h := tx_bipush (v := 6) (p' := 26) h em230_24 (by decide +kernel) rfl
      obtain ⟨r26, μ26, hE26, h⟩ := tx_invV (na := 2) (mn := 149) (as := [.inr (.inl (some 75)), .inl (6 : Int32)]) (rest := []) (p' := 29) h em230_26 ((congrFun xo_12 218).trans rfl) xm_149 rfl rfl
      obtain ⟨hm, ⟨rfl, i261, i262, i263⟩ | ⟨rfl, i261⟩⟩ := ex_is hE26 (by decide)
      · rw [hm] at h
        replace h : eT xq_230 _ 29 [some (.inr (.inl (some 75))), some (.inl bs), some (.inl mo)] [.inl (1 : Int32)] ν r μ' := h
        rcases tx_if (t := 84) (p' := 32) h em230_29 (by decide) rfl with ⟨c29, h⟩ | ⟨c29, h⟩
        · replace c29 : (1 : Int) = (0 : Int) := c29
          exfalso
          omega
        · replace c29 : ¬ (1 : Int) = (0 : Int) := c29
          replace h := tx_aload_n (p' := 33) h em230_32 rfl rfl
          replace h := tx_getf (c := 12) (j := 26) (p' := 36) h em230_33 ((congrFun xo_12 227).trans rfl) rfl rfl (by decide) rfl
          replace h := tx_bipush (v := 6) (p' := 38) h em230_36 (by decide +kernel) rfl
          rcases tx_icmp (t := 46) (p' := 41) h em230_38 (by decide) rfl with ⟨c38, h⟩ | ⟨c38, h⟩
          · replace c38 : ¬ (ν.1 75 26).toInt = 6 := c38
            
            replace h := tx_aload_n (p' := 47) h em230_46 rfl rfl
            replace h := tx_dup (p' := 48) h em230_47 rfl
            replace h := tx_getf (c := 12) (j := 26) (p' := 51) h em230_48 ((congrFun xo_12 227).trans rfl) rfl rfl (by decide) rfl
            replace h := tx_iconst (v := 1) (p' := 52) h em230_51 (by decide +kernel) rfl
            replace h := tx_iadd (p' := 53) h em230_52 rfl
            replace h := tx_putf (a := 75) (c := 12) (j := 26) (p' := 56) h em230_53 ((congrFun xo_12 227).trans rfl) rfl
            replace h := tx_aload_n (p' := 57) h em230_56 rfl rfl
            obtain ⟨r57, μ57, hE57, h⟩ := tx_invV (na := 1) (mn := 144) (as := [.inr (.inl (some 75))]) (rest := []) (p' := 60) h em230_57 ((congrFun xo_12 221).trans rfl) xm_144 rfl rfl
            obtain ⟨rfl, hs57⟩ := st_goesOn hE57 (fun q => (xWv_b hW).2 q)
            replace h : eT xq_230 _ 60 [some (.inr (.inl (some 75))), some (.inl bs), some (.inl mo)] [] μ57 r μ' := h
            replace h := tx_aload_n (p' := 61) h em230_60 rfl rfl
            replace h := tx_getc (c := 12) (j := 54) (p' := 64) h em230_61 ((congrFun xo_12 104).trans rfl) rfl rfl rfl
            replace h := tx_aload_n (p' := 65) h em230_64 rfl rfl
            replace h := tx_getf (c := 12) (j := 55) (p' := 68) h em230_65 ((congrFun xo_12 307).trans rfl) rfl rfl (by decide) rfl
            replace h := tx_bipush (v := 6) (p' := 70) h em230_68 (by decide +kernel) rfl
            obtain ⟨hb70, h⟩ := tx_iast (len := 64) (p' := 71) h em230_70 rfl rfl
            replace hb70 : 0 ≤ (μ57.1 75 55).toInt ∧ (μ57.1 75 55).toInt < 64 := hb70
            replace h := tx_aload_n (p' := 72) h em230_71 rfl rfl
            replace h := tx_dup (p' := 73) h em230_72 rfl
            replace h := tx_getf (c := 12) (j := 55) (p' := 76) h em230_73 ((congrFun xo_12 307).trans rfl) rfl rfl (by decide) rfl
            replace h : eT xq_230 _ 76 [some (.inr (.inl (some 75))), some (.inl bs), some (.inl mo)] [.inl (μ57.1 75 55), .inr (.inl (some 75))] (xpi μ57 104 (μ57.1 75 55).toInt.toNat (6 : Int32)) r μ' := h
            replace h := tx_iconst (v := 1) (p' := 77) h em230_76 (by decide +kernel) rfl
            replace h := tx_iadd (p' := 78) h em230_77 rfl
            replace h := tx_putf (a := 75) (c := 12) (j := 55) (p' := 81) h em230_78 ((congrFun xo_12 307).trans rfl) rfl
            obtain ⟨n2, hn2, h⟩ := tx_gotoS (t := 23) h em230_81 (by decide)
            have hk : rK μ (rT ν) = 40 := by rw [← rE_K hW.1, i262]; decide
            have hQ6 : ¬ rQ ν = 6 := by unfold rQ; omega
            have f0 : rF ν = 0 := i261
            have hQb : 0 ≤ rQ ν ∧ rQ ν ≤ 6 := by have := hW.2; omega
            have eQ : rQ (xpi ν 75 26 (ν.1 75 26 + 1)) = rQ ν + 1 := by rw [rQ_p, rQ_inc (k := 1) (by decide) (by omega) (by omega) (by omega)]
            have hW2 := xWv_on (m2 := false) hW (rE_f rE_rf (by omega)) ⟨rfl, rfl, rfl⟩ hs57 (fun _ => by rw [eQ]; omega) (fun _ h0 h3 => by rw [eQ]; exact xs_open h0 h3 hk hQ6) (fun _ h4 => xs_open_f (by omega) (by omega) hk (Or.inr h4))
            refine (ih n2 hn2).2.1 _ _ _ h hbs ?_
            obtain ⟨w1, w2⟩ := hW2
            exact ⟨rE_f (rE_c w1 ⟨by decide, by decide⟩) (by omega), w2⟩
          · replace c38 : ¬ ¬ (ν.1 75 26).toInt = 6 := c38
            replace h := tx_aload_n (p' := 42) h em230_41 rfl rfl
            replace h := tx_iconst (v := 2) (p' := 43) h em230_42 (by decide +kernel) rfl
            obtain ⟨r43, μ43, hE43, h⟩ := tx_invV (na := 2) (mn := 133) (as := [.inr (.inl (some 75)), .inl (2 : Int32)]) (rest := []) (p' := 46) h em230_43 ((congrFun xo_12 215).trans rfl) xm_133 rfl rfl
            obtain ⟨rfl, hs43⟩ := st_fail (f0 := 2) hE43 (by decide) (by decide)
            replace h : eT xq_230 _ 46 [some (.inr (.inl (some 75))), some (.inl bs), some (.inl mo)] [] μ43 r μ' := h
            have f43 : 0 < rF μ43 := by
              obtain ⟨-, g2, -⟩ := hs43
              rcases g2 i261 with ⟨k1, -⟩ | ⟨-, k2, -⟩
              · exact absurd (show (2 : Int) = 0 from k1) (by decide)
              · rw [k2]; show (0 : Int) < 2; decide
            replace h := tx_aload_n (p' := 47) h em230_46 rfl rfl
            replace h := tx_dup (p' := 48) h em230_47 rfl
            replace h := tx_getf (c := 12) (j := 26) (p' := 51) h em230_48 ((congrFun xo_12 227).trans rfl) rfl rfl (by decide) rfl
            replace h := tx_iconst (v := 1) (p' := 52) h em230_51 (by decide +kernel) rfl
            replace h := tx_iadd (p' := 53) h em230_52 rfl
            replace h := tx_putf (a := 75) (c := 12) (j := 26) (p' := 56) h em230_53 ((congrFun xo_12 227).trans rfl) rfl
            replace h := tx_aload_n (p' := 57) h em230_56 rfl rfl
            obtain ⟨r57_1, μ57_1, hE57_1, h⟩ := tx_invV (na := 1) (mn := 144) (as := [.inr (.inl (some 75))]) (rest := []) (p' := 60) h em230_57 ((congrFun xo_12 221).trans rfl) xm_144 rfl rfl
            obtain ⟨rfl, hs57_1⟩ := st_goesOn hE57_1 (fun q => by have q : rF μ43 = 0 := q; exfalso; omega)
            replace h : eT xq_230 _ 60 [some (.inr (.inl (some 75))), some (.inl bs), some (.inl mo)] [] μ57_1 r μ' := h
            replace h := tx_aload_n (p' := 61) h em230_60 rfl rfl
            replace h := tx_getc (c := 12) (j := 54) (p' := 64) h em230_61 ((congrFun xo_12 104).trans rfl) rfl rfl rfl
            replace h := tx_aload_n (p' := 65) h em230_64 rfl rfl
            replace h := tx_getf (c := 12) (j := 55) (p' := 68) h em230_65 ((congrFun xo_12 307).trans rfl) rfl rfl (by decide) rfl
            replace h := tx_bipush (v := 6) (p' := 70) h em230_68 (by decide +kernel) rfl
            obtain ⟨hb70_1, h⟩ := tx_iast (len := 64) (p' := 71) h em230_70 rfl rfl
            replace hb70_1 : 0 ≤ (μ57_1.1 75 55).toInt ∧ (μ57_1.1 75 55).toInt < 64 := hb70_1
            replace h := tx_aload_n (p' := 72) h em230_71 rfl rfl
            replace h := tx_dup (p' := 73) h em230_72 rfl
            replace h := tx_getf (c := 12) (j := 55) (p' := 76) h em230_73 ((congrFun xo_12 307).trans rfl) rfl rfl (by decide) rfl
            replace h : eT xq_230 _ 76 [some (.inr (.inl (some 75))), some (.inl bs), some (.inl mo)] [.inl (μ57_1.1 75 55), .inr (.inl (some 75))] (xpi μ57_1 104 (μ57_1.1 75 55).toInt.toNat (6 : Int32)) r μ' := h
            replace h := tx_iconst (v := 1) (p' := 77) h em230_76 (by decide +kernel) rfl
            replace h := tx_iadd (p' := 78) h em230_77 rfl
            replace h := tx_putf (a := 75) (c := 12) (j := 55) (p' := 81) h em230_78 ((congrFun xo_12 307).trans rfl) rfl
            obtain ⟨n2, hn2, h⟩ := tx_gotoS (t := 23) h em230_81 (by decide)
            have hk : rK μ (rT ν) = 40 := by rw [← rE_K hW.1, i262]; decide
            have hQ6 : rQ ν = 6 := by unfold rQ; omega
            have hW2 : xWv μ μ43 false := xWv_fl hW hs43 (by decide) (fun f0 => xs_open_f (by have := (xWv_b hW).2 f0; omega) (by have := (xWv_b hW).2 f0; omega) hk (Or.inl hQ6))
            have hE9 : rE μ43 (xpi μ43 75 26 (μ43.1 75 26 + 1)) := rE_f rE_rf (by omega)
            obtain ⟨s1, s2, s3⟩ := hs57_1
            have s4 := s3 (show 0 < rF μ43 from f43)
            exact (ih n2 hn2).2.1 _ _ _ h hbs (xWv_dead hW2 f43 (rE_f (rE_c (rE_tr hE9 (rE_m s1)) ⟨by decide, by decide⟩) (by omega)) ⟨s4.1, s4.2⟩)
      · rw [hm] at h
        replace h : eT xq_230 _ 29 [some (.inr (.inl (some 75))), some (.inl bs), some (.inl mo)] [.inl (0 : Int32)] ν r μ' := h
        rcases tx_if (t := 84) (p' := 32) h em230_29 (by decide) rfl with ⟨c29_1, h⟩ | ⟨c29_1, h⟩
        · replace c29_1 : (0 : Int) = (0 : Int) := c29_1
          replace h := tx_aload_n (p' := 85) h em230_84 rfl rfl
          obtain ⟨r85, μ85, hE85, h⟩ := tx_invV (na := 1) (mn := 231) (as := [.inr (.inl (some 75))]) (rest := []) (p' := 88) h em230_85 ((congrFun xo_12 313).trans rfl) xm_231 rfl rfl
          obtain ⟨rfl, uE, uO, uD, uQ⟩ := ex_unit hE85 (xWv_b hW).2
          replace h : eT xq_230 _ 88 [some (.inr (.inl (some 75))), some (.inl bs), some (.inl mo)] [] μ85 r μ' := h
          replace h := tx_aload_n (p' := 89) h em230_88 rfl rfl
          replace h := tx_getf (c := 12) (j := 27) (p' := 92) h em230_89 ((congrFun xo_12 200).trans rfl) rfl rfl (by decide) rfl
          rcases tx_if (t := 96) (p' := 95) h em230_92 (by decide) rfl with ⟨c92, h⟩ | ⟨c92, h⟩
          · replace c92 : (μ85.1 75 27).toInt ≤ 0 := c92
            have f0 : rF ν = 0 := by
              by_cases f0 : rF ν = 0
              · exact f0
              · have f1 : 0 < rF ν := by have := (xWv_b hW).1; omega
                have := (uD f1).1
                unfold rF at this f1
                omega
            have hb := (xWv_b hW).2 f0
            have u1 := uO f0
            have fz : rF μ85 ≤ 0 := by unfold rF; omega
            refine h96 _ _ _ h hbs ⟨rE_tr hW.1 uE, ?_⟩
            obtain ⟨g1, ⟨k1, k2, k3, k4⟩ | ⟨k1, -⟩⟩ := hW
            · unfold pUn at u1
              rw [rE_K g1] at u1
              rcases u1 with ⟨l1, l2, l3⟩ | ⟨l1, l2, l3⟩
              · by_cases hk : rK μ (rT ν) = 3 ∨ 140 ≤ rK μ (rT ν)
                · rw [if_pos hk] at l1 l3
                  have h4 : ¬ rT ν = 400 := fun h4 => by rw [pOn_n h4] at l1; exact absurd (show (2 : Int) = 0 from l1) (by decide)
                  rw [pOn_y h4] at l3
                  exact Or.inl ⟨l2, by rw [k2, xs_unit (by omega) (by omega) hk, l3, uQ], by rw [l3]; show 0 ≤ rT ν + 1 ∧ rT ν + 1 ≤ 400; omega, by rw [uQ]; exact k4⟩
                · rw [if_neg hk] at l1
                  exact absurd (show (1 : Int) = 0 from l1) (by decide)
              · exfalso
                by_cases hk : rK μ (rT ν) = 3 ∨ 140 ≤ rK μ (rT ν)
                · rw [if_pos hk] at l1 l2
                  by_cases h4 : rT ν = 400
                  · rw [pOn_n h4] at l2
                    have l2 : rF μ85 = 2 := l2
                    omega
                  · rw [pOn_y h4] at l1
                    exact l1 rfl
                · rw [if_neg hk] at l2
                  have l2 : rF μ85 = 1 := l2
                  omega
            · omega
          · replace c92 : ¬ (μ85.1 75 27).toInt ≤ 0 := c92
            obtain ⟨rfl, hμ⟩ := tx_return h em230_95
            rw [hμ]
            have fz : 0 < rF μ85 := by unfold rF; omega
            refine ⟨rfl, xWv_out (m := true) (ν := μ85) ⟨rE_tr hW.1 uE, ?_⟩ fz⟩
            refine Or.inr ⟨fz, ?_⟩
            obtain ⟨g1, ⟨k1, k2, k3, k4⟩ | ⟨k1, p, k2, k3⟩⟩ := hW
            · have u1 := uO k1
              unfold pUn at u1
              rw [rE_K g1] at u1
              rcases u1 with ⟨l1, l2, l3⟩ | ⟨l1, l2, l3⟩
              · omega
              · rw [rE_P g1] at l3
                by_cases hk : rK μ (rT ν) = 3 ∨ 140 ≤ rK μ (rT ν)
                · rw [if_pos hk] at l1 l2 l3
                  by_cases h4 : rT ν = 400
                  · rw [pOn_n h4] at l2 l3
                    exact ⟨rT ν, by rw [k2, l2]; exact xs_unit_f hk h4, l3⟩
                  · rw [pOn_y h4] at l1
                    exact absurd rfl l1
                · rw [if_neg hk] at l2 l3
                  refine ⟨rT ν, by rw [k2, l2]; exact xs_want_f (by omega) (by omega) ⟨fun q => i261 ⟨k1, by rw [rE_K g1]; exact q⟩, by omega, by omega⟩, l3⟩
            · have u2 := uD k1
              exact ⟨p, by rw [k2, u2.1], by rw [u2.2, k3]⟩
        · replace c29_1 : ¬ (0 : Int) = (0 : Int) := c29_1
          exfalso
          omega
    have h12 : ∀ (mo bs : Int32) (ν : xM), eT xq_230 n 12 [some (.inr (.inl (some 75))), some (.inl bs), some (.inl mo)] [] ν r μ' → bs.toInt = 0 → xWv μ ν false → mo.toInt = 1 → r = none ∧ rE μ μ' ∧ rO (xs (rK μ) (rT μ) 0 false) μ μ' ∧ (rF μ' = 0 → 0 ≤ rT μ' ∧ rT μ' ≤ 400 ∧ rQ μ' = 0) := by
      intro mo bs ν h hbs hW hmo
      replace h := tx_iload_n (p' := 13) h em230_12 rfl rfl
      rcases tx_if (t := 272) (p' := 16) h em230_13 (by decide) rfl with ⟨c13, h⟩ | ⟨c13, h⟩
      · replace c13 : mo.toInt = 0 := c13
        obtain ⟨rfl, hμ⟩ := tx_return h em230_272
        exfalso
        omega
      · replace c13 : ¬ mo.toInt = 0 := c13
        replace h := tx_aload_n (p' := 17) h em230_16 rfl rfl
        replace h := tx_getf (c := 12) (j := 27) (p' := 20) h em230_17 ((congrFun xo_12 200).trans rfl) rfl rfl (by decide) rfl
        rcases tx_if (t := 272) (p' := 23) h em230_20 (by decide) rfl with ⟨c20, h⟩ | ⟨c20, h⟩
        · replace c20 : ¬ (ν.1 75 27).toInt = 0 := c20
          obtain ⟨rfl, hμ⟩ := tx_return h em230_272
          rw [hμ]
          exact ⟨rfl, xWv_out hW (by have := (xWv_b hW).1; unfold rF at *; omega)⟩
        · replace c20 : ¬ ¬ (ν.1 75 27).toInt = 0 := c20
          exact h23 _ _ _ h hbs hW
    exact ⟨h12, h23, h96⟩
  replace h := tx_aload_n (p' := 1) h em230_0 rfl rfl
  replace h := tx_iconst (v := 0) (p' := 2) h em230_1 (by decide +kernel) rfl
  replace h := tx_putf (a := 75) (c := 12) (j := 55) (p' := 5) h em230_2 ((congrFun xo_12 307).trans rfl) rfl
  replace h := tx_aload_n (p' := 6) h em230_5 rfl rfl
  replace h := tx_getf (c := 12) (j := 26) (p' := 9) h em230_6 ((congrFun xo_12 227).trans rfl) rfl rfl (by decide) rfl
  replace h : eT xq_230 _ 9 [some (.inr (.inl (some 75))), none, none] [.inl (μ.1 75 26)] (xpi μ 75 55 (0 : Int32)) r μ' := h
  replace h := tx_istore_n (p' := 10) h em230_9 rfl
  replace h : eT xq_230 _ 10 [some (.inr (.inl (some 75))), some (.inl (μ.1 75 26)), none] [] (xpi μ 75 55 (0 : Int32)) r μ' := h
  replace h := tx_iconst (v := 1) (p' := 11) h em230_10 (by decide +kernel) rfl
  replace h := tx_istore_n (p' := 12) h em230_11 rfl
  replace h : eT xq_230 _ 12 [some (.inr (.inl (some 75))), some (.inl (μ.1 75 26)), some (.inl (1 : Int32))] [] (xpi μ 75 55 (0 : Int32)) r μ' := h
  exact (main _).1 _ _ _ h hq0 ⟨rE_f rE_rf (by omega), Or.inl ⟨hF0, by show _ = xs _ (rT μ) (rQ μ) _; rw [hq0], ⟨ht0, ht4⟩, by show 0 ≤ rQ μ ∧ rQ μ ≤ 6; omega⟩⟩ (by decide)
set_option maxRecDepth 10000 in
set_option maxHeartbeats 4000000 in
theorem ex_expr0 {μ μ' : xM} {r : Option zV} (h0 : Ex gx xq_230 [.inr (.inl (some 75))] μ r μ') (hf : 0 < rF μ) : r = none ∧ rE μ μ' ∧ rF μ' = rF μ ∧ rV μ' = rV μ := by
  obtain ⟨n, h⟩ := tx_in (L := [some (.inr (.inl (some 75))), none, none]) h0 rfl
  replace h := tx_aload_n (p' := 1) h em230_0 rfl rfl
  replace h := tx_iconst (v := 0) (p' := 2) h em230_1 (by decide +kernel) rfl
  replace h := tx_putf (a := 75) (c := 12) (j := 55) (p' := 5) h em230_2 ((congrFun xo_12 307).trans rfl) rfl
  replace h := tx_aload_n (p' := 6) h em230_5 rfl rfl
  replace h := tx_getf (c := 12) (j := 26) (p' := 9) h em230_6 ((congrFun xo_12 227).trans rfl) rfl rfl (by decide) rfl
  replace h : eT xq_230 _ 9 [some (.inr (.inl (some 75))), none, none] [.inl (μ.1 75 26)] (xpi μ 75 55 (0 : Int32)) r μ' := h
  replace h := tx_istore_n (p' := 10) h em230_9 rfl
  replace h : eT xq_230 _ 10 [some (.inr (.inl (some 75))), some (.inl (μ.1 75 26)), none] [] (xpi μ 75 55 (0 : Int32)) r μ' := h
  replace h := tx_iconst (v := 1) (p' := 11) h em230_10 (by decide +kernel) rfl
  replace h := tx_istore_n (p' := 12) h em230_11 rfl
  replace h : eT xq_230 _ 12 [some (.inr (.inl (some 75))), some (.inl (μ.1 75 26)), some (.inl (1 : Int32))] [] (xpi μ 75 55 (0 : Int32)) r μ' := h
  replace h := tx_iload_n (p' := 13) h em230_12 rfl rfl
  rcases tx_if (t := 272) (p' := 16) h em230_13 (by decide) rfl with ⟨c13, h⟩ | ⟨c13, h⟩
  · replace c13 : (1 : Int) = (0 : Int) := c13
    exfalso
    omega
  · replace c13 : ¬ (1 : Int) = (0 : Int) := c13
    replace h := tx_aload_n (p' := 17) h em230_16 rfl rfl
    replace h := tx_getf (c := 12) (j := 27) (p' := 20) h em230_17 ((congrFun xo_12 200).trans rfl) rfl rfl (by decide) rfl
    replace h : eT xq_230 _ 20 [some (.inr (.inl (some 75))), some (.inl (μ.1 75 26)), some (.inl (1 : Int32))] [.inl (μ.1 75 27)] (xpi μ 75 55 (0 : Int32)) r μ' := h
    rcases tx_if (t := 272) (p' := 23) h em230_20 (by decide) rfl with ⟨c20, h⟩ | ⟨c20, h⟩
    · replace c20 : ¬ (μ.1 75 27).toInt = 0 := c20
      obtain ⟨rfl, hμ⟩ := tx_return h em230_272
      rw [hμ]
      exact ⟨rfl, rE_f rE_rf (by omega), rfl, rfl⟩
    · replace c20 : ¬ ¬ (μ.1 75 27).toInt = 0 := c20
      exfalso
      unfold rF at hf
      omega
