/-! ===== THE REFERENCE'S PARSER, EXACTLY ===== -/
def rT (μ : xM) : Int := (μ.1 75 25).toInt
def rF (μ : xM) : Int := (μ.1 75 27).toInt
def rV (μ : xM) : Int := (μ.1 75 28).toInt
def rQ (μ : xM) : Int := (μ.1 75 26).toInt
/-- the reference's kinds as the class's -/
def kmp (x : Int) : Int := if x = 0 then 0 else if x = 3 then 1 else if x = 1 then 2 else if x = 2 then 3 else if x = 4 then 59 else if x = 5 then 61 else if x = 6 then 40 else if x = 7 then 41 else if x = 8 then 43 else if x = 9 then 45 else if x = 10 then 42 else if x = 13 then 60 else if x = 15 then 47 else if 20 ≤ x ∧ x ≤ 40 then 108 + x else -1
def rK (μ : xM) (a : Int) : Int := kmp (μ.1 78 a.toNat).toInt
def rP (μ : xM) (a : Int) : Int := (μ.1 79 a.toNat).toInt
theorem kmp_inj {x y : Int} (h : kmp x = kmp y) (hy : 0 ≤ kmp y) : x = y := by
  unfold kmp at h hy
  repeat' split at h
  all_goals (first | omega | (repeat' split at hy) <;> omega)
/-- fields t, fault, faultPlace alone -/
def rM (μ μ' : xM) : Prop := (∀ k j, k ≠ 75 → μ'.1 k j = μ.1 k j) ∧ (∀ j, j ≠ 25 → j ≠ 27 → j ≠ 28 → μ'.1 75 j = μ.1 75 j) ∧ μ'.2 = μ.2
theorem rM_rf {μ : xM} : rM μ μ := ⟨fun _ _ _ => rfl, fun _ _ _ _ => rfl, rfl⟩
theorem rM_p {μ ν : xM} {j : Nat} {v : Int32} (h : rM μ ν) (hj : j = 25 ∨ j = 27 ∨ j = 28) : rM μ (xpi ν 75 j v) := ⟨fun k i a => (xpi_ne (fun q => a q.1)).trans (h.1 k i a), fun i a b c => (xpi_ne (fun q => by omega)).trans (h.2.1 i a b c), h.2.2⟩
/-- how a piece comes out -/
def rO (x : Int × Int) (μ μ' : xM) : Prop := (x.2 = 0 ∧ rF μ' = 0 ∧ rT μ' = x.1) ∨ (¬ x.2 = 0 ∧ rF μ' = x.2 ∧ rV μ' = rP μ x.1)
def stM (F : pP) (μ μ' : xM) : Prop := rM μ μ' ∧ (rF μ = 0 → rO (F (rT μ)) μ μ') ∧ (0 < rF μ → rF μ' = rF μ ∧ rV μ' = rV μ)
def pOn : pP := fun a => if a = 400 then (a, 2) else (a + 1, 0)
def rFl (μ : xM) (f : Int32) : xM := xpi (xpi μ 75 27 f) 75 28 (μ.1 79 (rT μ).toNat)
abbrev xq_149 : xP := (⟨"CapitalCaseModel", "is", "(I)Z"⟩, prog_14_method_14_code, 2, (some .boolean))
abbrev xq_133 : xP := (⟨"CapitalCaseModel", "fail", "(I)V"⟩, prog_14_method_15_code, 2, none)
abbrev xq_144 : xP := (⟨"CapitalCaseModel", "goesOn", "()V"⟩, prog_14_method_17_code, 1, none)
abbrev xq_169 : xP := (⟨"CapitalCaseModel", "must", "(I)V"⟩, prog_14_method_18_code, 2, none)
abbrev xq_228 : xP := (⟨"CapitalCaseModel", "emit", "(II)V"⟩, prog_14_method_35_code, 3, none)
abbrev xq_229 : xP := (⟨"CapitalCaseModel", "comesOut", "(Z)V"⟩, prog_14_method_36_code, 3, none)
abbrev xq_231 : xP := (⟨"CapitalCaseModel", "unit", "()V"⟩, prog_14_method_38_code, 1, none)
abbrev xq_230 : xP := (⟨"CapitalCaseModel", "expression", "()V"⟩, prog_14_method_37_code, 3, none)
set_option maxRecDepth 10000 in
set_option maxHeartbeats 4000000 in
theorem ex_is {k : Int32} {μ μ' : xM} {r : Option zV} (h0 : Ex gx xq_149 [.inr (.inl (some 75)), .inl k] μ r μ') (hk : 0 ≤ kmp k.toInt) : μ' = μ ∧ ((r = some (.inl 1) ∧ rF μ = 0 ∧ rK μ (rT μ) = kmp k.toInt ∧ 0 ≤ rT μ) ∨ (r = some (.inl 0) ∧ ¬ (rF μ = 0 ∧ rK μ (rT μ) = kmp k.toInt))) := by
  obtain ⟨n, h⟩ := tx_in (L := [some (.inr (.inl (some 75))), some (.inl k)]) h0 rfl
  replace h := tx_aload_n (p' := 1) h em149_0 rfl rfl
  replace h := tx_getf (c := 12) (j := 27) (p' := 4) h em149_1 ((congrFun xo_12 200).trans rfl) rfl rfl (by decide) rfl
  rcases tx_if (t := 24) (p' := 7) h em149_4 (by decide) rfl with ⟨c4, h⟩ | ⟨c4, h⟩
  · replace c4 : ¬ (μ.1 75 27).toInt = 0 := c4
    replace h := tx_iconst (v := 0) (p' := 25) h em149_24 (by decide +kernel) rfl
    obtain ⟨rfl, hμ⟩ := tx_ireturn h em149_25
    exact ⟨hμ, Or.inr ⟨rfl, fun q => by have := q.1; unfold rF at this; omega⟩⟩
  · replace c4 : ¬ ¬ (μ.1 75 27).toInt = 0 := c4
    replace h := tx_aload_n (p' := 8) h em149_7 rfl rfl
    replace h := tx_getc (c := 12) (j := 19) (p' := 11) h em149_8 ((congrFun xo_12 20).trans rfl) rfl rfl rfl
    replace h := tx_aload_n (p' := 12) h em149_11 rfl rfl
    replace h := tx_getf (c := 12) (j := 25) (p' := 15) h em149_12 ((congrFun xo_12 203).trans rfl) rfl rfl (by decide) rfl
    obtain ⟨hb15, h⟩ := tx_iald (len := 403) (p' := 16) h em149_15 rfl rfl
    replace hb15 : 0 ≤ (μ.1 75 25).toInt ∧ (μ.1 75 25).toInt < 403 := hb15
    replace h := tx_iload_n (p' := 17) h em149_16 rfl rfl
    rcases tx_icmp (t := 24) (p' := 20) h em149_17 (by decide) rfl with ⟨c17, h⟩ | ⟨c17, h⟩
    · replace c17 : ¬ (μ.1 78 (μ.1 75 25).toInt.toNat).toInt = k.toInt := c17
      replace h := tx_iconst (v := 0) (p' := 25) h em149_24 (by decide +kernel) rfl
      obtain ⟨rfl, hμ⟩ := tx_ireturn h em149_25
      exact ⟨hμ, Or.inr ⟨rfl, fun q => c17 (kmp_inj q.2 hk)⟩⟩
    · replace c17 : ¬ ¬ (μ.1 78 (μ.1 75 25).toInt.toNat).toInt = k.toInt := c17
      replace h := tx_iconst (v := 1) (p' := 21) h em149_20 (by decide +kernel) rfl
      replace h := tx_goto (t := 25) h em149_21 (by decide)
      obtain ⟨rfl, hμ⟩ := tx_ireturn h em149_25
      refine ⟨hμ, Or.inl ⟨rfl, by unfold rF; omega, ?_, by unfold rT; omega⟩⟩
      show kmp (μ.1 78 (μ.1 75 25).toInt.toNat).toInt = kmp k.toInt
      rw [show (μ.1 78 (μ.1 75 25).toInt.toNat).toInt = k.toInt by omega]
set_option maxRecDepth 10000 in
set_option maxHeartbeats 4000000 in
theorem ex_rfail {f : Int32} {μ μ' : xM} {r : Option zV} (h0 : Ex gx xq_133 [.inr (.inl (some 75)), .inl f] μ r μ') : r = none ∧ ((0 < rF μ ∧ μ' = μ) ∨ (rF μ ≤ 0 ∧ μ' = rFl μ f)) := by
  obtain ⟨n, h⟩ := tx_in (L := [some (.inr (.inl (some 75))), some (.inl f)]) h0 rfl
  replace h := tx_aload_n (p' := 1) h em133_0 rfl rfl
  replace h := tx_getf (c := 12) (j := 27) (p' := 4) h em133_1 ((congrFun xo_12 200).trans rfl) rfl rfl (by decide) rfl
  rcases tx_if (t := 8) (p' := 7) h em133_4 (by decide) rfl with ⟨c4, h⟩ | ⟨c4, h⟩
  · replace c4 : (μ.1 75 27).toInt ≤ 0 := c4
    replace h := tx_aload_n (p' := 9) h em133_8 rfl rfl
    replace h := tx_iload_n (p' := 10) h em133_9 rfl rfl
    replace h := tx_putf (a := 75) (c := 12) (j := 27) (p' := 13) h em133_10 ((congrFun xo_12 200).trans rfl) rfl
    replace h := tx_aload_n (p' := 14) h em133_13 rfl rfl
    replace h := tx_aload_n (p' := 15) h em133_14 rfl rfl
    replace h := tx_getc (c := 12) (j := 20) (p' := 18) h em133_15 ((congrFun xo_12 24).trans rfl) rfl rfl rfl
    replace h := tx_aload_n (p' := 19) h em133_18 rfl rfl
    replace h := tx_getf (c := 12) (j := 25) (p' := 22) h em133_19 ((congrFun xo_12 203).trans rfl) rfl rfl (by decide) rfl
    replace h : eT xq_133 _ 22 [some (.inr (.inl (some 75))), some (.inl f)] [.inl (μ.1 75 25), .inr (.inl (some 79)), .inr (.inl (some 75))] (xpi μ 75 27 f) r μ' := h
    obtain ⟨hb22, h⟩ := tx_iald (len := 403) (p' := 23) h em133_22 rfl rfl
    replace hb22 : 0 ≤ (μ.1 75 25).toInt ∧ (μ.1 75 25).toInt < 403 := hb22
    replace h : eT xq_133 _ 23 [some (.inr (.inl (some 75))), some (.inl f)] [.inl (μ.1 79 (μ.1 75 25).toInt.toNat), .inr (.inl (some 75))] (xpi μ 75 27 f) r μ' := h
    replace h := tx_putf (a := 75) (c := 12) (j := 28) (p' := 26) h em133_23 ((congrFun xo_12 206).trans rfl) rfl
    obtain ⟨rfl, hμ⟩ := tx_return h em133_26
    exact ⟨rfl, Or.inr ⟨by unfold rF; omega, hμ⟩⟩
  · replace c4 : ¬ (μ.1 75 27).toInt ≤ 0 := c4
    obtain ⟨rfl, hμ⟩ := tx_return h em133_7
    exact ⟨rfl, Or.inl ⟨by unfold rF; omega, hμ⟩⟩
theorem st_fail {f : Int32} {f0 : Int} {μ μ' : xM} {r : Option zV} (h0 : Ex gx xq_133 [.inr (.inl (some 75)), .inl f] μ r μ') (hf : f.toInt = f0) (hf0 : ¬ f0 = 0) : r = none ∧ stM (fun a => (a, f0)) μ μ' := by
  subst hf
  obtain ⟨h1, ⟨h2, rfl⟩ | ⟨h2, rfl⟩⟩ := ex_rfail h0
  · exact ⟨h1, rM_rf, fun q => by omega, fun _ => ⟨rfl, rfl⟩⟩
  · exact ⟨h1, rM_p (rM_p rM_rf (Or.inr (Or.inl rfl))) (Or.inr (Or.inr rfl)), fun q => Or.inr ⟨hf0, rfl, rfl⟩, fun q => by omega⟩
set_option maxRecDepth 10000 in
set_option maxHeartbeats 4000000 in
theorem st_goesOn {μ μ' : xM} {r : Option zV} (h0 : Ex gx xq_144 [.inr (.inl (some 75))] μ r μ') (hb : rF μ = 0 → 0 ≤ rT μ ∧ rT μ ≤ 400) : r = none ∧ stM pOn μ μ' := by
  obtain ⟨n, h⟩ := tx_in (L := [some (.inr (.inl (some 75)))]) h0 rfl
  replace h := tx_aload_n (p' := 1) h em144_0 rfl rfl
  replace h := tx_getf (c := 12) (j := 25) (p' := 4) h em144_1 ((congrFun xo_12 203).trans rfl) rfl rfl (by decide) rfl
  replace h := tx_sipush (v := 400) (p' := 7) h em144_4 (by decide +kernel) rfl
  rcases tx_icmp (t := 18) (p' := 10) h em144_7 (by decide) rfl with ⟨c7, h⟩ | ⟨c7, h⟩
  · replace c7 : ¬ (μ.1 75 25).toInt = 400 := c7
    replace h := tx_aload_n (p' := 19) h em144_18 rfl rfl
    replace h := tx_dup (p' := 20) h em144_19 rfl
    replace h := tx_getf (c := 12) (j := 25) (p' := 23) h em144_20 ((congrFun xo_12 203).trans rfl) rfl rfl (by decide) rfl
    replace h := tx_iconst (v := 1) (p' := 24) h em144_23 (by decide +kernel) rfl
    replace h := tx_iadd (p' := 25) h em144_24 rfl
    replace h := tx_putf (a := 75) (c := 12) (j := 25) (p' := 28) h em144_25 ((congrFun xo_12 203).trans rfl) rfl
    obtain ⟨rfl, hμ⟩ := tx_return h em144_28
    subst hμ
    refine ⟨rfl, rM_p rM_rf (Or.inl rfl), fun q => ?_, fun _ => ⟨rfl, rfl⟩⟩
    have hb := hb q
    unfold rT at hb
    have e1i : (1 : Int32).toInt = 1 := by decide
    unfold pOn
    rw [if_neg (by unfold rT; omega)]
    refine Or.inl ⟨rfl, q, ?_⟩
    show (μ.1 75 25 + 1).toInt = _
    rw [an_add (by rw [e1i]; omega) (by rw [e1i]; omega), e1i]
    rfl
  · replace c7 : ¬ ¬ (μ.1 75 25).toInt = 400 := c7
    replace h := tx_aload_n (p' := 11) h em144_10 rfl rfl
    replace h := tx_iconst (v := 2) (p' := 12) h em144_11 (by decide +kernel) rfl
    obtain ⟨r12, μ12, hE12, h⟩ := tx_invV (na := 2) (mn := 133) (as := [.inr (.inl (some 75)), .inl (2 : Int32)]) (rest := []) (p' := 15) h em144_12 ((congrFun xo_12 215).trans rfl) xm_133 rfl rfl
    obtain ⟨rfl, hs12⟩ := st_fail (f0 := 2) hE12 (by decide) (by decide)
    replace h : eT xq_144 _ 15 [some (.inr (.inl (some 75)))] [] μ12 r μ' := h
    replace h := tx_goto (t := 28) h em144_15 (by decide)
    obtain ⟨rfl, hμ⟩ := tx_return h em144_28
    subst hμ
    obtain ⟨g1, g2, g3⟩ := hs12
    refine ⟨rfl, g1, fun q => ?_, g3⟩
    have g4 := g2 q
    unfold pOn
    rw [if_pos (by unfold rT; omega)]
    exact g4
set_option maxRecDepth 10000 in
set_option maxHeartbeats 4000000 in
theorem st_must {k : Int32} {μ μ' : xM} {r : Option zV} (h0 : Ex gx xq_169 [.inr (.inl (some 75)), .inl k] μ r μ') (hk : 0 ≤ kmp k.toInt) (hb : rF μ = 0 → 0 ≤ rT μ ∧ rT μ ≤ 400) : r = none ∧ stM (pAcc (rK μ) (kmp k.toInt)) μ μ' := by
  obtain ⟨n, h⟩ := tx_in (L := [some (.inr (.inl (some 75))), some (.inl k)]) h0 rfl
  replace h := tx_aload_n (p' := 1) h em169_0 rfl rfl
  replace h := tx_iload_n (p' := 2) h em169_1 rfl rfl
  obtain ⟨r2, μ2, hE2, h⟩ := tx_invV (na := 2) (mn := 149) (as := [.inr (.inl (some 75)), .inl k]) (rest := []) (p' := 5) h em169_2 ((congrFun xo_12 218).trans rfl) xm_149 rfl rfl
  obtain ⟨hm, ⟨rfl, i21, i22, i23⟩ | ⟨rfl, i21⟩⟩ := ex_is hE2 (hk)
  · rw [hm] at h
    replace h : eT xq_169 _ 5 [some (.inr (.inl (some 75))), some (.inl k)] [.inl (1 : Int32)] μ r μ' := h
    rcases tx_if (t := 15) (p' := 8) h em169_5 (by decide) rfl with ⟨c5, h⟩ | ⟨c5, h⟩
    · replace c5 : (1 : Int) = (0 : Int) := c5
      exfalso
      omega
    · replace c5 : ¬ (1 : Int) = (0 : Int) := c5
      replace h := tx_aload_n (p' := 9) h em169_8 rfl rfl
      obtain ⟨r9, μ9, hE9, h⟩ := tx_invV (na := 1) (mn := 144) (as := [.inr (.inl (some 75))]) (rest := []) (p' := 12) h em169_9 ((congrFun xo_12 221).trans rfl) xm_144 rfl rfl
      obtain ⟨rfl, hs9⟩ := st_goesOn hE9 (hb)
      replace h : eT xq_169 _ 12 [some (.inr (.inl (some 75))), some (.inl k)] [] μ9 r μ' := h
      replace h := tx_goto (t := 20) h em169_12 (by decide)
      obtain ⟨rfl, hμ⟩ := tx_return h em169_20
      subst hμ
      obtain ⟨g1, g2, g3⟩ := hs9
      refine ⟨rfl, g1, fun q => ?_, g3⟩
      have g4 := g2 q
      unfold pAcc
      rw [if_pos i22]
      exact g4
  · rw [hm] at h
    replace h : eT xq_169 _ 5 [some (.inr (.inl (some 75))), some (.inl k)] [.inl (0 : Int32)] μ r μ' := h
    rcases tx_if (t := 15) (p' := 8) h em169_5 (by decide) rfl with ⟨c5_1, h⟩ | ⟨c5_1, h⟩
    · replace c5_1 : (0 : Int) = (0 : Int) := c5_1
      replace h := tx_aload_n (p' := 16) h em169_15 rfl rfl
      replace h := tx_iconst (v := 1) (p' := 17) h em169_16 (by decide +kernel) rfl
      obtain ⟨r17, μ17, hE17, h⟩ := tx_invV (na := 2) (mn := 133) (as := [.inr (.inl (some 75)), .inl (1 : Int32)]) (rest := []) (p' := 20) h em169_17 ((congrFun xo_12 215).trans rfl) xm_133 rfl rfl
      obtain ⟨rfl, hs17⟩ := st_fail (f0 := 1) hE17 (by decide) (by decide)
      replace h : eT xq_169 _ 20 [some (.inr (.inl (some 75))), some (.inl k)] [] μ17 r μ' := h
      obtain ⟨rfl, hμ⟩ := tx_return h em169_20
      subst hμ
      obtain ⟨g1, g2, g3⟩ := hs17
      refine ⟨rfl, g1, fun q => ?_, g3⟩
      have g4 := g2 q
      unfold pAcc
      rw [if_neg (fun q2 => i21 ⟨q, q2⟩)]
      exact g4
    · replace c5_1 : ¬ (0 : Int) = (0 : Int) := c5_1
      exfalso
      omega
/-- what an expression may change: cells 94 .. 104, fields t, open, fault, faultPlace, branches, codes, waiting -/
def rE (μ μ' : xM) : Prop := (∀ k j, k ≠ 75 → (k < 94 ∨ 104 < k) → μ'.1 k j = μ.1 k j) ∧ (∀ j, j ≠ 25 → j ≠ 26 → j ≠ 27 → j ≠ 28 → j ≠ 43 → j ≠ 49 → j ≠ 55 → μ'.1 75 j = μ.1 75 j) ∧ μ'.2 = μ.2
theorem rE_rf {μ : xM} : rE μ μ := ⟨fun _ _ _ _ => rfl, fun _ _ _ _ _ _ _ _ => rfl, rfl⟩
theorem rE_tr {μ ν μ' : xM} (h1 : rE μ ν) (h2 : rE ν μ') : rE μ μ' := ⟨fun k j a b => (h2.1 k j a b).trans (h1.1 k j a b), fun j a b c d e f g => (h2.2.1 j a b c d e f g).trans (h1.2.1 j a b c d e f g), h2.2.2.trans h1.2.2⟩
theorem rE_m {μ ν : xM} (h : rM μ ν) : rE μ ν := ⟨fun k j a _ => h.1 k j a, fun j a _ c d _ _ _ => h.2.1 j a c d, h.2.2⟩
theorem rE_f {μ ν : xM} {j : Nat} {v : Int32} (h : rE μ ν) (hj : j = 25 ∨ j = 26 ∨ j = 27 ∨ j = 28 ∨ j = 43 ∨ j = 49 ∨ j = 55) : rE μ (xpi ν 75 j v) := ⟨fun k i a b => (xpi_ne (fun q => a q.1)).trans (h.1 k i a b), fun i a b c d e f g => (xpi_ne (fun q => by omega)).trans (h.2.1 i a b c d e f g), h.2.2⟩
theorem rE_c {μ ν : xM} {k j : Nat} {v : Int32} (h : rE μ ν) (hk : 94 ≤ k ∧ k ≤ 104) : rE μ (xpi ν k j v) := ⟨fun c i a b => (xpi_ne (fun q => by omega)).trans (h.1 c i a b), fun i a b c d e f g => (xpi_ne (fun q => by omega)).trans (h.2.1 i a b c d e f g), h.2.2⟩
theorem rE_K {μ ν : xM} (h : rE μ ν) : rK ν = rK μ := by funext a; unfold rK; rw [h.1 78 _ (by decide) (by decide)]
theorem rE_P {μ ν : xM} (h : rE μ ν) : rP ν = rP μ := by funext a; unfold rP; rw [h.1 79 _ (by decide) (by decide)]
/-- codes and waiting signs alone -/
def rC (μ μ' : xM) : Prop := (∀ k j, k ≠ 75 → k ≠ 101 → k ≠ 102 → μ'.1 k j = μ.1 k j) ∧ (∀ j, j ≠ 49 → j ≠ 55 → μ'.1 75 j = μ.1 75 j) ∧ μ'.2 = μ.2
theorem rC_E {μ ν : xM} (h : rC μ ν) : rE μ ν := ⟨fun k j a b => h.1 k j a (by omega) (by omega), fun j _ _ _ _ _ f g => h.2.1 j f g, h.2.2⟩
theorem rC_tr {μ ν μ' : xM} (h1 : rC μ ν) (h2 : rC ν μ') : rC μ μ' := ⟨fun k j a b c => (h2.1 k j a b c).trans (h1.1 k j a b c), fun j a b => (h2.2.1 j a b).trans (h1.2.1 j a b), h2.2.2.trans h1.2.2⟩
theorem rC_f {μ ν : xM} (h : rC μ ν) : rT ν = rT μ ∧ rF ν = rF μ ∧ rV ν = rV μ ∧ rQ ν = rQ μ := by unfold rT rF rV rQ; rw [h.2.1 25 (by decide) (by decide), h.2.1 27 (by decide) (by decide), h.2.1 28 (by decide) (by decide), h.2.1 26 (by decide) (by decide)]; exact ⟨rfl, rfl, rfl, rfl⟩
set_option maxRecDepth 10000 in
set_option maxHeartbeats 4000000 in
theorem ex_emit {a b : Int32} {μ μ' : xM} {r : Option zV} (h0 : Ex gx xq_228 [.inr (.inl (some 75)), .inl a, .inl b] μ r μ') : r = none ∧ rC μ μ' := by
  obtain ⟨n, h⟩ := tx_in (L := [some (.inr (.inl (some 75))), some (.inl a), some (.inl b)]) h0 rfl
  replace h := tx_aload_n (p' := 1) h em228_0 rfl rfl
  replace h := tx_getc (c := 12) (j := 50) (p' := 4) h em228_1 ((congrFun xo_12 95).trans rfl) rfl rfl rfl
  replace h := tx_aload_n (p' := 5) h em228_4 rfl rfl
  replace h := tx_getf (c := 12) (j := 49) (p' := 8) h em228_5 ((congrFun xo_12 242).trans rfl) rfl rfl (by decide) rfl
  replace h := tx_iload_n (p' := 9) h em228_8 rfl rfl
  obtain ⟨hb9, h⟩ := tx_iast (len := 840) (p' := 10) h em228_9 rfl rfl
  replace hb9 : 0 ≤ (μ.1 75 49).toInt ∧ (μ.1 75 49).toInt < 840 := hb9
  replace h := tx_aload_n (p' := 11) h em228_10 rfl rfl
  replace h := tx_getc (c := 12) (j := 51) (p' := 14) h em228_11 ((congrFun xo_12 98).trans rfl) rfl rfl rfl
  replace h := tx_aload_n (p' := 15) h em228_14 rfl rfl
  replace h := tx_getf (c := 12) (j := 49) (p' := 18) h em228_15 ((congrFun xo_12 242).trans rfl) rfl rfl (by decide) rfl
  replace h : eT xq_228 _ 18 [some (.inr (.inl (some 75))), some (.inl a), some (.inl b)] [.inl (μ.1 75 49), .inr (.inl (some 102))] (xpi μ 101 (μ.1 75 49).toInt.toNat a) r μ' := h
  replace h := tx_iload_n (p' := 19) h em228_18 rfl rfl
  obtain ⟨hb19, h⟩ := tx_iast (len := 840) (p' := 20) h em228_19 rfl rfl
  replace hb19 : 0 ≤ (μ.1 75 49).toInt ∧ (μ.1 75 49).toInt < 840 := hb19
  replace h := tx_aload_n (p' := 21) h em228_20 rfl rfl
  replace h := tx_dup (p' := 22) h em228_21 rfl
  replace h := tx_getf (c := 12) (j := 49) (p' := 25) h em228_22 ((congrFun xo_12 242).trans rfl) rfl rfl (by decide) rfl
  replace h : eT xq_228 _ 25 [some (.inr (.inl (some 75))), some (.inl a), some (.inl b)] [.inl (μ.1 75 49), .inr (.inl (some 75))] (xpi (xpi μ 101 (μ.1 75 49).toInt.toNat a) 102 (μ.1 75 49).toInt.toNat b) r μ' := h
  replace h := tx_iconst (v := 1) (p' := 26) h em228_25 (by decide +kernel) rfl
  replace h := tx_iadd (p' := 27) h em228_26 rfl
  replace h := tx_putf (a := 75) (c := 12) (j := 49) (p' := 30) h em228_27 ((congrFun xo_12 242).trans rfl) rfl
  obtain ⟨rfl, hμ⟩ := tx_return h em228_30
  subst hμ
  refine ⟨rfl, fun k j a b c => ?_, fun j a b => ?_, rfl⟩
  · rw [xpi_ne (fun q => a q.1), xpi_ne (fun q => c q.1), xpi_ne (fun q => b q.1)]
  · rw [xpi_ne (fun q => a q.2), xpi_ne (fun q => absurd q.1 (by decide)), xpi_ne (fun q => absurd q.1 (by decide))]
set_option maxRecDepth 10000 in
set_option maxHeartbeats 4000000 in
theorem ex_comesOut {s : Int32} {μ μ' : xM} {r : Option zV} (h0 : Ex gx xq_229 [.inr (.inl (some 75)), .inl s] μ r μ') : r = none ∧ rC μ μ' := by
  obtain ⟨n, h⟩ := tx_in (L := [some (.inr (.inl (some 75))), some (.inl s), none]) h0 rfl
  have loop : ∀ (n : Nat) (o : Option zV) (ν : xM), eT xq_229 n 0 [some (.inr (.inl (some 75))), some (.inl s), o] [] ν r μ' → rC μ ν → r = none ∧ rC μ μ' := by
    intro n
    induction n using Nat.strongRecOn with
    | ind n ih =>
    intro o ν h hG
    replace h := tx_aload_n (p' := 1) h em229_0 rfl rfl
    replace h := tx_getf (c := 12) (j := 55) (p' := 4) h em229_1 ((congrFun xo_12 307).trans rfl) rfl rfl (by decide) rfl
    rcases tx_if (t := 91) (p' := 7) h em229_4 (by decide) rfl with ⟨c4, h⟩ | ⟨c4, h⟩
    · replace c4 : (ν.1 75 55).toInt ≤ 0 := c4
      obtain ⟨rfl, hμ⟩ := tx_return h em229_91
      rw [hμ]
      exact ⟨rfl, hG⟩
    · replace c4 : ¬ (ν.1 75 55).toInt ≤ 0 := c4
      replace h := tx_aload_n (p' := 8) h em229_7 rfl rfl
      replace h := tx_getc (c := 12) (j := 54) (p' := 11) h em229_8 ((congrFun xo_12 104).trans rfl) rfl rfl rfl
      replace h := tx_aload_n (p' := 12) h em229_11 rfl rfl
      replace h := tx_getf (c := 12) (j := 55) (p' := 15) h em229_12 ((congrFun xo_12 307).trans rfl) rfl rfl (by decide) rfl
      replace h := tx_iconst (v := 1) (p' := 16) h em229_15 (by decide +kernel) rfl
      replace h := tx_isub (p' := 17) h em229_16 rfl
      obtain ⟨hb17, h⟩ := tx_iald (len := 64) (p' := 18) h em229_17 rfl rfl
      replace hb17 : 0 ≤ ((ν.1 75 55) - (1 : Int32)).toInt ∧ ((ν.1 75 55) - (1 : Int32)).toInt < 64 := hb17
      replace h := tx_istore_n (p' := 19) h em229_18 rfl
      replace h : eT xq_229 _ 19 [some (.inr (.inl (some 75))), some (.inl s), some (.inl (ν.1 104 ((ν.1 75 55) - (1 : Int32)).toInt.toNat))] [] ν r μ' := h
      replace h := tx_iload_n (p' := 20) h em229_19 rfl rfl
      replace h := tx_bipush (v := 6) (p' := 22) h em229_20 (by decide +kernel) rfl
      rcases tx_icmp (t := 41) (p' := 25) h em229_22 (by decide) rfl with ⟨c22, h⟩ | ⟨c22, h⟩
      · replace c22 : (ν.1 104 ((ν.1 75 55) - (1 : Int32)).toInt.toNat).toInt = 6 := c22
        obtain ⟨rfl, hμ⟩ := tx_return h em229_41
        rw [hμ]
        exact ⟨rfl, hG⟩
      · replace c22 : ¬ (ν.1 104 ((ν.1 75 55) - (1 : Int32)).toInt.toNat).toInt = 6 := c22
        replace h := tx_iload_n (p' := 26) h em229_25 rfl rfl
        rcases tx_if (t := 42) (p' := 29) h em229_26 (by decide) rfl with ⟨c26, h⟩ | ⟨c26, h⟩
        · replace c26 : s.toInt = 0 := c26
          replace h := tx_aload_n (p' := 43) h em229_42 rfl rfl
          replace h := tx_dup (p' := 44) h em229_43 rfl
          replace h := tx_getf (c := 12) (j := 55) (p' := 47) h em229_44 ((congrFun xo_12 307).trans rfl) rfl rfl (by decide) rfl
          replace h := tx_iconst (v := 1) (p' := 48) h em229_47 (by decide +kernel) rfl
          replace h := tx_isub (p' := 49) h em229_48 rfl
          replace h := tx_putf (a := 75) (c := 12) (j := 55) (p' := 52) h em229_49 ((congrFun xo_12 307).trans rfl) rfl
          replace h := tx_aload_n (p' := 53) h em229_52 rfl rfl
          replace h := tx_iload_n (p' := 54) h em229_53 rfl rfl
          replace h := tx_bipush (v := 8) (p' := 56) h em229_54 (by decide +kernel) rfl
          rcases tx_icmp (t := 63) (p' := 59) h em229_56 (by decide) rfl with ⟨c56, h⟩ | ⟨c56, h⟩
          · replace c56 : ¬ (ν.1 104 ((ν.1 75 55) - (1 : Int32)).toInt.toNat).toInt = 8 := c56
            replace h := tx_iload_n (p' := 64) h em229_63 rfl rfl
            replace h := tx_bipush (v := 9) (p' := 66) h em229_64 (by decide +kernel) rfl
            rcases tx_icmp (t := 73) (p' := 69) h em229_66 (by decide) rfl with ⟨c66, h⟩ | ⟨c66, h⟩
            · replace c66 : ¬ (ν.1 104 ((ν.1 75 55) - (1 : Int32)).toInt.toNat).toInt = 9 := c66
              replace h := tx_iload_n (p' := 74) h em229_73 rfl rfl
              replace h := tx_bipush (v := 10) (p' := 76) h em229_74 (by decide +kernel) rfl
              rcases tx_icmp (t := 83) (p' := 79) h em229_76 (by decide) rfl with ⟨c76, h⟩ | ⟨c76, h⟩
              · replace c76 : ¬ (ν.1 104 ((ν.1 75 55) - (1 : Int32)).toInt.toNat).toInt = 10 := c76
                replace h := tx_iconst (v := 5) (p' := 84) h em229_83 (by decide +kernel) rfl
                replace h := tx_iconst (v := 0) (p' := 85) h em229_84 (by decide +kernel) rfl
                obtain ⟨r85, μ85, hE85, h⟩ := tx_invV (na := 3) (mn := 228) (as := [.inr (.inl (some 75)), .inl (5 : Int32), .inl (0 : Int32)]) (rest := []) (p' := 88) h em229_85 ((congrFun xo_12 310).trans rfl) xm_228 rfl rfl
                obtain ⟨rfl, hc85⟩ := ex_emit hE85
                replace h : eT xq_229 _ 88 [some (.inr (.inl (some 75))), some (.inl s), some (.inl (ν.1 104 ((ν.1 75 55) - (1 : Int32)).toInt.toNat))] [] μ85 r μ' := h
                obtain ⟨n2, hn2, h⟩ := tx_gotoS (t := 0) h em229_88 (by decide)
                exact ih n2 hn2 _ _ h (rC_tr (rC_tr hG (show rC ν (xpi ν 75 55 _) from ⟨fun k j a _ _ => xpi_ne (fun q => a q.1), fun j _ b => xpi_ne (fun q => b q.2), rfl⟩)) hc85)
              · replace c76 : ¬ ¬ (ν.1 104 ((ν.1 75 55) - (1 : Int32)).toInt.toNat).toInt = 10 := c76
                replace h := tx_iconst (v := 4) (p' := 80) h em229_79 (by decide +kernel) rfl
                replace h := tx_goto (t := 84) h em229_80 (by decide)
                replace h := tx_iconst (v := 0) (p' := 85) h em229_84 (by decide +kernel) rfl
                obtain ⟨r85_1, μ85_1, hE85_1, h⟩ := tx_invV (na := 3) (mn := 228) (as := [.inr (.inl (some 75)), .inl (4 : Int32), .inl (0 : Int32)]) (rest := []) (p' := 88) h em229_85 ((congrFun xo_12 310).trans rfl) xm_228 rfl rfl
                obtain ⟨rfl, hc85_1⟩ := ex_emit hE85_1
                replace h : eT xq_229 _ 88 [some (.inr (.inl (some 75))), some (.inl s), some (.inl (ν.1 104 ((ν.1 75 55) - (1 : Int32)).toInt.toNat))] [] μ85_1 r μ' := h
                obtain ⟨n2, hn2, h⟩ := tx_gotoS (t := 0) h em229_88 (by decide)
                exact ih n2 hn2 _ _ h (rC_tr (rC_tr hG (show rC ν (xpi ν 75 55 _) from ⟨fun k j a _ _ => xpi_ne (fun q => a q.1), fun j _ b => xpi_ne (fun q => b q.2), rfl⟩)) hc85_1)
            · replace c66 : ¬ ¬ (ν.1 104 ((ν.1 75 55) - (1 : Int32)).toInt.toNat).toInt = 9 := c66
              replace h := tx_iconst (v := 3) (p' := 70) h em229_69 (by decide +kernel) rfl
              replace h := tx_goto (t := 84) h em229_70 (by decide)
              replace h := tx_iconst (v := 0) (p' := 85) h em229_84 (by decide +kernel) rfl
              obtain ⟨r85_2, μ85_2, hE85_2, h⟩ := tx_invV (na := 3) (mn := 228) (as := [.inr (.inl (some 75)), .inl (3 : Int32), .inl (0 : Int32)]) (rest := []) (p' := 88) h em229_85 ((congrFun xo_12 310).trans rfl) xm_228 rfl rfl
              obtain ⟨rfl, hc85_2⟩ := ex_emit hE85_2
              replace h : eT xq_229 _ 88 [some (.inr (.inl (some 75))), some (.inl s), some (.inl (ν.1 104 ((ν.1 75 55) - (1 : Int32)).toInt.toNat))] [] μ85_2 r μ' := h
              obtain ⟨n2, hn2, h⟩ := tx_gotoS (t := 0) h em229_88 (by decide)
              exact ih n2 hn2 _ _ h (rC_tr (rC_tr hG (show rC ν (xpi ν 75 55 _) from ⟨fun k j a _ _ => xpi_ne (fun q => a q.1), fun j _ b => xpi_ne (fun q => b q.2), rfl⟩)) hc85_2)
          · replace c56 : ¬ ¬ (ν.1 104 ((ν.1 75 55) - (1 : Int32)).toInt.toNat).toInt = 8 := c56
            replace h := tx_iconst (v := 2) (p' := 60) h em229_59 (by decide +kernel) rfl
            replace h := tx_goto (t := 84) h em229_60 (by decide)
            replace h := tx_iconst (v := 0) (p' := 85) h em229_84 (by decide +kernel) rfl
            obtain ⟨r85_3, μ85_3, hE85_3, h⟩ := tx_invV (na := 3) (mn := 228) (as := [.inr (.inl (some 75)), .inl (2 : Int32), .inl (0 : Int32)]) (rest := []) (p' := 88) h em229_85 ((congrFun xo_12 310).trans rfl) xm_228 rfl rfl
            obtain ⟨rfl, hc85_3⟩ := ex_emit hE85_3
            replace h : eT xq_229 _ 88 [some (.inr (.inl (some 75))), some (.inl s), some (.inl (ν.1 104 ((ν.1 75 55) - (1 : Int32)).toInt.toNat))] [] μ85_3 r μ' := h
            obtain ⟨n2, hn2, h⟩ := tx_gotoS (t := 0) h em229_88 (by decide)
            exact ih n2 hn2 _ _ h (rC_tr (rC_tr hG (show rC ν (xpi ν 75 55 _) from ⟨fun k j a _ _ => xpi_ne (fun q => a q.1), fun j _ b => xpi_ne (fun q => b q.2), rfl⟩)) hc85_3)
        · replace c26 : ¬ s.toInt = 0 := c26
          replace h := tx_iload_n (p' := 30) h em229_29 rfl rfl
          replace h := tx_bipush (v := 8) (p' := 32) h em229_30 (by decide +kernel) rfl
          rcases tx_icmp (t := 41) (p' := 35) h em229_32 (by decide) rfl with ⟨c32, h⟩ | ⟨c32, h⟩
          · replace c32 : (ν.1 104 ((ν.1 75 55) - (1 : Int32)).toInt.toNat).toInt = 8 := c32
            obtain ⟨rfl, hμ⟩ := tx_return h em229_41
            rw [hμ]
            exact ⟨rfl, hG⟩
          · replace c32 : ¬ (ν.1 104 ((ν.1 75 55) - (1 : Int32)).toInt.toNat).toInt = 8 := c32
            replace h := tx_iload_n (p' := 36) h em229_35 rfl rfl
            replace h := tx_bipush (v := 9) (p' := 38) h em229_36 (by decide +kernel) rfl
            rcases tx_icmp (t := 42) (p' := 41) h em229_38 (by decide) rfl with ⟨c38, h⟩ | ⟨c38, h⟩
            · replace c38 : ¬ (ν.1 104 ((ν.1 75 55) - (1 : Int32)).toInt.toNat).toInt = 9 := c38
              replace h := tx_aload_n (p' := 43) h em229_42 rfl rfl
              replace h := tx_dup (p' := 44) h em229_43 rfl
              replace h := tx_getf (c := 12) (j := 55) (p' := 47) h em229_44 ((congrFun xo_12 307).trans rfl) rfl rfl (by decide) rfl
              replace h := tx_iconst (v := 1) (p' := 48) h em229_47 (by decide +kernel) rfl
              replace h := tx_isub (p' := 49) h em229_48 rfl
              replace h := tx_putf (a := 75) (c := 12) (j := 55) (p' := 52) h em229_49 ((congrFun xo_12 307).trans rfl) rfl
              replace h := tx_aload_n (p' := 53) h em229_52 rfl rfl
              replace h := tx_iload_n (p' := 54) h em229_53 rfl rfl
              replace h := tx_bipush (v := 8) (p' := 56) h em229_54 (by decide +kernel) rfl
              rcases tx_icmp (t := 63) (p' := 59) h em229_56 (by decide) rfl with ⟨c56_1, h⟩ | ⟨c56_1, h⟩
              · replace c56_1 : ¬ (ν.1 104 ((ν.1 75 55) - (1 : Int32)).toInt.toNat).toInt = 8 := c56_1
                replace h := tx_iload_n (p' := 64) h em229_63 rfl rfl
                replace h := tx_bipush (v := 9) (p' := 66) h em229_64 (by decide +kernel) rfl
                rcases tx_icmp (t := 73) (p' := 69) h em229_66 (by decide) rfl with ⟨c66_1, h⟩ | ⟨c66_1, h⟩
                · replace c66_1 : ¬ (ν.1 104 ((ν.1 75 55) - (1 : Int32)).toInt.toNat).toInt = 9 := c66_1
                  replace h := tx_iload_n (p' := 74) h em229_73 rfl rfl
                  replace h := tx_bipush (v := 10) (p' := 76) h em229_74 (by decide +kernel) rfl
                  rcases tx_icmp (t := 83) (p' := 79) h em229_76 (by decide) rfl with ⟨c76_1, h⟩ | ⟨c76_1, h⟩
                  · replace c76_1 : ¬ (ν.1 104 ((ν.1 75 55) - (1 : Int32)).toInt.toNat).toInt = 10 := c76_1
                    replace h := tx_iconst (v := 5) (p' := 84) h em229_83 (by decide +kernel) rfl
                    replace h := tx_iconst (v := 0) (p' := 85) h em229_84 (by decide +kernel) rfl
                    obtain ⟨r85_4, μ85_4, hE85_4, h⟩ := tx_invV (na := 3) (mn := 228) (as := [.inr (.inl (some 75)), .inl (5 : Int32), .inl (0 : Int32)]) (rest := []) (p' := 88) h em229_85 ((congrFun xo_12 310).trans rfl) xm_228 rfl rfl
                    obtain ⟨rfl, hc85_4⟩ := ex_emit hE85_4
                    replace h : eT xq_229 _ 88 [some (.inr (.inl (some 75))), some (.inl s), some (.inl (ν.1 104 ((ν.1 75 55) - (1 : Int32)).toInt.toNat))] [] μ85_4 r μ' := h
                    obtain ⟨n2, hn2, h⟩ := tx_gotoS (t := 0) h em229_88 (by decide)
                    exact ih n2 hn2 _ _ h (rC_tr (rC_tr hG (show rC ν (xpi ν 75 55 _) from ⟨fun k j a _ _ => xpi_ne (fun q => a q.1), fun j _ b => xpi_ne (fun q => b q.2), rfl⟩)) hc85_4)
                  · replace c76_1 : ¬ ¬ (ν.1 104 ((ν.1 75 55) - (1 : Int32)).toInt.toNat).toInt = 10 := c76_1
                    replace h := tx_iconst (v := 4) (p' := 80) h em229_79 (by decide +kernel) rfl
                    replace h := tx_goto (t := 84) h em229_80 (by decide)
                    replace h := tx_iconst (v := 0) (p' := 85) h em229_84 (by decide +kernel) rfl
                    obtain ⟨r85_5, μ85_5, hE85_5, h⟩ := tx_invV (na := 3) (mn := 228) (as := [.inr (.inl (some 75)), .inl (4 : Int32), .inl (0 : Int32)]) (rest := []) (p' := 88) h em229_85 ((congrFun xo_12 310).trans rfl) xm_228 rfl rfl
                    obtain ⟨rfl, hc85_5⟩ := ex_emit hE85_5
                    replace h : eT xq_229 _ 88 [some (.inr (.inl (some 75))), some (.inl s), some (.inl (ν.1 104 ((ν.1 75 55) - (1 : Int32)).toInt.toNat))] [] μ85_5 r μ' := h
                    obtain ⟨n2, hn2, h⟩ := tx_gotoS (t := 0) h em229_88 (by decide)
                    exact ih n2 hn2 _ _ h (rC_tr (rC_tr hG (show rC ν (xpi ν 75 55 _) from ⟨fun k j a _ _ => xpi_ne (fun q => a q.1), fun j _ b => xpi_ne (fun q => b q.2), rfl⟩)) hc85_5)
                · replace c66_1 : ¬ ¬ (ν.1 104 ((ν.1 75 55) - (1 : Int32)).toInt.toNat).toInt = 9 := c66_1
                  replace h := tx_iconst (v := 3) (p' := 70) h em229_69 (by decide +kernel) rfl
                  replace h := tx_goto (t := 84) h em229_70 (by decide)
                  replace h := tx_iconst (v := 0) (p' := 85) h em229_84 (by decide +kernel) rfl
                  obtain ⟨r85_6, μ85_6, hE85_6, h⟩ := tx_invV (na := 3) (mn := 228) (as := [.inr (.inl (some 75)), .inl (3 : Int32), .inl (0 : Int32)]) (rest := []) (p' := 88) h em229_85 ((congrFun xo_12 310).trans rfl) xm_228 rfl rfl
                  obtain ⟨rfl, hc85_6⟩ := ex_emit hE85_6
                  replace h : eT xq_229 _ 88 [some (.inr (.inl (some 75))), some (.inl s), some (.inl (ν.1 104 ((ν.1 75 55) - (1 : Int32)).toInt.toNat))] [] μ85_6 r μ' := h
                  obtain ⟨n2, hn2, h⟩ := tx_gotoS (t := 0) h em229_88 (by decide)
                  exact ih n2 hn2 _ _ h (rC_tr (rC_tr hG (show rC ν (xpi ν 75 55 _) from ⟨fun k j a _ _ => xpi_ne (fun q => a q.1), fun j _ b => xpi_ne (fun q => b q.2), rfl⟩)) hc85_6)
              · replace c56_1 : ¬ ¬ (ν.1 104 ((ν.1 75 55) - (1 : Int32)).toInt.toNat).toInt = 8 := c56_1
                replace h := tx_iconst (v := 2) (p' := 60) h em229_59 (by decide +kernel) rfl
                replace h := tx_goto (t := 84) h em229_60 (by decide)
                replace h := tx_iconst (v := 0) (p' := 85) h em229_84 (by decide +kernel) rfl
                obtain ⟨r85_7, μ85_7, hE85_7, h⟩ := tx_invV (na := 3) (mn := 228) (as := [.inr (.inl (some 75)), .inl (2 : Int32), .inl (0 : Int32)]) (rest := []) (p' := 88) h em229_85 ((congrFun xo_12 310).trans rfl) xm_228 rfl rfl
                obtain ⟨rfl, hc85_7⟩ := ex_emit hE85_7
                replace h : eT xq_229 _ 88 [some (.inr (.inl (some 75))), some (.inl s), some (.inl (ν.1 104 ((ν.1 75 55) - (1 : Int32)).toInt.toNat))] [] μ85_7 r μ' := h
                obtain ⟨n2, hn2, h⟩ := tx_gotoS (t := 0) h em229_88 (by decide)
                exact ih n2 hn2 _ _ h (rC_tr (rC_tr hG (show rC ν (xpi ν 75 55 _) from ⟨fun k j a _ _ => xpi_ne (fun q => a q.1), fun j _ b => xpi_ne (fun q => b q.2), rfl⟩)) hc85_7)
            · replace c38 : ¬ ¬ (ν.1 104 ((ν.1 75 55) - (1 : Int32)).toInt.toNat).toInt = 9 := c38
              obtain ⟨rfl, hμ⟩ := tx_return h em229_41
              rw [hμ]
              exact ⟨rfl, hG⟩
  exact loop _ _ _ h ⟨fun _ _ _ _ _ => rfl, fun _ _ _ => rfl, rfl⟩
