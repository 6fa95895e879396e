theorem qz_add {m : Int} {F : pP} {N O : Int → Int × Int → Int × Int} {μ ν μ' : xM} (hI : qzI m μ) (h : qzN m F N μ ν) (hf : rF ν = 0) (hO : qzO ν μ') (hw : rW μ' = O (rT μ) (N (rT μ) (rW μ))) (hp : ¬ (rW μ').1 = 0 → (rW μ').2 < rP μ (rT ν)) : qzN m F (fun a w => O a (N a w)) μ μ' := by
  obtain ⟨o1, o2, o3, o4, o5⟩ := hO
  obtain ⟨b1, b2, b3, b4, b5, b6⟩ := h
  have h0 : rF μ = 0 := by
    have := hI.2.1
    by_cases q : rF μ = 0
    · exact q
    · have := (b2 (by omega)).1
      omega
  obtain ⟨j1, j2, j3, j4⟩ := b6 hf
  obtain ⟨c1, c2⟩ := b3 h0
  obtain ⟨c3, c4⟩ := c2 hf
  refine ⟨qzS_tr b1 o1, fun q => by omega, fun _ => ⟨?_, fun _ => ⟨by omega, hw⟩⟩, qzS_T o1 b4, by omega, fun _ => ⟨by omega, by omega, by omega, ?_⟩⟩
  · rcases c1 with ⟨d1, d2, d3⟩ | ⟨d1, d2, d3⟩
    · exact Or.inl ⟨d1, by omega, by omega⟩
    · exact Or.inr ⟨d1, by omega, by omega⟩
  · rw [o2, qzS_P o1, qzS_P b1]
    exact hp
theorem qz_dead {m : Int} {F : pP} {N O : Int → Int × Int → Int × Int} {μ ν μ' : xM} (h : qzN m F N μ ν) (hf : 0 < rF ν) (hO : qzO ν μ') : qzN m F O μ μ' := by
  obtain ⟨o1, o2, o3, o4, o5⟩ := hO
  obtain ⟨b1, b2, b3, b4, b5, b6⟩ := h
  refine ⟨qzS_tr b1 o1, fun q => ?_, fun q => ⟨?_, fun q2 => by omega⟩, qzS_T o1 b4, by omega, fun q => by omega⟩
  · rw [o3, o4]; exact b2 q
  · rcases (b3 q).1 with ⟨d1, d2, d3⟩ | ⟨d1, d2, d3⟩
    · omega
    · exact Or.inr ⟨d1, by omega, by omega⟩
theorem qz_rf0 {m : Int} {F : pP} {N : Int → Int × Int → Int × Int} {μ ν : xM} (hI : qzI m μ) (h : qzN m F N μ ν) (hf : rF ν = 0) : rF μ = 0 ∧ (F (rT μ)).2 = 0 ∧ rT ν = (F (rT μ)).1 ∧ rW ν = N (rT μ) (rW μ) ∧ rT μ < rT ν := by
  obtain ⟨b1, b2, b3, b4⟩ := h
  have h0 : rF μ = 0 := by
    have := hI.2.1
    by_cases q : rF μ = 0
    · exact q
    · have := (b2 (by omega)).1
      omega
  obtain ⟨c1, c2⟩ := b3 h0
  obtain ⟨c3, c4⟩ := c2 hf
  rcases c1 with ⟨d1, d2, d3⟩ | ⟨d1, d2, d3⟩
  · exact ⟨h0, d1, d3, c4, c3⟩
  · omega
theorem qz_K {m k : Int} {N : Int → Int × Int → Int × Int} {μ ν : xM} (hI : qzI m μ) (h : qzN m (pAcc (rK μ) k) N μ ν) (hf : rF ν = 0) : rK μ (rT μ) = k ∧ rT ν = rT μ + 1 := by
  obtain ⟨h1, h2, h3, h4⟩ := qz_rf0 hI h hf
  have h5 : pAcc (rK μ) k (rT μ) = (rT ν, 0) := Prod.ext h3.symm h2
  have h6 := pAcc_v h5
  exact ⟨h6.1, h6.2⟩
theorem pNote_w {c p q : Int} {b : Bool} {w : Int × Int} (hc : ¬ c = 0) (hw : ¬ w.1 = 0 → w.2 < q) (hpq : p < q) : ¬ (pNote c p b w).1 = 0 → (pNote c p b w).2 < q := by
  unfold pNote
  split
  · exact fun _ => hpq
  · exact hw
/-- what a name notes: i is the name's token -/
noncomputable def nM (μ : xM) : Int → Int × Int → Int × Int := fun a w => pNote 3 (rP μ a) (bl2 (∃ k : Nat, (k : Int) < (μ.1 75 33).toInt ∧ (μ.2.1 83 k).toInt = rNm μ a)) w
noncomputable def nL (μ : xM) : Int → Int × Int → Int × Int := fun a w => pNote 6 (rP μ a) (!rl μ a) w
theorem lg2 {x y : Int64} : (lg_cmp x y).toInt = 0 ↔ x.toInt = y.toInt := by
  have h1 : (lg_cmp x y).toInt = 0 ↔ lg_cmp x y = 0 := ⟨fun h => Int32.toInt_inj.mp (by rw [h]; decide), fun h => by rw [h]; decide⟩
  rw [h1, lg_cmp_eq]
  exact Int64.toInt_inj.symm
set_option maxRecDepth 10000 in
set_option maxHeartbeats 4000000 in
theorem qz_named {m : Int} {μ μ' : xM} {r : Option zV} (h0 : Ex gx xq_170 [.inr (.inl (some 75))] μ r μ') (hI : qzI m μ) : r = some (.inl (μ.1 75 25)) ∧ qzN m (pAcc (rK μ) 2) (nM μ) μ μ' := by
  obtain ⟨n, h⟩ := tx_in (L := [some (.inr (.inl (some 75))), none, none]) h0 rfl
  have e1i : (1 : Int32).toInt = 1 := by decide
  have loop : ∀ (ν : xM) (n : Nat) (i : Int32) (ω : xM), qzN m (pAcc (rK μ) 2) nN μ ν → eT xq_170 n 12 [some (.inr (.inl (some 75))), some (.inl (μ.1 75 25)), some (.inl i)] [] ω r μ' → qzO ν ω → 0 ≤ i.toInt → (i.toInt ≤ 0 ∨ i.toInt ≤ (μ.1 75 33).toInt) → (rF ν = 0 → rW ω = pNote 3 (rP μ (rT μ)) (bl2 (∃ k : Nat, (k : Int) < i.toInt ∧ (μ.2.1 83 k).toInt = rNm μ (rT μ))) (rW μ)) → r = some (.inl (μ.1 75 25)) ∧ qzO ν μ' ∧ (rF ν = 0 → rW μ' = pNote 3 (rP μ (rT μ)) (bl2 (∃ k : Nat, (k : Int) < (μ.1 75 33).toInt ∧ (μ.2.1 83 k).toInt = rNm μ (rT μ))) (rW μ)) := by
    intro ν n i ω h7
    induction n using Nat.strongRecOn generalizing i ω with
    | ind n ih =>
    intro h hO hi0 hin hW
    have e33 : ω.1 75 33 = μ.1 75 33 := (hO.1.2.1 33 (by decide) (by decide) (by decide) (by decide) (by decide)).trans (h7.1.2.1 33 (by decide) (by decide) (by decide) (by decide) (by decide))
    replace h := tx_iload_n (p' := 13) h em170_12 rfl rfl
    replace h := tx_aload_n (p' := 14) h em170_13 rfl rfl
    replace h := tx_getf (c := 12) (j := 33) (p' := 17) h em170_14 ((congrFun xo_12 236).trans rfl) rfl rfl (by decide) rfl
    rcases tx_icmp (t := 55) (p' := 20) h em170_17 (by decide) rfl with ⟨c17, h⟩ | ⟨c17, h⟩
    · replace c17 : (ω.1 75 33).toInt ≤ i.toInt := c17
      rw [e33] at c17
      replace h := tx_iload_n (p' := 56) h em170_55 rfl rfl
      obtain ⟨rfl, hμ⟩ := tx_ireturn h em170_56
      rw [hμ]
      refine ⟨rfl, hO, fun q => ?_⟩
      rw [hW q]
      exact pNote_cg ⟨fun ⟨k, k1, k2⟩ => ⟨k, by omega, k2⟩, fun ⟨k, k1, k2⟩ => ⟨k, by omega, k2⟩⟩
    · replace c17 : ¬ (ω.1 75 33).toInt ≤ i.toInt := c17
      rw [e33] at c17
      replace h := tx_aload_n (p' := 21) h em170_20 rfl rfl
      replace h := tx_getf (c := 12) (j := 27) (p' := 24) h em170_21 ((congrFun xo_12 200).trans rfl) rfl rfl (by decide) rfl
      rcases tx_if (t := 55) (p' := 27) h em170_24 (by decide) rfl with ⟨c24, h⟩ | ⟨c24, h⟩
      · replace c24 : ¬ (ω.1 75 27).toInt = 0 := c24
        skip
        replace h := tx_iload_n (p' := 56) h em170_55 rfl rfl
        obtain ⟨rfl, hμ⟩ := tx_ireturn h em170_56
        rw [hμ]
        exact ⟨rfl, hO, fun q => by exfalso; have := hO.2.2.1; unfold rF at *; omega⟩
      · replace c24 : ¬ ¬ (ω.1 75 27).toInt = 0 := c24
        replace h := tx_aload_n (p' := 28) h em170_27 rfl rfl
        replace h := tx_getc (c := 12) (j := 34) (p' := 31) h em170_28 ((congrFun xo_12 40).trans rfl) rfl rfl rfl
        replace h := tx_iload_n (p' := 32) h em170_31 rfl rfl
        obtain ⟨hb32, h⟩ := tx_lald (len := 12) (p' := 33) h em170_32 rfl rfl
        replace hb32 : 0 ≤ i.toInt ∧ i.toInt < 12 := hb32
        replace h := tx_aload_n (p' := 34) h em170_33 rfl rfl
        replace h := tx_getc (c := 12) (j := 22) (p' := 37) h em170_34 ((congrFun xo_12 30).trans rfl) rfl rfl rfl
        replace h := tx_iload_n (p' := 38) h em170_37 rfl rfl
        obtain ⟨hb38, h⟩ := tx_lald (len := 403) (p' := 39) h em170_38 rfl rfl
        replace hb38 : 0 ≤ (μ.1 75 25).toInt ∧ (μ.1 75 25).toInt < 403 := hb38
        replace h := tx_lcmp (p' := 40) h em170_39 rfl
        rcases tx_if (t := 49) (p' := 43) h em170_40 (by decide) rfl with ⟨c40, h⟩ | ⟨c40, h⟩
        · replace c40 : ¬ (lg_cmp (ω.2.1 83 i.toInt.toNat) (ω.2.1 81 (μ.1 75 25).toInt.toNat)).toInt = 0 := c40
          replace h := tx_iinc (v := 1) (p' := 52) h em170_49 (by decide +kernel) rfl rfl
          replace h : eT xq_170 _ 52 [some (.inr (.inl (some 75))), some (.inl (μ.1 75 25)), some (.inl (i + 1))] [] ω r μ' := h
          obtain ⟨n2, hn2, h⟩ := tx_gotoS (t := 12) h em170_52 (by decide)
          have hi1 : (i + 1).toInt = i.toInt + 1 := by rw [an_add (by rw [e1i]; omega) (by rw [e1i]; have := an_hi (μ.1 75 33); omega), e1i]
          have hq : ¬ (ω.2.1 83 i.toInt.toNat).toInt = (ω.2.1 81 (rT μ).toNat).toInt := fun q => by have := lg2.mpr q; unfold rT at this; omega
          rw [hO.1.2.2, h7.1.2.2] at hq
          refine ih n2 hn2 _ _ h hO (by rw [hi1]; omega) (Or.inr (by rw [hi1]; omega)) (fun q => ?_)
          rw [hW q]
          refine pNote_cg ⟨fun ⟨k, k1, k2⟩ => ⟨k, by rw [hi1]; omega, k2⟩, fun ⟨k, k1, k2⟩ => ⟨k, ?_, k2⟩⟩
          rw [hi1] at k1
          by_cases e : (k : Int) = i.toInt
          · exfalso
            rw [show k = i.toInt.toNat by omega] at k2
            exact hq k2
          · omega
        · replace c40 : ¬ ¬ (lg_cmp (ω.2.1 83 i.toInt.toNat) (ω.2.1 81 (μ.1 75 25).toInt.toNat)).toInt = 0 := c40
          replace h := tx_aload_n (p' := 44) h em170_43 rfl rfl
          replace h := tx_iconst (v := 3) (p' := 45) h em170_44 (by decide +kernel) rfl
          replace h := tx_iload_n (p' := 46) h em170_45 rfl rfl
          obtain ⟨r46, μ46, hE46, h⟩ := tx_invV (na := 3) (mn := 204) (as := [.inr (.inl (some 75)), .inl (3 : Int32), .inl (μ.1 75 25)]) (rest := []) (p' := 49) h em170_46 ((congrFun xo_12 277).trans rfl) xm_204 rfl rfl
          obtain ⟨rfl, hO46, hw46⟩ := qz_wrong (f0 := 3) hE46 (by decide) (by decide) (by
            intro q g
            rw [hO.2.2.1] at q
            rw [hW q] at g ⊢
            rw [qzS_P hO.1, qzS_P h7.1]
            have i4 := (hI.2.2 (qz_rf0 hI h7 q).1).2.2.2
            unfold pNote at g ⊢
            split
            · exact Or.inr ⟨rfl, by show (3 : Int) ≤ 3; omega⟩
            · rename_i g2
              rw [if_neg g2] at g
              exact Or.inl (i4 g))
          replace h : eT xq_170 _ 49 [some (.inr (.inl (some 75))), some (.inl (μ.1 75 25)), some (.inl i)] [] μ46 r μ' := h
          replace h := tx_iinc (v := 1) (p' := 52) h em170_49 (by decide +kernel) rfl rfl
          replace h : eT xq_170 _ 52 [some (.inr (.inl (some 75))), some (.inl (μ.1 75 25)), some (.inl (i + 1))] [] μ46 r μ' := h
          obtain ⟨n2, hn2, h⟩ := tx_gotoS (t := 12) h em170_52 (by decide)
          have hi1 : (i + 1).toInt = i.toInt + 1 := by rw [an_add (by rw [e1i]; omega) (by rw [e1i]; have := an_hi (μ.1 75 33); omega), e1i]
          have hq := lg2.mp (show (lg_cmp (ω.2.1 83 i.toInt.toNat) (ω.2.1 81 (rT μ).toNat)).toInt = 0 by unfold rT; omega)
          rw [hO.1.2.2, h7.1.2.2] at hq
          refine ih n2 hn2 _ _ h (qzO_tr hO hO46) (by rw [hi1]; omega) (Or.inr (by rw [hi1]; omega)) (fun q => ?_)
          rw [hw46 (by rw [hO.2.2.1]; exact q), hW q, qzS_P hO.1, qzS_P h7.1]
          show pNote 3 (rP μ (rT μ)) true _ = _
          rw [show (true : Bool) = bl2 True from (bl2_t.mpr trivial).symm, pNote_2 (by decide)]
          refine pNote_cg ⟨fun g => ?_, fun _ => Or.inr trivial⟩
          rcases g with ⟨k, k1, k2⟩ | _
          · exact ⟨k, by rw [hi1]; omega, k2⟩
          · exact ⟨i.toInt.toNat, by rw [hi1]; omega, hq⟩
  replace h := tx_aload_n (p' := 1) h em170_0 rfl rfl
  replace h := tx_getf (c := 12) (j := 25) (p' := 4) h em170_1 ((congrFun xo_12 203).trans rfl) rfl rfl (by decide) rfl
  replace h := tx_istore_n (p' := 5) h em170_4 rfl
  replace h : eT xq_170 _ 5 [some (.inr (.inl (some 75))), some (.inl (μ.1 75 25)), none] [] μ r μ' := h
  replace h := tx_aload_n (p' := 6) h em170_5 rfl rfl
  replace h := tx_iconst (v := 1) (p' := 7) h em170_6 (by decide +kernel) rfl
  obtain ⟨r7, μ7, hE7, h⟩ := tx_invV (na := 2) (mn := 169) (as := [.inr (.inl (some 75)), .inl (1 : Int32)]) (rest := []) (p' := 10) h em170_7 ((congrFun xo_12 258).trans rfl) xm_169 rfl rfl
  obtain ⟨rfl, h7⟩ := qz_must (k0 := 2) hE7 hI (by decide) (by decide)
  replace h : eT xq_170 _ 10 [some (.inr (.inl (some 75))), some (.inl (μ.1 75 25)), none] [] μ7 r μ' := h
  replace h := tx_iconst (v := 0) (p' := 11) h em170_10 (by decide +kernel) rfl
  replace h := tx_istore_n (p' := 12) h em170_11 rfl
  replace h : eT xq_170 _ 12 [some (.inr (.inl (some 75))), some (.inl (μ.1 75 25)), some (.inl (0 : Int32))] [] μ7 r μ' := h
  have hW0 : rF μ7 = 0 → rW μ7 = pNote 3 (rP μ (rT μ)) (bl2 (∃ k : Nat, (k : Int) < (0 : Int32).toInt ∧ (μ.2.1 83 k).toInt = rNm μ (rT μ))) (rW μ) := fun q => by
    rw [(qz_rf0 hI h7 q).2.2.2.1]
    exact (pNote_0 (fun ⟨k, k1, _⟩ => by have k1 : (k : Int) < 0 := k1; omega)).symm
  obtain ⟨l1, l2, l3⟩ := loop _ _ _ _ h7 h qzO_rf (by decide) (Or.inl (by decide)) hW0
  refine ⟨l1, ?_⟩
  by_cases q : rF μ7 = 0
  · have hk := qz_K hI h7 q
    have hz := qz_rf0 hI h7 q
    have i4 := (hI.2.2 hz.1).2.2.2
    have hT := h7.2.2.2.2.2 q
    refine qz_add hI h7 q l2 (l3 q) ?_
    rw [l3 q]
    have hpp := hI.1.2.2.2.1 (rT μ) (rT μ7) (hI.2.2 hz.1).1 (by omega) hT.2.1
    exact pNote_w (by decide) (fun g => by have := i4 g; omega) hpp
  · have := h7.2.2.2.2.1
    exact qz_dead h7 (by omega) l2
set_option maxRecDepth 10000 in
set_option maxHeartbeats 4000000 in
theorem tk_loop {m : Int} {ln : Int32} {es : List Int} {μ μ7 μ' : xM} {r : Option zV} (hI : qzI m μ) (h7 : qzN m (pAcc (rK μ) 2) nN μ μ7) (hf7 : rF μ7 = 0) (he1 : qzD es) (he2 : rNm μ (rT μ) = qzR es) (he3 : (μ7.2.1 81 (μ.1 75 25).toInt.toNat).toInt = qzR es) (hln : ln.toInt = es.length) : ∀ (n : Nat) (o i : Int32) (ω : xM), eT xq_221 n 40 [some (.inr (.inl (some 75))), some (.inl (μ.1 75 25)), some (.inl o), some (.inl i)] [] ω r μ' → qzU μ7 ω → ω.1 75 53 = ln → 0 ≤ i.toInt → i.toInt ≤ es.length → (o.toInt = 0 ∨ o.toInt = 1) → (o.toInt = 1 ↔ ∀ j : Nat, (j : Int) < i.toInt → es.getD (es.length - 1 - j) 0 ≤ 8) → r = none ∧ qzN m (pAcc (rK μ) 2) (nL μ) μ μ' := by
  have e1i : (1 : Int32).toInt = 1 := by decide
  have hz := qz_rf0 hI h7 hf7
  have hb := hI.2.2 hz.1
  have hT := h7.2.2.2.2.2 hf7
  have hW7 : rW μ7 = rW μ := hz.2.2.2.1
  intro n
  induction n using Nat.strongRecOn with
  | ind n ih =>
  intro o i ω h hO h53 hi0 hi1' ho hio
  replace h := tx_iload_n (p' := 41) h em221_40 rfl rfl
  replace h := tx_aload_n (p' := 42) h em221_41 rfl rfl
  replace h := tx_getf (c := 12) (j := 53) (p' := 45) h em221_42 ((congrFun xo_12 284).trans rfl) rfl rfl (by decide) rfl
  rcases tx_icmp (t := 83) (p' := 48) h em221_45 (by decide) rfl with ⟨c45, h⟩ | ⟨c45, h⟩
  · replace c45 : (ω.1 75 53).toInt ≤ i.toInt := c45
    have hil : i.toInt = es.length := by rw [h53] at c45; omega
    replace h := tx_iload_n (p' := 84) h em221_83 rfl rfl
    rcases tx_if (t := 88) (p' := 87) h em221_84 (by decide) rfl with ⟨c84, h⟩ | ⟨c84, h⟩
    · replace c84 : o.toInt = 0 := c84
      replace h := tx_aload_n (p' := 89) h em221_88 rfl rfl
      replace h := tx_bipush (v := 6) (p' := 91) h em221_89 (by decide +kernel) rfl
      replace h := tx_iload_n (p' := 92) h em221_91 rfl rfl
      obtain ⟨r92, μ92, hE92, h⟩ := tx_invV (na := 3) (mn := 204) (as := [.inr (.inl (some 75)), .inl (6 : Int32), .inl (μ.1 75 25)]) (rest := []) (p' := 95) h em221_92 ((congrFun xo_12 277).trans rfl) xm_204 rfl rfl
      obtain ⟨rfl, hO92, hw92⟩ := qz_wrong (f0 := 6) hE92 (by decide) (by decide) (fun q g => Or.inl (by rw [hO.2.2.2.2.2] at g ⊢; rw [hW7] at g ⊢; rw [qzS_P hO.1, qzS_P h7.1]; exact hb.2.2.2 g))
      replace h : eT xq_221 _ 95 [some (.inr (.inl (some 75))), some (.inl (μ.1 75 25)), some (.inl o), some (.inl i)] [] μ92 r μ' := h
      replace h := tx_aload_n (p' := 96) h em221_95 rfl rfl
      replace h := tx_iconst (v := 0) (p' := 97) h em221_96 (by decide +kernel) rfl
      replace h := tx_putf (a := 75) (c := 12) (j := 53) (p' := 100) h em221_97 ((congrFun xo_12 284).trans rfl) rfl
      obtain ⟨rfl, hμ⟩ := tx_return h em221_100
      rw [hμ]
      have hl : rl μ (rT μ) = false := by
        refine bl2_f.mpr (fun ⟨fs, hf1, hf2⟩ => ?_)
        have e : es = fs := qzR_inj he1.1 (fun d hd => ⟨(hf1 d hd).1, by have := (hf1 d hd).2; omega⟩) (he2.symm.trans hf2)
        subst e
        have := hio.mpr (fun j hj => by
          have hm : es.getD (es.length - 1 - j) 0 ∈ es := by
            rw [List.getD_eq_getElem?_getD, List.getElem?_eq_getElem (show es.length - 1 - j < es.length by omega)]
            exact List.getElem_mem _
          exact (hf1 _ hm).2)
        omega
      have hwf : rW μ92 = nL μ (rT μ) (nN (rT μ) (rW μ)) := by
        rw [hw92 (by rw [hO.2.2.1]; exact hf7), hO.2.2.2.2.2, hW7, qzS_P hO.1, qzS_P h7.1]
        show _ = pNote 6 _ (!rl μ (rT μ)) _
        rw [hl]
        rfl
      have hu9 := qzU_f (v := 0) (j := 53) (qzU_rf (μ := μ92)) (by omega)
      have hpp := hI.1.2.2.2.1 (rT μ) (rT μ7) hb.1 (by omega) hT.2.1
      refine ⟨rfl, qz_right (qz_add hI h7 hf7 (qzO_tr (qzO_u hO) hO92) hwf ?_) hu9⟩
      rw [hwf]
      exact pNote_w (by decide) (fun g => by have := hb.2.2.2 g; show (rW μ).2 < _; omega) hpp
    · replace c84 : ¬ o.toInt = 0 := c84
      obtain ⟨rfl, hμ⟩ := tx_return h em221_87
      rw [hμ]
      have hl : rl μ (rT μ) = true := by
        refine bl2_t.mpr ⟨es, fun d hd => ⟨(he1.1 d hd).1, ?_⟩, he2⟩
        obtain ⟨j, hj, rfl⟩ := List.getElem_of_mem hd
        have := hio.mp (by omega) (es.length - 1 - j) (by omega)
        rw [show es.length - 1 - (es.length - 1 - j) = j by omega] at this
        rw [List.getD_eq_getElem?_getD, List.getElem?_eq_getElem hj] at this
        exact this
      have hwf : rW ω = nL μ (rT μ) (nN (rT μ) (rW μ)) := by
        rw [hO.2.2.2.2.2, hW7]
        show _ = pNote 6 _ (!rl μ (rT μ)) _
        rw [hl]
        unfold pNote
        rw [if_neg (fun q => absurd q.1 (by decide))]
        rfl
      refine ⟨rfl, qz_add hI h7 hf7 (qzO_u hO) hwf ?_⟩
      rw [hO.2.2.2.2.2, hW7]
      intro g
      have := hb.2.2.2 g
      have := hI.1.2.2.2.1 (rT μ) (rT μ7) hb.1 (by omega) hT.2.1
      omega
  · replace c45 : ¬ (ω.1 75 53).toInt ≤ i.toInt := c45
    rw [h53] at c45
    replace h := tx_aload_n (p' := 49) h em221_48 rfl rfl
    replace h := tx_getc (c := 12) (j := 52) (p' := 52) h em221_49 ((congrFun xo_12 101).trans rfl) rfl rfl rfl
    replace h := tx_iload_n (p' := 53) h em221_52 rfl rfl
    replace h := tx_aload_n (p' := 54) h em221_53 rfl rfl
    replace h := tx_getc (c := 12) (j := 22) (p' := 57) h em221_54 ((congrFun xo_12 30).trans rfl) rfl rfl rfl
    replace h := tx_iload_n (p' := 58) h em221_57 rfl rfl
    obtain ⟨hb58, h⟩ := tx_lald (len := 403) (p' := 59) h em221_58 rfl rfl
    replace hb58 : 0 ≤ (μ.1 75 25).toInt ∧ (μ.1 75 25).toInt < 403 := hb58
    replace h := tx_iload_n (p' := 60) h em221_59 rfl rfl
    obtain ⟨r60, μ60, hE60, h⟩ := tx_invS (na := 2) (mn := 223) (as := [.inr (.inr (ω.2.1 81 (μ.1 75 25).toInt.toNat)), .inl i]) (rest := [.inl i, .inr (.inl (some 103))]) (p' := 63) h em221_60 ((congrFun xo_12 287).trans rfl) xm_223 rfl rfl
    obtain ⟨lv, rfl, hlv, hm60⟩ := ex_letterIn hE60 he1 (by rw [hO.1.2.2]; exact he3) hi0 (by omega)
    rw [hm60] at h
    replace h : eT xq_221 _ 63 [some (.inr (.inl (some 75))), some (.inl (μ.1 75 25)), some (.inl o), some (.inl i)] [.inl lv, .inl i, .inr (.inl (some 103))] ω r μ' := h
    obtain ⟨hb63, h⟩ := tx_iast (len := 8) (p' := 64) h em221_63 rfl rfl
    replace hb63 : 0 ≤ i.toInt ∧ i.toInt < 8 := hb63
    replace h := tx_aload_n (p' := 65) h em221_64 rfl rfl
    replace h := tx_getc (c := 12) (j := 52) (p' := 68) h em221_65 ((congrFun xo_12 101).trans rfl) rfl rfl rfl
    replace h := tx_iload_n (p' := 69) h em221_68 rfl rfl
    obtain ⟨hb69, h⟩ := tx_iald (len := 8) (p' := 70) h em221_69 rfl rfl
    replace hb69 : 0 ≤ i.toInt ∧ i.toInt < 8 := hb69
    replace h := tx_bipush (v := 7) (p' := 72) h em221_70 (by decide +kernel) rfl
    rcases tx_icmp (t := 77) (p' := 75) h em221_72 (by decide) rfl with ⟨c72, h⟩ | ⟨c72, h⟩
    · replace c72 : ((xpi ω 103 i.toInt.toNat lv).1 103 i.toInt.toNat).toInt ≤ 7 := c72
      replace h := tx_iinc (v := 1) (p' := 80) h em221_77 (by decide +kernel) rfl rfl
      replace h : eT xq_221 _ 80 [some (.inr (.inl (some 75))), some (.inl (μ.1 75 25)), some (.inl o), some (.inl (i + 1))] [] (xpi ω 103 i.toInt.toNat lv) r μ' := h
      obtain ⟨n2, hn2, h⟩ := tx_gotoS (t := 40) h em221_80 (by decide)
      have hi1 : (i + 1).toInt = i.toInt + 1 := by rw [an_add (by rw [e1i]; omega) (by rw [e1i]; have := he1.2; omega), e1i]
      have hrd : (xpi ω 103 i.toInt.toNat lv).1 103 i.toInt.toNat = lv := xpi_at
      have hu2 := qzU_c (j := i.toInt.toNat) (v := lv) (k := 103) hO (by decide)
      have h53' : (xpi ω 103 i.toInt.toNat lv).1 75 53 = ln := (xpi_ne (fun q => absurd q.1 (by decide))).trans h53
      refine ih n2 hn2 _ _ _ h hu2 h53' (by rw [hi1]; omega) (by rw [hi1]; omega) ho ?_
      rw [hi1]
      have hle : lv.toInt ≤ 7 := by rw [hrd] at c72; omega
      refine ⟨fun g j hj => ?_, fun g => hio.mpr (fun j hj => g j (by omega))⟩
      by_cases e : (j : Int) = i.toInt
      · rw [show j = i.toInt.toNat by omega]; omega
      · exact hio.mp g j (by omega)
    · replace c72 : ¬ ((xpi ω 103 i.toInt.toNat lv).1 103 i.toInt.toNat).toInt ≤ 7 := c72
      replace h := tx_iconst (v := 0) (p' := 76) h em221_75 (by decide +kernel) rfl
      replace h := tx_istore_n (p' := 77) h em221_76 rfl
      replace h : eT xq_221 _ 77 [some (.inr (.inl (some 75))), some (.inl (μ.1 75 25)), some (.inl (0 : Int32)), some (.inl i)] [] (xpi ω 103 i.toInt.toNat lv) r μ' := h
      replace h := tx_iinc (v := 1) (p' := 80) h em221_77 (by decide +kernel) rfl rfl
      replace h : eT xq_221 _ 80 [some (.inr (.inl (some 75))), some (.inl (μ.1 75 25)), some (.inl (0 : Int32)), some (.inl (i + 1))] [] (xpi ω 103 i.toInt.toNat lv) r μ' := h
      obtain ⟨n2, hn2, h⟩ := tx_gotoS (t := 40) h em221_80 (by decide)
      have hi1 : (i + 1).toInt = i.toInt + 1 := by rw [an_add (by rw [e1i]; omega) (by rw [e1i]; have := he1.2; omega), e1i]
      have hrd : (xpi ω 103 i.toInt.toNat lv).1 103 i.toInt.toNat = lv := xpi_at
      have hu2 := qzU_c (j := i.toInt.toNat) (v := lv) (k := 103) hO (by decide)
      have h53' : (xpi ω 103 i.toInt.toNat lv).1 75 53 = ln := (xpi_ne (fun q => absurd q.1 (by decide))).trans h53
      refine ih n2 hn2 _ _ _ h hu2 h53' (by rw [hi1]; omega) (by rw [hi1]; omega) (Or.inl (by decide)) ?_
      rw [hi1]
      have hgt : 7 < lv.toInt := by rw [hrd] at c72; omega
      refine ⟨fun g => absurd g (by decide), fun g => ?_⟩
      have := g i.toInt.toNat (by omega)
      omega
set_option maxRecDepth 10000 in
set_option maxHeartbeats 4000000 in
theorem qz_takes {m : Int} {μ μ' : xM} {r : Option zV} (h0 : Ex gx xq_221 [.inr (.inl (some 75))] μ r μ') (hI : qzI m μ) : r = none ∧ qzN m (pAcc (rK μ) 2) (nL μ) μ μ' := by
  obtain ⟨n, h⟩ := tx_in (L := [some (.inr (.inl (some 75))), none, none, none]) h0 rfl
  replace h := tx_aload_n (p' := 1) h em221_0 rfl rfl
  replace h := tx_getf (c := 12) (j := 25) (p' := 4) h em221_1 ((congrFun xo_12 203).trans rfl) rfl rfl (by decide) rfl
  replace h := tx_istore_n (p' := 5) h em221_4 rfl
  replace h : eT xq_221 _ 5 [some (.inr (.inl (some 75))), some (.inl (μ.1 75 25)), none, none] [] μ r μ' := h
  replace h := tx_aload_n (p' := 6) h em221_5 rfl rfl
  replace h := tx_iconst (v := 1) (p' := 7) h em221_6 (by decide +kernel) rfl
  obtain ⟨r7, μ7, hE7, h⟩ := tx_invV (na := 2) (mn := 169) (as := [.inr (.inl (some 75)), .inl (1 : Int32)]) (rest := []) (p' := 10) h em221_7 ((congrFun xo_12 258).trans rfl) xm_169 rfl rfl
  obtain ⟨rfl, h7⟩ := qz_must (k0 := 2) hE7 hI (by decide) (by decide)
  replace h : eT xq_221 _ 10 [some (.inr (.inl (some 75))), some (.inl (μ.1 75 25)), none, none] [] μ7 r μ' := h
  replace h := tx_aload_n (p' := 11) h em221_10 rfl rfl
  replace h := tx_iconst (v := 0) (p' := 12) h em221_11 (by decide +kernel) rfl
  replace h := tx_putf (a := 75) (c := 12) (j := 53) (p' := 15) h em221_12 ((congrFun xo_12 284).trans rfl) rfl
  replace h := tx_aload_n (p' := 16) h em221_15 rfl rfl
  replace h := tx_getf (c := 12) (j := 27) (p' := 19) h em221_16 ((congrFun xo_12 200).trans rfl) rfl rfl (by decide) rfl
  replace h : eT xq_221 _ 19 [some (.inr (.inl (some 75))), some (.inl (μ.1 75 25)), none, none] [.inl (μ7.1 75 27)] (xpi μ7 75 53 (0 : Int32)) r μ' := h
  rcases tx_if (t := 23) (p' := 22) h em221_19 (by decide) rfl with ⟨c19, h⟩ | ⟨c19, h⟩
  · replace c19 : (μ7.1 75 27).toInt ≤ 0 := c19
    have hf7 : rF μ7 = 0 := by have := h7.2.2.2.2.1; unfold rF at *; omega
    have hk := qz_K hI h7 hf7
    have hz := qz_rf0 hI h7 hf7
    have hT := h7.2.2.2.2.2 hf7
    have hb := hI.2.2 hz.1
    obtain ⟨es, he1, he2⟩ := (hI.1.2.2.2.2 (rT μ) hb.1 hb.2.1).2 hk.1
    have he3 : (μ7.2.1 81 (μ.1 75 25).toInt.toNat).toInt = qzR es := by rw [h7.1.2.2]; exact he2
    replace h := tx_aload_n (p' := 24) h em221_23 rfl rfl
    replace h := tx_aload_n (p' := 25) h em221_24 rfl rfl
    replace h := tx_getc (c := 12) (j := 22) (p' := 28) h em221_25 ((congrFun xo_12 30).trans rfl) rfl rfl rfl
    replace h := tx_iload_n (p' := 29) h em221_28 rfl rfl
    obtain ⟨hb29, h⟩ := tx_lald (len := 403) (p' := 30) h em221_29 rfl rfl
    replace hb29 : 0 ≤ (μ.1 75 25).toInt ∧ (μ.1 75 25).toInt < 403 := hb29
    obtain ⟨r30, μ30, hE30, h⟩ := tx_invS (na := 1) (mn := 222) (as := [.inr (.inr ((xpi μ7 75 53 (0 : Int32)).2.1 81 (μ.1 75 25).toInt.toNat))]) (rest := [.inr (.inl (some 75))]) (p' := 33) h em221_30 ((congrFun xo_12 280).trans rfl) xm_222 rfl rfl
    obtain ⟨ln, rfl, hln, hm30⟩ := ex_lettersIn hE30 he1 he3
    rw [hm30] at h
    replace h : eT xq_221 _ 33 [some (.inr (.inl (some 75))), some (.inl (μ.1 75 25)), none, none] [.inl ln, .inr (.inl (some 75))] (xpi μ7 75 53 (0 : Int32)) r μ' := h
    replace h := tx_putf (a := 75) (c := 12) (j := 53) (p' := 36) h em221_33 ((congrFun xo_12 284).trans rfl) rfl
    replace h := tx_iconst (v := 1) (p' := 37) h em221_36 (by decide +kernel) rfl
    replace h := tx_istore_n (p' := 38) h em221_37 rfl
    replace h : eT xq_221 _ 38 [some (.inr (.inl (some 75))), some (.inl (μ.1 75 25)), some (.inl (1 : Int32)), none] [] (xpi (xpi μ7 75 53 (0 : Int32)) 75 53 ln) r μ' := h
    replace h := tx_iconst (v := 0) (p' := 39) h em221_38 (by decide +kernel) rfl
    replace h := tx_istore_n (p' := 40) h em221_39 rfl
    replace h : eT xq_221 _ 40 [some (.inr (.inl (some 75))), some (.inl (μ.1 75 25)), some (.inl (1 : Int32)), some (.inl (0 : Int32))] [] (xpi (xpi μ7 75 53 (0 : Int32)) 75 53 ln) r μ' := h
    refine tk_loop hI h7 hf7 he1 he2 he3 hln _ _ _ _ h (qzU_f (qzU_f qzU_rf (by omega)) (by omega)) xpi_at (by decide) (by show (0 : Int) ≤ es.length; omega) (Or.inr (by decide)) ⟨fun _ j hj => ?_, fun _ => by decide⟩
    have hj : (j : Int) < 0 := hj
    omega
  · replace c19 : ¬ (μ7.1 75 27).toInt ≤ 0 := c19
    obtain ⟨rfl, hμ⟩ := tx_return h em221_22
    rw [hμ]
    exact ⟨rfl, qz_dead h7 (by unfold rF; omega) (qzO_u (qzU_f qzU_rf (by omega)))⟩
set_option maxRecDepth 10000 in
set_option maxHeartbeats 4000000 in
theorem qz_ends {t : Int32} {m : Int} {μ μ' : xM} {r : Option zV} (h0 : Ex gx xq_220 [.inr (.inl (some 75)), .inl t] μ r μ') (hI : qzI m μ) : r = none ∧ ∃ ν, qzN m (pAcc (rK μ) 59) nN μ ν ∧ ((0 < rF ν ∧ μ' = ν) ∨ (rF ν = 0 ∧ μ' = xpi (xpl ν 83 (μ.1 75 33).toInt.toNat (μ.2.1 81 t.toInt.toNat)) 75 33 (μ.1 75 33 + 1))) := by
  obtain ⟨n, h⟩ := tx_in (L := [some (.inr (.inl (some 75))), some (.inl t)]) h0 rfl
  replace h := tx_aload_n (p' := 1) h em220_0 rfl rfl
  replace h := tx_iconst (v := 4) (p' := 2) h em220_1 (by decide +kernel) rfl
  obtain ⟨r2, μ2, hE2, h⟩ := tx_invV (na := 2) (mn := 169) (as := [.inr (.inl (some 75)), .inl (4 : Int32)]) (rest := []) (p' := 5) h em220_2 ((congrFun xo_12 258).trans rfl) xm_169 rfl rfl
  obtain ⟨rfl, h7⟩ := qz_must (k0 := 59) hE2 hI (by decide) (by decide)
  replace h : eT xq_220 _ 5 [some (.inr (.inl (some 75))), some (.inl t)] [] μ2 r μ' := h
  replace h := tx_aload_n (p' := 6) h em220_5 rfl rfl
  replace h := tx_getf (c := 12) (j := 27) (p' := 9) h em220_6 ((congrFun xo_12 200).trans rfl) rfl rfl (by decide) rfl
  rcases tx_if (t := 13) (p' := 12) h em220_9 (by decide) rfl with ⟨c9, h⟩ | ⟨c9, h⟩
  · replace c9 : (μ2.1 75 27).toInt ≤ 0 := c9
    replace h := tx_aload_n (p' := 14) h em220_13 rfl rfl
    replace h := tx_getc (c := 12) (j := 34) (p' := 17) h em220_14 ((congrFun xo_12 40).trans rfl) rfl rfl rfl
    replace h := tx_aload_n (p' := 18) h em220_17 rfl rfl
    replace h := tx_getf (c := 12) (j := 33) (p' := 21) h em220_18 ((congrFun xo_12 236).trans rfl) rfl rfl (by decide) rfl
    replace h := tx_aload_n (p' := 22) h em220_21 rfl rfl
    replace h := tx_getc (c := 12) (j := 22) (p' := 25) h em220_22 ((congrFun xo_12 30).trans rfl) rfl rfl rfl
    replace h := tx_iload_n (p' := 26) h em220_25 rfl rfl
    obtain ⟨hb26, h⟩ := tx_lald (len := 403) (p' := 27) h em220_26 rfl rfl
    replace hb26 : 0 ≤ t.toInt ∧ t.toInt < 403 := hb26
    obtain ⟨hb27, h⟩ := tx_last (len := 12) (p' := 28) h em220_27 rfl rfl
    replace hb27 : 0 ≤ (μ2.1 75 33).toInt ∧ (μ2.1 75 33).toInt < 12 := hb27
    replace h := tx_aload_n (p' := 29) h em220_28 rfl rfl
    replace h := tx_dup (p' := 30) h em220_29 rfl
    replace h := tx_getf (c := 12) (j := 33) (p' := 33) h em220_30 ((congrFun xo_12 236).trans rfl) rfl rfl (by decide) rfl
    replace h : eT xq_220 _ 33 [some (.inr (.inl (some 75))), some (.inl t)] [.inl (μ2.1 75 33), .inr (.inl (some 75))] (xpl μ2 83 (μ2.1 75 33).toInt.toNat (μ2.2.1 81 t.toInt.toNat)) r μ' := h
    replace h := tx_iconst (v := 1) (p' := 34) h em220_33 (by decide +kernel) rfl
    replace h := tx_iadd (p' := 35) h em220_34 rfl
    replace h := tx_putf (a := 75) (c := 12) (j := 33) (p' := 38) h em220_35 ((congrFun xo_12 236).trans rfl) rfl
    obtain ⟨rfl, hμ⟩ := tx_return h em220_38
    refine ⟨rfl, _, h7, Or.inr ⟨by have := h7.2.2.2.2.1; unfold rF at *; omega, ?_⟩⟩
    rw [hμ]
    have e33 : μ2.1 75 33 = μ.1 75 33 := h7.1.2.1 33 (by decide) (by decide) (by decide) (by decide) (by decide)
    rw [e33, h7.1.2.2]
  · replace c9 : ¬ (μ2.1 75 27).toInt ≤ 0 := c9
    obtain ⟨rfl, hμ⟩ := tx_return h em220_12
    rw [hμ]
    exact ⟨rfl, _, h7, Or.inl ⟨by unfold rF; omega, rfl⟩⟩
