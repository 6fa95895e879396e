/-! ===== the reference's tellings: what they tell ===== -/
/-- a name's letters' numbers, the last one first; its letters from 0 on -/
noncomputable def rEs (μ : xM) (t : Int) : List Int := @dite _ (∃ es, qzD es ∧ rNm μ t = qzR es) (Classical.propDecidable _) (fun h => h.choose) (fun _ => [])
noncomputable def rLt (μ : xM) (t : Int) : List Int := (rEs μ t).reverse.map (fun d => d - 1)
theorem rEs_eq {μ : xM} {t : Int} {es : List Int} (h : qzD es) (he : rNm μ t = qzR es) : rEs μ t = es := by
  have hx : ∃ es, qzD es ∧ rNm μ t = qzR es := ⟨es, h, he⟩
  unfold rEs
  rw [dif_pos hx]
  exact qzR_inj hx.choose_spec.1.1 h.1 (hx.choose_spec.2.symm.trans he)
theorem rLt_at {es : List Int} {i : Nat} (h : i < es.length) : (es.reverse.map (fun d => d - 1)).getD i 0 = es.getD (es.length - 1 - i) 0 - 1 := by
  rw [List.getD_eq_getElem?_getD, List.getElem?_map, List.getElem?_reverse h, List.getD_eq_getElem?_getD, List.getElem?_eq_getElem (by omega)]
  rfl
theorem qzS_rLt {μ ν : xM} (h : qzS μ ν) : rLt ν = rLt μ := by funext t; unfold rLt rEs; rw [qzS_N h]
theorem qzG_rLt {μ ν : xM} (h : qzG μ ν) : rLt ν = rLt μ := by funext t; unfold rLt rEs; rw [qzG_N h]
/-- what is told stands: cells 84 to 93 -/
def mE (μ μ' : xM) : Prop := hOK μ' ∧ ∀ k j, 84 ≤ k → k ≤ 93 → μ'.1 k j = μ.1 k j
noncomputable def mB (W : hW) : Bool := (List.range 10).all (fun k => hpA W (84 + k))
theorem mE_w {W : hW} {μ μ' : xM} (hk : mB W = true) (h : hRm (hP W) (hQ W) μ μ') (hO : hOK μ) : mE μ μ' := by
  refine ⟨(h hO).1, fun k j h1 h2 => hSt h hO (by omega) (hpA_ok ?_ j)⟩
  have := List.all_eq_true.mp hk (k - 84) (List.mem_range.mpr (by omega))
  rw [show 84 + (k - 84) = k by omega] at this
  exact this
theorem mE_tr {μ ν ω : xM} (h1 : mE μ ν) (h2 : mE ν ω) : mE μ ω := ⟨h2.1, fun k j a b => (h2.2 k j a b).trans (h1.2 k j a b)⟩
/-- the letters taken, as they stand -/
def mLs (μ : xM) : List Int := (List.range (μ.1 75 53).toInt.toNat).map (fun i => (μ.1 103 i).toInt)
theorem mLs_at {μ : xM} {i : Nat} (h : i < (mLs μ).length) : (mLs μ)[i] = (μ.1 103 i).toInt := by
  have e : (mLs μ)[i]? = some (μ.1 103 i).toInt := by
    unfold mLs at h ⊢
    rw [List.length_map, List.length_range] at h
    rw [List.getElem?_map, List.getElem?_range h]
    rfl
  rw [List.getElem?_eq_getElem h] at e
  exact Option.some.inj e
set_option maxRecDepth 10000 in
set_option maxHeartbeats 4000000 in
theorem rk_tloop {m : Int} {ln : Int32} {es : List Int} {μ μ7 μ' : xM} {r : Option zV} (hI : qzI m μ) (h7 : qzN m (pAcc (rK μ) 2) nN μ μ7) (hf7 : rF μ7 = 0) (he1 : qzD es) (he2 : rNm μ (rT μ) = qzR es) (he3 : (μ7.2.1 81 (μ.1 75 25).toInt.toNat).toInt = qzR es) (hln : ln.toInt = es.length) : ∀ (n : Nat) (o i : Int32) (ω : xM), eT xq_221 n 40 [some (.inr (.inl (some 75))), some (.inl (μ.1 75 25)), some (.inl o), some (.inl i)] [] ω r μ' → qzU μ7 ω → ω.1 75 53 = ln → 0 ≤ i.toInt → i.toInt ≤ es.length → (o.toInt = 0 ∨ o.toInt = 1) → (o.toInt = 1 ↔ ∀ j : Nat, (j : Int) < i.toInt → es.getD (es.length - 1 - j) 0 ≤ 8) → (∀ j : Nat, (j : Int) < i.toInt → (ω.1 103 j).toInt = es.getD (es.length - 1 - j) 0 - 1) → (mLs μ').length ≤ 8 ∧ ((μ'.1 75 53).toInt = (mLs μ').length) ∧ (∀ x, x ∈ mLs μ' → 0 ≤ x ∧ x ≤ 7) ∧ ((rW μ').1 = 0 → mLs μ' = (es.reverse.map (fun d => d - 1))) := by
  have e1i : (1 : Int32).toInt = 1 := by decide
  have hz := qz_rf0 hI h7 hf7
  have hb := hI.2.2 hz.1
  have hT := h7.2.2.2.2.2 hf7
  have hW7 : rW μ7 = rW μ := hz.2.2.2.1
  intro n
  induction n using Nat.strongRecOn with
  | ind n ih =>
  intro o i ω h hO h53 hi0 hi1' ho hio hlt
  replace h := tx_iload_n (p' := 41) h em221_40 rfl rfl
  replace h := tx_aload_n (p' := 42) h em221_41 rfl rfl
  replace h := tx_getf (c := 12) (j := 53) (p' := 45) h em221_42 ((congrFun xo_12 284).trans rfl) rfl rfl (by decide) rfl
  rcases tx_icmp (t := 83) (p' := 48) h em221_45 (by decide) rfl with ⟨c45, h⟩ | ⟨c45, h⟩
  · replace c45 : (ω.1 75 53).toInt ≤ i.toInt := c45
    have hil : i.toInt = es.length := by rw [h53] at c45; omega
    replace h := tx_iload_n (p' := 84) h em221_83 rfl rfl
    rcases tx_if (t := 88) (p' := 87) h em221_84 (by decide) rfl with ⟨c84, h⟩ | ⟨c84, h⟩
    · replace c84 : o.toInt = 0 := c84
      replace h := tx_aload_n (p' := 89) h em221_88 rfl rfl
      replace h := tx_bipush (v := 6) (p' := 91) h em221_89 (by decide +kernel) rfl
      replace h := tx_iload_n (p' := 92) h em221_91 rfl rfl
      obtain ⟨r92, μ92, hE92, h⟩ := tx_invV (na := 3) (mn := 204) (as := [.inr (.inl (some 75)), .inl (6 : Int32), .inl (μ.1 75 25)]) (rest := []) (p' := 95) h em221_92 ((congrFun xo_12 277).trans rfl) xm_204 rfl rfl
      obtain ⟨rfl, hO92, hw92⟩ := qz_wrong (f0 := 6) hE92 (by decide) (by decide) (fun q g => Or.inl (by rw [hO.2.2.2.2.2] at g ⊢; rw [hW7] at g ⊢; rw [qzS_P hO.1, qzS_P h7.1]; exact hb.2.2.2 g))
      replace h : eT xq_221 _ 95 [some (.inr (.inl (some 75))), some (.inl (μ.1 75 25)), some (.inl o), some (.inl i)] [] μ92 r μ' := h
      replace h := tx_aload_n (p' := 96) h em221_95 rfl rfl
      replace h := tx_iconst (v := 0) (p' := 97) h em221_96 (by decide +kernel) rfl
      replace h := tx_putf (a := 75) (c := 12) (j := 53) (p' := 100) h em221_97 ((congrFun xo_12 284).trans rfl) rfl
      obtain ⟨rfl, hμ⟩ := tx_return h em221_100
      have eN : mLs μ' = [] := by
        unfold mLs
        rw [hμ, xpi_at]
        rfl
      refine ⟨by rw [eN]; exact Nat.zero_le _, by rw [eN, hμ, xpi_at]; rfl, fun x hx => by rw [eN] at hx; exact absurd hx List.not_mem_nil, fun hwz => ?_⟩
      exfalso
      rw [hμ] at hwz
      have hwz : (rW μ92).1 = 0 := hwz
      rw [hw92 (by rw [hO.2.2.1]; exact hf7), hO.2.2.2.2.2] at hwz
      have := (wNote (by decide) hwz).1
      cases this
    · replace c84 : ¬ o.toInt = 0 := c84
      obtain ⟨rfl, hμ⟩ := tx_return h em221_87
      rw [hμ]
      have eN : (ω.1 75 53).toInt.toNat = es.length := by rw [h53]; omega
      have hle := hio.mp (by omega)
      have eL : mLs ω = es.reverse.map (fun d => d - 1) := by
        unfold mLs
        rw [eN]
        refine List.ext_getElem (by rw [List.length_map, List.length_map, List.length_range, List.length_reverse]) (fun j h1 h2 => ?_)
        rw [List.length_map, List.length_range] at h1
        rw [List.getElem_map, List.getElem_range, hlt j (by omega)]
        have h3 := rLt_at (es := es) (i := j) h1
        rw [List.getD_eq_getElem?_getD, List.getElem?_eq_getElem h2] at h3
        exact h3.symm
      refine ⟨by rw [eL, List.length_map, List.length_reverse]; exact he1.2, by rw [eL, List.length_map, List.length_reverse, h53]; exact hln, fun x hx => ?_, fun _ => eL⟩
      rw [eL] at hx
      obtain ⟨d, hd, rfl⟩ := List.mem_map.mp hx
      have hd := List.mem_reverse.mp hd
      obtain ⟨j, hj, rfl⟩ := List.getElem_of_mem hd
      have h4 := hle (es.length - 1 - j) (by omega)
      rw [show es.length - 1 - (es.length - 1 - j) = j by omega, List.getD_eq_getElem?_getD, List.getElem?_eq_getElem hj] at h4
      have h4 : es[j] ≤ 8 := h4
      have h5 := (he1.1 es[j] (List.getElem_mem hj)).1
      omega
  · replace c45 : ¬ (ω.1 75 53).toInt ≤ i.toInt := c45
    rw [h53] at c45
    replace h := tx_aload_n (p' := 49) h em221_48 rfl rfl
    replace h := tx_getc (c := 12) (j := 52) (p' := 52) h em221_49 ((congrFun xo_12 101).trans rfl) rfl rfl rfl
    replace h := tx_iload_n (p' := 53) h em221_52 rfl rfl
    replace h := tx_aload_n (p' := 54) h em221_53 rfl rfl
    replace h := tx_getc (c := 12) (j := 22) (p' := 57) h em221_54 ((congrFun xo_12 30).trans rfl) rfl rfl rfl
    replace h := tx_iload_n (p' := 58) h em221_57 rfl rfl
    obtain ⟨hb58, h⟩ := tx_lald (len := 403) (p' := 59) h em221_58 rfl rfl
    replace hb58 : (0 : Int) ≤ (μ.1 75 25).toInt ∧ (μ.1 75 25).toInt < 403 := hb58
    replace h := tx_iload_n (p' := 60) h em221_59 rfl rfl
    obtain ⟨r60, μ60, hE60, h⟩ := tx_invS (na := 2) (mn := 223) (as := [.inr (.inr (ω.2.1 81 (μ.1 75 25).toInt.toNat)), .inl i]) (rest := [.inl i, .inr (.inl (some 103))]) (p' := 63) h em221_60 ((congrFun xo_12 287).trans rfl) xm_223 rfl rfl
    obtain ⟨lv, rfl, hlv, hm60⟩ := ex_letterIn hE60 he1 (by rw [hO.1.2.2]; exact he3) hi0 (by omega)
    rw [hm60] at h
    replace h : eT xq_221 _ 63 [some (.inr (.inl (some 75))), some (.inl (μ.1 75 25)), some (.inl o), some (.inl i)] [.inl lv, .inl i, .inr (.inl (some 103))] ω r μ' := h
    obtain ⟨hb63, h⟩ := tx_iast (len := 8) (p' := 64) h em221_63 rfl rfl
    replace hb63 : (0 : Int) ≤ i.toInt ∧ i.toInt < 8 := hb63
    replace h := tx_aload_n (p' := 65) h em221_64 rfl rfl
    replace h := tx_getc (c := 12) (j := 52) (p' := 68) h em221_65 ((congrFun xo_12 101).trans rfl) rfl rfl rfl
    replace h := tx_iload_n (p' := 69) h em221_68 rfl rfl
    obtain ⟨hb69, h⟩ := tx_iald (len := 8) (p' := 70) h em221_69 rfl rfl
    replace hb69 : (0 : Int) ≤ i.toInt ∧ i.toInt < 8 := hb69
    replace h := tx_bipush (v := 7) (p' := 72) h em221_70 (by decide +kernel) rfl
    rcases tx_icmp (t := 77) (p' := 75) h em221_72 (by decide) rfl with ⟨c72, h⟩ | ⟨c72, h⟩
    · replace c72 : ((xpi ω 103 i.toInt.toNat lv).1 103 i.toInt.toNat).toInt ≤ 7 := c72
      replace h := tx_iinc (v := 1) (p' := 80) h em221_77 (by decide +kernel) rfl rfl
      replace h : eT xq_221 _ 80 [some (.inr (.inl (some 75))), some (.inl (μ.1 75 25)), some (.inl o), some (.inl (i + 1))] [] (xpi ω 103 i.toInt.toNat lv) r μ' := h
      obtain ⟨n2, hn2, h⟩ := tx_gotoS (t := 40) h em221_80 (by decide)
      have hi1 : (i + 1).toInt = i.toInt + 1 := by rw [an_add (by rw [e1i]; omega) (by rw [e1i]; have := he1.2; omega), e1i]
      have hrd : (xpi ω 103 i.toInt.toNat lv).1 103 i.toInt.toNat = lv := xpi_at
      have hu2 := qzU_c (j := i.toInt.toNat) (v := lv) (k := 103) hO (by decide)
      have h53' : (xpi ω 103 i.toInt.toNat lv).1 75 53 = ln := (xpi_ne (fun q => absurd q.1 (by decide))).trans h53
      have hlt' : ∀ j : Nat, (j : Int) < (i + 1).toInt → ((xpi ω 103 i.toInt.toNat lv).1 103 j).toInt = es.getD (es.length - 1 - j) 0 - 1 := fun j hj => by
        by_cases e : j = i.toInt.toNat
        · rw [e, xpi_at]; exact hlv
        · rw [xpi_ne (fun z => e z.2)]; exact hlt j (by omega)
      refine ih n2 hn2 _ _ _ h hu2 h53' (by rw [hi1]; omega) (by rw [hi1]; omega) ho ?_ hlt'
      rw [hi1]
      have hle : lv.toInt ≤ 7 := by rw [hrd] at c72; omega
      refine ⟨fun g j hj => ?_, fun g => hio.mpr (fun j hj => g j (by omega))⟩
      by_cases e : (j : Int) = i.toInt
      · rw [show j = i.toInt.toNat by omega]; omega
      · exact hio.mp g j (by omega)
    · replace c72 : ¬ ((xpi ω 103 i.toInt.toNat lv).1 103 i.toInt.toNat).toInt ≤ 7 := c72
      replace h := tx_iconst (v := 0) (p' := 76) h em221_75 (by decide +kernel) rfl
      replace h := tx_istore_n (p' := 77) h em221_76 rfl
      replace h : eT xq_221 _ 77 [some (.inr (.inl (some 75))), some (.inl (μ.1 75 25)), some (.inl (0 : Int32)), some (.inl i)] [] (xpi ω 103 i.toInt.toNat lv) r μ' := h
      replace h := tx_iinc (v := 1) (p' := 80) h em221_77 (by decide +kernel) rfl rfl
      replace h : eT xq_221 _ 80 [some (.inr (.inl (some 75))), some (.inl (μ.1 75 25)), some (.inl (0 : Int32)), some (.inl (i + 1))] [] (xpi ω 103 i.toInt.toNat lv) r μ' := h
      obtain ⟨n2, hn2, h⟩ := tx_gotoS (t := 40) h em221_80 (by decide)
      have hi1 : (i + 1).toInt = i.toInt + 1 := by rw [an_add (by rw [e1i]; omega) (by rw [e1i]; have := he1.2; omega), e1i]
      have hrd : (xpi ω 103 i.toInt.toNat lv).1 103 i.toInt.toNat = lv := xpi_at
      have hu2 := qzU_c (j := i.toInt.toNat) (v := lv) (k := 103) hO (by decide)
      have h53' : (xpi ω 103 i.toInt.toNat lv).1 75 53 = ln := (xpi_ne (fun q => absurd q.1 (by decide))).trans h53
      have hlt' : ∀ j : Nat, (j : Int) < (i + 1).toInt → ((xpi ω 103 i.toInt.toNat lv).1 103 j).toInt = es.getD (es.length - 1 - j) 0 - 1 := fun j hj => by
        by_cases e : j = i.toInt.toNat
        · rw [e, xpi_at]; exact hlv
        · rw [xpi_ne (fun z => e z.2)]; exact hlt j (by omega)
      refine ih n2 hn2 _ _ _ h hu2 h53' (by rw [hi1]; omega) (by rw [hi1]; omega) (Or.inl (by decide)) ?_ hlt'
      rw [hi1]
      have hgt : 7 < lv.toInt := by rw [hrd] at c72; omega
      refine ⟨fun g => absurd g (by decide), fun g => ?_⟩
      have := g i.toInt.toNat (by omega)
      omega
set_option maxRecDepth 10000 in
set_option maxHeartbeats 4000000 in
theorem rk_takes {m : Int} {μ μ' : xM} {r : Option zV} (h0 : Ex gx xq_221 [.inr (.inl (some 75))] μ r μ') (hI : qzI m μ) : (mLs μ').length ≤ 8 ∧ ((μ'.1 75 53).toInt = (mLs μ').length) ∧ (∀ x, x ∈ mLs μ' → 0 ≤ x ∧ x ≤ 7) ∧ (rF μ' = 0 → (rW μ').1 = 0 → mLs μ' = rLt μ (rT μ)) := by
  obtain ⟨n, h⟩ := tx_in (L := [some (.inr (.inl (some 75))), none, none, none]) h0 rfl
  replace h := tx_aload_n (p' := 1) h em221_0 rfl rfl
  replace h := tx_getf (c := 12) (j := 25) (p' := 4) h em221_1 ((congrFun xo_12 203).trans rfl) rfl rfl (by decide) rfl
  replace h := tx_istore_n (p' := 5) h em221_4 rfl
  replace h : eT xq_221 _ 5 [some (.inr (.inl (some 75))), some (.inl (μ.1 75 25)), none, none] [] μ r μ' := h
  replace h := tx_aload_n (p' := 6) h em221_5 rfl rfl
  replace h := tx_iconst (v := 1) (p' := 7) h em221_6 (by decide +kernel) rfl
  obtain ⟨r7, μ7, hE7, h⟩ := tx_invV (na := 2) (mn := 169) (as := [.inr (.inl (some 75)), .inl (1 : Int32)]) (rest := []) (p' := 10) h em221_7 ((congrFun xo_12 258).trans rfl) xm_169 rfl rfl
  obtain ⟨rfl, h7⟩ := qz_must (k0 := 2) hE7 hI (by decide) (by decide)
  replace h : eT xq_221 _ 10 [some (.inr (.inl (some 75))), some (.inl (μ.1 75 25)), none, none] [] μ7 r μ' := h
  replace h := tx_aload_n (p' := 11) h em221_10 rfl rfl
  replace h := tx_iconst (v := 0) (p' := 12) h em221_11 (by decide +kernel) rfl
  replace h := tx_putf (a := 75) (c := 12) (j := 53) (p' := 15) h em221_12 ((congrFun xo_12 284).trans rfl) rfl
  replace h := tx_aload_n (p' := 16) h em221_15 rfl rfl
  replace h := tx_getf (c := 12) (j := 27) (p' := 19) h em221_16 ((congrFun xo_12 200).trans rfl) rfl rfl (by decide) rfl
  replace h : eT xq_221 _ 19 [some (.inr (.inl (some 75))), some (.inl (μ.1 75 25)), none, none] [.inl (μ7.1 75 27)] (xpi μ7 75 53 (0 : Int32)) r μ' := h
  rcases tx_if (t := 23) (p' := 22) h em221_19 (by decide) rfl with ⟨c19, h⟩ | ⟨c19, h⟩
  · replace c19 : (μ7.1 75 27).toInt ≤ 0 := c19
    have hf7 : rF μ7 = 0 := by have := h7.2.2.2.2.1; unfold rF at *; omega
    have hk := qz_K hI h7 hf7
    have hz := qz_rf0 hI h7 hf7
    have hT := h7.2.2.2.2.2 hf7
    have hb := hI.2.2 hz.1
    obtain ⟨es, he1, he2⟩ := (hI.1.2.2.2.2 (rT μ) hb.1 hb.2.1).2 hk.1
    have he3 : (μ7.2.1 81 (μ.1 75 25).toInt.toNat).toInt = qzR es := by rw [h7.1.2.2]; exact he2
    replace h := tx_aload_n (p' := 24) h em221_23 rfl rfl
    replace h := tx_aload_n (p' := 25) h em221_24 rfl rfl
    replace h := tx_getc (c := 12) (j := 22) (p' := 28) h em221_25 ((congrFun xo_12 30).trans rfl) rfl rfl rfl
    replace h := tx_iload_n (p' := 29) h em221_28 rfl rfl
    obtain ⟨hb29, h⟩ := tx_lald (len := 403) (p' := 30) h em221_29 rfl rfl
    replace hb29 : (0 : Int) ≤ (μ.1 75 25).toInt ∧ (μ.1 75 25).toInt < 403 := hb29
    obtain ⟨r30, μ30, hE30, h⟩ := tx_invS (na := 1) (mn := 222) (as := [.inr (.inr ((xpi μ7 75 53 (0 : Int32)).2.1 81 (μ.1 75 25).toInt.toNat))]) (rest := [.inr (.inl (some 75))]) (p' := 33) h em221_30 ((congrFun xo_12 280).trans rfl) xm_222 rfl rfl
    obtain ⟨ln, rfl, hln, hm30⟩ := ex_lettersIn hE30 he1 he3
    rw [hm30] at h
    replace h : eT xq_221 _ 33 [some (.inr (.inl (some 75))), some (.inl (μ.1 75 25)), none, none] [.inl ln, .inr (.inl (some 75))] (xpi μ7 75 53 (0 : Int32)) r μ' := h
    replace h := tx_putf (a := 75) (c := 12) (j := 53) (p' := 36) h em221_33 ((congrFun xo_12 284).trans rfl) rfl
    replace h := tx_iconst (v := 1) (p' := 37) h em221_36 (by decide +kernel) rfl
    replace h := tx_istore_n (p' := 38) h em221_37 rfl
    replace h : eT xq_221 _ 38 [some (.inr (.inl (some 75))), some (.inl (μ.1 75 25)), some (.inl (1 : Int32)), none] [] (xpi (xpi μ7 75 53 (0 : Int32)) 75 53 ln) r μ' := h
    replace h := tx_iconst (v := 0) (p' := 39) h em221_38 (by decide +kernel) rfl
    replace h := tx_istore_n (p' := 40) h em221_39 rfl
    replace h : eT xq_221 _ 40 [some (.inr (.inl (some 75))), some (.inl (μ.1 75 25)), some (.inl (1 : Int32)), some (.inl (0 : Int32))] [] (xpi (xpi μ7 75 53 (0 : Int32)) 75 53 ln) r μ' := h
    have hg := rk_tloop hI h7 hf7 he1 he2 he3 hln _ _ _ _ h (qzU_f (qzU_f qzU_rf (by omega)) (by omega)) xpi_at (by decide) (by show (0 : Int) ≤ es.length; omega) (Or.inr (by decide)) ⟨fun _ j hj => j0y hj, fun _ => by decide⟩ (fun j hj => j0y hj)
    have hes2 : rLt μ (rT μ) = es.reverse.map (fun d => d - 1) := by unfold rLt; rw [rEs_eq he1 he2]
    rw [hes2]
    exact ⟨hg.1, hg.2.1, hg.2.2.1, fun _ => hg.2.2.2⟩
  · replace c19 : ¬ (μ7.1 75 27).toInt ≤ 0 := c19
    obtain ⟨rfl, hμ⟩ := tx_return h em221_22
    have eN : mLs μ' = [] := by
      unfold mLs
      rw [hμ, xpi_at]
      rfl
    refine ⟨by rw [eN]; exact Nat.zero_le _, by rw [eN, hμ, xpi_at]; rfl, fun x hx => by rw [eN] at hx; exact absurd hx List.not_mem_nil, fun hfz _ => ?_⟩
    exfalso
    rw [hμ] at hfz
    unfold rF at hfz
    rw [xpi_ne (fun q => absurd q.2 (by decide))] at hfz
    omega
/-- a row of eight numbers at B of cell 85 is written alone -/
def mR (B : Nat) (μ ω : xM) : Prop := qzU μ ω ∧ hOK ω ∧ (∀ k j, k ≠ 85 → ω.1 k j = μ.1 k j) ∧ ω.2 = μ.2 ∧ ∀ j, (j < B ∨ B + 8 ≤ j) → ω.1 85 j = μ.1 85 j
theorem mR_i {B j : Nat} {v : Int32} {μ ω : xM} (h : mR B μ ω) (hj : B ≤ j ∧ j < B + 8) : mR B μ (xpi ω 85 j v) := ⟨qzU_c h.1 (by decide), h.2.1, fun k i hk => (xpi_ne (fun q => hk q.1)).trans (h.2.2.1 k i hk), h.2.2.2.1, fun i hi => (xpi_ne (fun q => by omega)).trans (h.2.2.2.2 i hi)⟩
theorem mR_L {B : Nat} {μ ω : xM} (h : mR B μ ω) : mLs ω = mLs μ := by
  unfold mLs
  rw [h.2.2.1 75 53 (by decide)]
  exact List.map_congr_left (fun i _ => by rw [h.2.2.1 103 i (by decide)])
set_option maxRecDepth 10000 in
set_option maxHeartbeats 4000000 in
theorem rk_h55 {B : Nat} {k t : Int32} {β μ' : xM} {r : Option zV} {Q : Prop} (hk : k.toInt = (B : Int)) (hB : B ≤ 72) (hN : (β.1 75 53).toInt = (mLs β).length) (hN8 : (mLs β).length ≤ 8) (hL7 : ∀ x, x ∈ mLs β → 0 ≤ x ∧ x ≤ 7) (K : ∀ (n : Nat) (ω : xM), eT xq_224 n 86 [some (.inr (.inl (some 75))), some (.inl k), some (.inl t), some (.inl (ω.1 75 53))] [] ω r μ' → mR B β ω → (∀ x : Nat, x < 8 → (ω.1 85 (B + x)).toInt = kCt (mLs β) x) → Q) : ∀ (n : Nat) (i : Int32) (ω : xM), eT xq_224 n 55 [some (.inr (.inl (some 75))), some (.inl k), some (.inl t), some (.inl i)] [] ω r μ' → mR B β ω → 0 ≤ i.toInt → i.toInt ≤ (mLs β).length → (∀ x : Nat, x < 8 → (ω.1 85 (B + x)).toInt = kCt ((mLs β).take i.toInt.toNat) x) → Q := by
  intro n
  induction n using Nat.strongRecOn with
  | ind n ih =>
  intro i ω h hR hi0 hi1 hC
  replace h := tx_iload_n (p' := 56) h em224_55 rfl rfl
  replace h := tx_aload_n (p' := 57) h em224_56 rfl rfl
  replace h := tx_getf (c := 12) (j := 53) (p' := 60) h em224_57 ((congrFun xo_12 284).trans rfl) rfl rfl (by decide) rfl
  rcases tx_icmp (t := 86) (p' := 63) h em224_60 (by decide) rfl with ⟨c60, h⟩ | ⟨c60, h⟩
  · replace c60 : (ω.1 75 53).toInt ≤ i.toInt := c60
    have ei : ω.1 75 53 = i := Int32.toInt_inj.mp (by rw [hR.2.2.1 75 53 (by decide)] at c60 ⊢; omega)
    rw [← ei] at h
    refine K _ _ h hR (fun x hx => ?_)
    rw [hC x hx]
    have e9 : (mLs β).length = i.toInt.toNat := by rw [hR.2.2.1 75 53 (by decide)] at c60; omega
    rw [← e9, List.take_length]
  · replace c60 : ¬ (ω.1 75 53).toInt ≤ i.toInt := c60
    replace h := tx_aload_n (p' := 64) h em224_63 rfl rfl
    replace h := tx_getc (c := 12) (j := 35) (p' := 67) h em224_64 ((congrFun xo_12 46).trans rfl) rfl rfl rfl
    replace h := tx_iload_n (p' := 68) h em224_67 rfl rfl
    replace h := tx_aload_n (p' := 69) h em224_68 rfl rfl
    replace h := tx_getc (c := 12) (j := 52) (p' := 72) h em224_69 ((congrFun xo_12 101).trans rfl) rfl rfl rfl
    replace h := tx_iload_n (p' := 73) h em224_72 rfl rfl
    obtain ⟨hb73, h⟩ := tx_iald (len := 8) (p' := 74) h em224_73 rfl rfl
    replace hb73 : (0 : Int) ≤ i.toInt ∧ i.toInt < 8 := hb73
    replace h := tx_iadd (p' := 75) h em224_74 rfl
    replace h := tx_dup2 (p' := 76) h em224_75 rfl
    obtain ⟨hb76, h⟩ := tx_iald (len := 80) (p' := 77) h em224_76 rfl rfl
    replace hb76 : (0 : Int) ≤ (k + (ω.1 103 i.toInt.toNat)).toInt ∧ (k + (ω.1 103 i.toInt.toNat)).toInt < 80 := hb76
    replace h := tx_iconst (v := 1) (p' := 78) h em224_77 (by decide +kernel) rfl
    replace h := tx_iadd (p' := 79) h em224_78 rfl
    obtain ⟨hb79, h⟩ := tx_iast (len := 80) (p' := 80) h em224_79 rfl rfl
    replace hb79 : (0 : Int) ≤ (k + (ω.1 103 i.toInt.toNat)).toInt ∧ (k + (ω.1 103 i.toInt.toNat)).toInt < 80 := hb79
    replace h := tx_iinc (v := 1) (p' := 83) h em224_80 (by decide +kernel) rfl rfl
    replace h : eT xq_224 _ 83 [some (.inr (.inl (some 75))), some (.inl k), some (.inl t), some (.inl (i + 1))] [] (xpi ω 85 (k + (ω.1 103 i.toInt.toNat)).toInt.toNat ((ω.1 85 (k + (ω.1 103 i.toInt.toNat)).toInt.toNat) + (1 : Int32))) r μ' := h
    obtain ⟨n2, hn2, h⟩ := tx_gotoS (t := 55) h em224_83 (by decide)
    have hlen : i.toInt.toNat < (mLs β).length := by rw [hR.2.2.1 75 53 (by decide)] at c60; omega
    have e1i : (1 : Int32).toInt = 1 := by decide
    have ei : (i + 1).toInt = i.toInt + 1 := by rw [an_add (by rw [e1i]; omega) (by rw [e1i]; omega), e1i]
    have en1 : (i + 1).toInt.toNat = i.toInt.toNat + 1 := by omega
    have eL : (ω.1 103 i.toInt.toNat).toInt = (mLs β)[i.toInt.toNat] := by
      rw [hR.2.2.1 103 _ (by decide), mLs_at]
    have h7 := hL7 _ (List.getElem_mem hlen)
    rw [← eL] at h7
    have ek : (k + (ω.1 103 i.toInt.toNat)).toInt = (B : Int) + (ω.1 103 i.toInt.toNat).toInt := by rw [an_add (by rw [hk]; omega) (by rw [hk]; omega), hk]
    have ekn : (k + (ω.1 103 i.toInt.toNat)).toInt.toNat = B + (ω.1 103 i.toInt.toNat).toInt.toNat := by omega
    have eo := hC (ω.1 103 i.toInt.toNat).toInt.toNat (by omega)
    have hb := kCt_nn (l := (mLs β).take i.toInt.toNat) (x := (((ω.1 103 i.toInt.toNat).toInt.toNat : Nat) : Int))
    have hb2 : ((mLs β).take i.toInt.toNat).length ≤ 8 := by rw [List.length_take]; omega
    have ev : (ω.1 85 (B + (ω.1 103 i.toInt.toNat).toInt.toNat) + 1).toInt = (ω.1 85 (B + (ω.1 103 i.toInt.toNat).toInt.toNat)).toInt + 1 := by rw [an_add (by rw [e1i, eo]; omega) (by rw [e1i, eo]; omega), e1i]
    rw [ekn] at h
    refine ih n2 hn2 _ _ h (mR_i hR (by omega)) (by omega) (by omega) (fun x hx => ?_)
    rw [en1, List.take_succ_eq_append_getElem hlen, kCt_a, ← eL]
    by_cases q : x = (ω.1 103 i.toInt.toNat).toInt.toNat
    · rw [q, xpi_at, ev, eo, if_pos (by omega)]
    · rw [xpi_ne (fun z => q (by omega)), hC x hx, if_neg (by omega)]; omega
set_option maxRecDepth 10000 in
set_option maxHeartbeats 4000000 in
theorem rk_h32 {B : Nat} {k t : Int32} {β μ' : xM} {r : Option zV} {Q : Prop} (hk : k.toInt = (B : Int)) (hB : B ≤ 72) (hN : (β.1 75 53).toInt = (mLs β).length) (hN8 : (mLs β).length ≤ 8) (hL7 : ∀ x, x ∈ mLs β → 0 ≤ x ∧ x ≤ 7) (K : ∀ (n : Nat) (ω : xM), eT xq_224 n 86 [some (.inr (.inl (some 75))), some (.inl k), some (.inl t), some (.inl (ω.1 75 53))] [] ω r μ' → mR B β ω → (∀ x : Nat, x < 8 → (ω.1 85 (B + x)).toInt = kCt (mLs β) x) → Q) : ∀ (n : Nat) (i : Int32) (ω : xM), eT xq_224 n 32 [some (.inr (.inl (some 75))), some (.inl k), some (.inl t), some (.inl i)] [] ω r μ' → mR B β ω → 0 ≤ i.toInt → (∀ x : Nat, (x : Int) < i.toInt → ω.1 85 (B + x) = 0) → Q := by
  intro n
  induction n using Nat.strongRecOn with
  | ind n ih =>
  intro i ω h hR hi0 hZ
  replace h := tx_iload_n (p' := 33) h em224_32 rfl rfl
  replace h := tx_bipush (v := 8) (p' := 35) h em224_33 (by decide +kernel) rfl
  rcases tx_icmp (t := 53) (p' := 38) h em224_35 (by decide) rfl with ⟨c35, h⟩ | ⟨c35, h⟩
  · replace c35 : 8 ≤ i.toInt := c35
    replace h := tx_iconst (v := 0) (p' := 54) h em224_53 (by decide +kernel) rfl
    replace h := tx_istore_n (p' := 55) h em224_54 rfl
    replace h : eT xq_224 _ 55 [some (.inr (.inl (some 75))), some (.inl k), some (.inl t), some (.inl (0 : Int32))] [] ω r μ' := h
    have e8 : (8 : Int32).toInt = 8 := by decide
    refine rk_h55 hk hB hN hN8 hL7 K _ _ _ h hR (by decide) (by show (0 : Int) ≤ _; omega) (fun x hx => ?_)
    rw [hZ x (by omega)]
    rfl
  · replace c35 : ¬ 8 ≤ i.toInt := c35
    replace h := tx_aload_n (p' := 39) h em224_38 rfl rfl
    replace h := tx_getc (c := 12) (j := 35) (p' := 42) h em224_39 ((congrFun xo_12 46).trans rfl) rfl rfl rfl
    replace h := tx_iload_n (p' := 43) h em224_42 rfl rfl
    replace h := tx_iload_n (p' := 44) h em224_43 rfl rfl
    replace h := tx_iadd (p' := 45) h em224_44 rfl
    replace h := tx_iconst (v := 0) (p' := 46) h em224_45 (by decide +kernel) rfl
    obtain ⟨hb46, h⟩ := tx_iast (len := 80) (p' := 47) h em224_46 rfl rfl
    replace hb46 : (0 : Int) ≤ (k + i).toInt ∧ (k + i).toInt < 80 := hb46
    replace h := tx_iinc (v := 1) (p' := 50) h em224_47 (by decide +kernel) rfl rfl
    replace h : eT xq_224 _ 50 [some (.inr (.inl (some 75))), some (.inl k), some (.inl t), some (.inl (i + 1))] [] (xpi ω 85 (k + i).toInt.toNat (0 : Int32)) r μ' := h
    obtain ⟨n2, hn2, h⟩ := tx_gotoS (t := 32) h em224_50 (by decide)
    have e1i : (1 : Int32).toInt = 1 := by decide
    have ei : (i + 1).toInt = i.toInt + 1 := by rw [an_add (by rw [e1i]; omega) (by rw [e1i]; omega), e1i]
    have ek : (k + i).toInt = (B : Int) + i.toInt := by rw [an_add (by rw [hk]; omega) (by rw [hk]; omega), hk]
    have ekn : (k + i).toInt.toNat = B + i.toInt.toNat := by omega
    rw [ekn] at h
    refine ih n2 hn2 _ _ h (mR_i hR (by omega)) (by omega) (fun x hx => ?_)
    by_cases q : x = i.toInt.toNat
    · rw [q, xpi_at]
    · rw [xpi_ne (fun z => q (by omega))]
      exact hZ x (by omega)
def mHq (B : Nat) (l : List Int) (μ μ' : xM) : Prop := hOK μ' ∧ (∀ x : Nat, x < 8 → (μ'.1 85 (B + x)).toInt = kCt l x) ∧ (∀ j, (j < B ∨ B + 8 ≤ j) → μ'.1 85 j = μ.1 85 j) ∧ (rF μ' = 0 → (μ'.1 84 (μ.1 75 32).toInt.toNat).toInt = (μ.1 84 (μ.1 75 32).toInt.toNat).toInt + 1) ∧ (∀ j, ¬ j = (μ.1 75 32).toInt.toNat → μ'.1 84 j = μ.1 84 j) ∧ ∀ k j, 84 ≤ k → k ≤ 93 → k ≠ 85 → k ≠ 84 → μ'.1 k j = μ.1 k j
set_option maxRecDepth 10000 in
set_option maxHeartbeats 4000000 in
theorem rk_h86 {m : Int} {B : Nat} {k t i : Int32} {l : List Int} {β ω μ' : xM} {r : Option zV} (hiB : qzI m β) (hh : (β.1 84 (β.1 75 32).toInt.toNat).toInt ≤ 5) (hh0 : 0 ≤ (β.1 84 (β.1 75 32).toInt.toNat).toInt) (hR : mR B β ω) (hC : ∀ x : Nat, x < 8 → (ω.1 85 (B + x)).toInt = kCt l x) {n : Nat} (h : eT xq_224 n 86 [some (.inr (.inl (some 75))), some (.inl k), some (.inl t), some (.inl i)] [] ω r μ') : mHq B l β μ' := by
  replace h := tx_aload_n (p' := 87) h em224_86 rfl rfl
  replace h := tx_iload_n (p' := 88) h em224_87 rfl rfl
  obtain ⟨r88, μ88, hE88, h⟩ := tx_invV (na := 2) (mn := 220) (as := [.inr (.inl (some 75)), .inl t]) (rest := []) (p' := 91) h em224_88 ((congrFun xo_12 298).trans rfl) xm_220 rfl rfl
  have hm9 := mE_w (μ := ω) (by decide +kernel) (hf_220_0 hE88 (hEn0 (by decide)) hR.2.1).2 hR.2.1
  obtain ⟨rfl, ν88, he, hend⟩ := qz_ends hE88 (qzU_I hR.1 hiB)
  rcases hend with ⟨hf9, hx9⟩ | ⟨hf9, hx9⟩
  · replace h : eT xq_224 _ 91 [some (.inr (.inl (some 75))), some (.inl k), some (.inl t), some (.inl i)] [] μ88 r μ' := h
    replace h := tx_aload_n (p' := 92) h em224_91 rfl rfl
    replace h := tx_getf (c := 12) (j := 27) (p' := 95) h em224_92 ((congrFun xo_12 200).trans rfl) rfl rfl (by decide) rfl
    rcases tx_if (t := 111) (p' := 98) h em224_95 (by decide) rfl with ⟨c95, h⟩ | ⟨c95, h⟩
    · replace c95 : ¬ (μ88.1 75 27).toInt = 0 := c95
      obtain ⟨rfl, hμ⟩ := tx_return h em224_111
      rw [hμ]
      refine ⟨hm9.1, fun x hx => ?_, fun j hj => ?_, fun hz => ?_, fun j hj => ?_, fun k j a b c d => ?_⟩
      · rw [hm9.2 85 _ (by decide) (by decide)]
        exact hC x hx
      · rw [hm9.2 85 _ (by decide) (by decide)]
        exact hR.2.2.2.2 j hj
      · exfalso; rw [hx9] at hz; omega
      · rw [hm9.2 84 _ (by decide) (by decide)]
        exact hR.2.2.1 84 j (by decide)
      · rw [hm9.2 k j a b]
        exact hR.2.2.1 k j c
    · replace c95 : ¬ ¬ (μ88.1 75 27).toInt = 0 := c95
      replace h := tx_aload_n (p' := 99) h em224_98 rfl rfl
      replace h := tx_getc (c := 12) (j := 3) (p' := 102) h em224_99 ((congrFun xo_12 43).trans rfl) rfl rfl rfl
      replace h := tx_aload_n (p' := 103) h em224_102 rfl rfl
      replace h := tx_getf (c := 12) (j := 32) (p' := 106) h em224_103 ((congrFun xo_12 233).trans rfl) rfl rfl (by decide) rfl
      replace h := tx_dup2 (p' := 107) h em224_106 rfl
      obtain ⟨hb107, h⟩ := tx_iald (len := 2) (p' := 108) h em224_107 rfl rfl
      replace hb107 : (0 : Int) ≤ (μ88.1 75 32).toInt ∧ (μ88.1 75 32).toInt < 2 := hb107
      replace h := tx_iconst (v := 1) (p' := 109) h em224_108 (by decide +kernel) rfl
      replace h := tx_iadd (p' := 110) h em224_109 rfl
      obtain ⟨hb110, h⟩ := tx_iast (len := 2) (p' := 111) h em224_110 rfl rfl
      replace hb110 : (0 : Int) ≤ (μ88.1 75 32).toInt ∧ (μ88.1 75 32).toInt < 2 := hb110
      obtain ⟨rfl, hμ⟩ := tx_return h em224_111
      exfalso
      have hz9 : 0 < (μ88.1 75 27).toInt := by
        rw [hx9]
        exact hf9
      omega
  · replace h : eT xq_224 _ 91 [some (.inr (.inl (some 75))), some (.inl k), some (.inl t), some (.inl i)] [] μ88 r μ' := h
    replace h := tx_aload_n (p' := 92) h em224_91 rfl rfl
    replace h := tx_getf (c := 12) (j := 27) (p' := 95) h em224_92 ((congrFun xo_12 200).trans rfl) rfl rfl (by decide) rfl
    rcases tx_if (t := 111) (p' := 98) h em224_95 (by decide) rfl with ⟨c95_1, h⟩ | ⟨c95_1, h⟩
    · replace c95_1 : ¬ (μ88.1 75 27).toInt = 0 := c95_1
      obtain ⟨rfl, hμ⟩ := tx_return h em224_111
      exfalso
      have hz9 : (μ88.1 75 27).toInt = 0 := by
        rw [hx9, xpi_ne (fun q => absurd q.2 (by decide))]
        exact hf9
      omega
    · replace c95_1 : ¬ ¬ (μ88.1 75 27).toInt = 0 := c95_1
      replace h := tx_aload_n (p' := 99) h em224_98 rfl rfl
      replace h := tx_getc (c := 12) (j := 3) (p' := 102) h em224_99 ((congrFun xo_12 43).trans rfl) rfl rfl rfl
      replace h := tx_aload_n (p' := 103) h em224_102 rfl rfl
      replace h := tx_getf (c := 12) (j := 32) (p' := 106) h em224_103 ((congrFun xo_12 233).trans rfl) rfl rfl (by decide) rfl
      replace h := tx_dup2 (p' := 107) h em224_106 rfl
      obtain ⟨hb107_1, h⟩ := tx_iald (len := 2) (p' := 108) h em224_107 rfl rfl
      replace hb107_1 : (0 : Int) ≤ (μ88.1 75 32).toInt ∧ (μ88.1 75 32).toInt < 2 := hb107_1
      replace h := tx_iconst (v := 1) (p' := 109) h em224_108 (by decide +kernel) rfl
      replace h := tx_iadd (p' := 110) h em224_109 rfl
      obtain ⟨hb110_1, h⟩ := tx_iast (len := 2) (p' := 111) h em224_110 rfl rfl
      replace hb110_1 : (0 : Int) ≤ (μ88.1 75 32).toInt ∧ (μ88.1 75 32).toInt < 2 := hb110_1
      obtain ⟨rfl, hμ⟩ := tx_return h em224_111
      have e32 : μ88.1 75 32 = β.1 75 32 := by
        rw [hx9, xpi_ne (fun q => absurd q.2 (by decide))]
        exact (he.1.2.1 32 (by decide) (by decide) (by decide) (by decide) (by decide)).trans (hR.2.2.1 75 32 (by decide))
      have e84 : ∀ j, μ88.1 84 j = β.1 84 j := fun j => (hm9.2 84 j (by decide) (by decide)).trans (hR.2.2.1 84 j (by decide))
      have e1i : (1 : Int32).toInt = 1 := by decide
      have ev : (μ88.1 84 (μ88.1 75 32).toInt.toNat + 1).toInt = (β.1 84 (β.1 75 32).toInt.toNat).toInt + 1 := by
        rw [e32, e84, an_add (by rw [e1i]; omega) (by rw [e1i]; omega), e1i]
      rw [hμ]
      refine ⟨hm9.1, fun x hx => ?_, fun j hj => ?_, fun _ => ?_, fun j hj => ?_, fun k j a b c d => ?_⟩
      · rw [xpi_ne (fun q => absurd q.1 (by decide)), hm9.2 85 _ (by decide) (by decide)]
        exact hC x hx
      · rw [xpi_ne (fun q => absurd q.1 (by decide)), hm9.2 85 _ (by decide) (by decide)]
        exact hR.2.2.2.2 j hj
      · rw [e32, xpi_at]; rw [e32] at ev; exact ev
      · rw [xpi_ne (fun q => hj (by rw [q.2, e32])), e84]
      · rw [xpi_ne (fun q => d q.1), hm9.2 k j a b]
        exact hR.2.2.1 k j c
/-- back from the end of a telling to behind its letters -/
theorem rk_back {m : Int} {d : Nat} {t : Int} {F : pP} {N : Int → Int × Int → Int × Int} {μ β ν μ' : xM} (hI : qzI m β) (e2 : qzN m F N β ν) (e3 : (0 < rF ν ∧ μ' = ν) ∨ (rF ν = 0 ∧ μ' = qzEnd ν μ d t)) (hd : d = 84 ∨ d = 86) (hN : ∀ a w, (N a w).1 = 0 → w.1 = 0) (hfz : rF μ' = 0) (hwz : (rW μ').1 = 0) : rF β = 0 ∧ (rW β).1 = 0 := by
  rcases e3 with ⟨a1, rfl⟩ | ⟨a1, rfl⟩
  · omega
  · obtain ⟨b1, -, -, b4, -⟩ := qz_rf0 hI e2 a1
    have e : (rW (qzEnd ν μ d t)).1 = (rW ν).1 := by
      show ((qzEnd ν μ d t).1 75 29).toInt = (ν.1 75 29).toInt
      unfold qzEnd
      rw [xpi_ne (fun q => by omega), xpi_ne (fun q => absurd q.2 (by decide))]
      rfl
    rw [e, b4] at hwz
    exact ⟨b1, hN _ _ hwz⟩
set_option maxRecDepth 10000 in
set_option maxHeartbeats 4000000 in
theorem rk_32q {m : Int} {B : Nat} {k t : Int32} {μ ν β μ' : xM} {r : Option zV} (hI : qzI m μ) (hqn : qzN m (pAcc (rK μ) 2) (nM μ) μ ν) (hE9 : Ex gx xq_221 [.inr (.inl (some 75))] ν none β) (hqt : qzN m (pAcc (rK ν) 2) (nL ν) ν β) (hO : hOK β) (hk : k.toInt = (B : Int)) (hB : B ≤ 72) (hh : (β.1 84 (β.1 75 32).toInt.toNat).toInt ≤ 5) (hh0 : 0 ≤ (β.1 84 (β.1 75 32).toInt.toNat).toInt) (e32 : β.1 75 32 = μ.1 75 32) (hmm : ∀ k j, 84 ≤ k → k ≤ 93 → β.1 k j = μ.1 k j) {n : Nat} (h : eT xq_224 n 32 [some (.inr (.inl (some 75))), some (.inl k), some (.inl t), some (.inl 0)] [] β r μ') (hβ : rF μ' = 0 → (rW μ').1 = 0 → rF β = 0 ∧ (rW β).1 = 0) : ∃ l, mHq B l μ μ' ∧ (rF μ' = 0 → (rW μ').1 = 0 → l = rLt μ (rT μ + 1)) := by
  obtain ⟨g2, g3, g4, g1⟩ := rk_takes hE9 hqn.2.2.2
  have hq := rk_h32 (t := t) hk hB g3 g2 g4 (Q := mHq B (mLs β) β μ') (fun n ω h hR hC => rk_h86 hqt.2.2.2 hh hh0 hR hC h) n 0 β h ⟨qzU_rf, hO, fun _ _ _ => rfl, rfl, fun _ _ => rfl⟩ (by decide) (fun x hx => j0y hx)
  obtain ⟨q1, q2, q3, q4, q5, q6⟩ := hq
  rw [e32] at q4 q5
  refine ⟨mLs β, ⟨q1, q2, fun j hj => (q3 j hj).trans (hmm 85 j (by decide) (by decide)), fun z => by rw [q4 z, hmm 84 _ (by decide) (by decide)], fun j hj => (q5 j hj).trans (hmm 84 j (by decide) (by decide)), fun k j a b c d => (q6 k j a b c d).trans (hmm k j a b)⟩, fun z1 z2 => ?_⟩
  obtain ⟨b1, b2⟩ := hβ z1 z2
  rw [g1 b1 b2]
  have hf1 := qz_rf0 hqn.2.2.2 hqt b1
  have hK := qz_K hI hqn hf1.1
  rw [hK.2, qzS_rLt hqn.1]
set_option maxRecDepth 10000 in
set_option maxHeartbeats 4000000 in
theorem rk_house {m : Int} {μ μ' : xM} {r : Option zV} (h0 : Ex gx xq_224 [.inr (.inl (some 75))] μ r μ') (hI : qzI m μ) (hO : hOK μ) (hsd : 0 ≤ rSd μ ∧ rSd μ ≤ 1) (hH4 : 0 ≤ rH μ ∧ rH μ ≤ 4) : ∃ l, mHq (40 * (rSd μ).toNat + 8 * (rH μ).toNat) l μ μ' ∧ (rF μ' = 0 → (rW μ').1 = 0 → l = rLt μ (rT μ + 1)) := by
  obtain ⟨n, h⟩ := tx_in (L := [some (.inr (.inl (some 75))), none, none, none]) h0 rfl
  replace h := tx_bipush (v := 40) (p' := 2) h em224_0 (by decide +kernel) rfl
  replace h := tx_aload_n (p' := 3) h em224_2 rfl rfl
  replace h := tx_getf (c := 12) (j := 32) (p' := 6) h em224_3 ((congrFun xo_12 233).trans rfl) rfl rfl (by decide) rfl
  replace h := tx_imul (p' := 7) h em224_6 rfl
  replace h := tx_bipush (v := 8) (p' := 9) h em224_7 (by decide +kernel) rfl
  replace h := tx_aload_n (p' := 10) h em224_9 rfl rfl
  replace h := tx_getc (c := 12) (j := 3) (p' := 13) h em224_10 ((congrFun xo_12 43).trans rfl) rfl rfl rfl
  replace h := tx_aload_n (p' := 14) h em224_13 rfl rfl
  replace h := tx_getf (c := 12) (j := 32) (p' := 17) h em224_14 ((congrFun xo_12 233).trans rfl) rfl rfl (by decide) rfl
  obtain ⟨hb17, h⟩ := tx_iald (len := 2) (p' := 18) h em224_17 rfl rfl
  replace hb17 : (0 : Int) ≤ (μ.1 75 32).toInt ∧ (μ.1 75 32).toInt < 2 := hb17
  replace h := tx_imul (p' := 19) h em224_18 rfl
  replace h := tx_iadd (p' := 20) h em224_19 rfl
  replace h := tx_istore_n (p' := 21) h em224_20 rfl
  replace h : eT xq_224 _ 21 [some (.inr (.inl (some 75))), some (.inl (((40 : Int32) * (μ.1 75 32)) + ((8 : Int32) * (μ.1 84 (μ.1 75 32).toInt.toNat)))), none, none] [] μ r μ' := h
  replace h := tx_aload_n (p' := 22) h em224_21 rfl rfl
  obtain ⟨r22, μ22, hE22, h⟩ := tx_invV (na := 1) (mn := 170) (as := [.inr (.inl (some 75))]) (rest := []) (p' := 25) h em224_22 ((congrFun xo_12 291).trans rfl) xm_170 rfl rfl
  have hm22 := mE_w (μ := μ) (by decide +kernel) (hf_170_0 hE22 (hEn0 (by decide)) hO).2 hO
  obtain ⟨rfl, hqn⟩ := qz_named hE22 hI
  replace h : eT xq_224 _ 25 [some (.inr (.inl (some 75))), some (.inl (((40 : Int32) * (μ.1 75 32)) + ((8 : Int32) * (μ.1 84 (μ.1 75 32).toInt.toNat)))), none, none] [.inl (μ.1 75 25)] μ22 r μ' := h
  replace h := tx_istore_n (p' := 26) h em224_25 rfl
  replace h : eT xq_224 _ 26 [some (.inr (.inl (some 75))), some (.inl (((40 : Int32) * (μ.1 75 32)) + ((8 : Int32) * (μ.1 84 (μ.1 75 32).toInt.toNat)))), some (.inl (μ.1 75 25)), none] [] μ22 r μ' := h
  replace h := tx_aload_n (p' := 27) h em224_26 rfl rfl
  obtain ⟨r27, μ27, hE27, h⟩ := tx_invV (na := 1) (mn := 221) (as := [.inr (.inl (some 75))]) (rest := []) (p' := 30) h em224_27 ((congrFun xo_12 295).trans rfl) xm_221 rfl rfl
  have hm27 := mE_w (μ := μ22) (by decide +kernel) (hf_221_0 hE27 (hEn0 (by decide)) hm22.1).2 hm22.1
  have hE9 := hE27
  obtain ⟨rfl, hqt⟩ := qz_takes hE27 hqn.2.2.2
  replace h : eT xq_224 _ 30 [some (.inr (.inl (some 75))), some (.inl (((40 : Int32) * (μ.1 75 32)) + ((8 : Int32) * (μ.1 84 (μ.1 75 32).toInt.toNat)))), some (.inl (μ.1 75 25)), none] [] μ27 r μ' := h
  replace h := tx_iconst (v := 0) (p' := 31) h em224_30 (by decide +kernel) rfl
  replace h := tx_istore_n (p' := 32) h em224_31 rfl
  replace h : eT xq_224 _ 32 [some (.inr (.inl (some 75))), some (.inl (((40 : Int32) * (μ.1 75 32)) + ((8 : Int32) * (μ.1 84 (μ.1 75 32).toInt.toNat)))), some (.inl (μ.1 75 25)), some (.inl (0 : Int32))] [] μ27 r μ' := h
  have hmm := mE_tr hm22 hm27
  have e32 : μ27.1 75 32 = μ.1 75 32 := (hqt.1.2.1 32 (by decide) (by decide) (by decide) (by decide) (by decide)).trans (hqn.1.2.1 32 (by decide) (by decide) (by decide) (by decide) (by decide))
  have eH : μ27.1 84 (μ27.1 75 32).toInt.toNat = μ.1 84 (μ.1 75 32).toInt.toNat := by rw [e32]; exact hmm.2 84 _ (by decide) (by decide)
  have e40 : (40 : Int32).toInt = 40 := by decide
  have e8 : (8 : Int32).toInt = 8 := by decide
  have hs := hsd
  have hh := hH4
  unfold rSd at hs
  unfold rH rSd at hh
  have k1 : ((40 : Int32) * (μ.1 75 32)).toInt = 40 * (μ.1 75 32).toInt := by rw [an_mul (by rw [e40]; omega) (by rw [e40]; omega), e40]
  have k2 : ((8 : Int32) * (μ.1 84 (μ.1 75 32).toInt.toNat)).toInt = 8 * (μ.1 84 (μ.1 75 32).toInt.toNat).toInt := by rw [an_mul (by rw [e8]; omega) (by rw [e8]; omega), e8]
  have k3 : ((40 : Int32) * (μ.1 75 32) + (8 : Int32) * (μ.1 84 (μ.1 75 32).toInt.toNat)).toInt = ((40 * (rSd μ).toNat + 8 * (rH μ).toNat : Nat) : Int) := by
    unfold rH rSd
    rw [an_add (by rw [k1, k2]; omega) (by rw [k1, k2]; omega), k1, k2]; omega
  obtain ⟨-, ν9, e2, e3⟩ := house_32 hqt.2.2.2 (qzS_tr hqn.1 hqt.1) _ _ _ _ h qzU_rf
  have hβ := rk_back hqt.2.2.2 e2 e3 (Or.inl rfl) (fun _ _ q => q)
  exact rk_32q hI hqn hE9 hqt hmm.1 k3 (by unfold rH rSd; omega) (by rw [eH]; omega) (by rw [eH]; omega) e32 (fun k j c d => hmm.2 k j c d) h hβ
set_option maxRecDepth 10000 in
set_option maxHeartbeats 4000000 in
theorem rk_bounded {lo hi : Int32} {m : Int} {μ μ' : xM} {r : Option zV} (h0 : Ex gx xq_124 [.inr (.inl (some 75)), .inl lo, .inl hi] μ r μ') (hI : qzI m μ) (hfz : rF μ' = 0) : ∃ v : Int32, r = some (.inl v) ∧ v.toInt = rVl μ (rT μ) := by
  obtain ⟨n, h⟩ := tx_in (L := [some (.inr (.inl (some 75))), some (.inl lo), some (.inl hi), none]) h0 rfl
  replace h := tx_aload_n (p' := 1) h em124_0 rfl rfl
  replace h := tx_getf (c := 12) (j := 27) (p' := 4) h em124_1 ((congrFun xo_12 200).trans rfl) rfl rfl (by decide) rfl
  rcases tx_if (t := 15) (p' := 7) h em124_4 (by decide) rfl with ⟨c4, h⟩ | ⟨c4, h⟩
  · replace c4 : 0 < (μ.1 75 27).toInt := c4
    replace h := tx_aload_n (p' := 16) h em124_15 rfl rfl
    replace h := tx_iconst (v := 1) (p' := 17) h em124_16 (by decide +kernel) rfl
    obtain ⟨r17, μ17, hE17, h⟩ := tx_invV (na := 2) (mn := 133) (as := [.inr (.inl (some 75)), .inl (1 : Int32)]) (rest := []) (p' := 20) h em124_17 ((congrFun xo_12 215).trans rfl) xm_133 rfl rfl
    obtain ⟨rfl, hs9⟩ := qz_fl (f0 := 1) hE17 hI (by decide) (by decide)
    replace h : eT xq_124 _ 20 [some (.inr (.inl (some 75))), some (.inl lo), some (.inl hi), none] [] μ17 r μ' := h
    replace h := tx_iload_n (p' := 21) h em124_20 rfl rfl
    obtain ⟨rfl, hμ⟩ := tx_ireturn h em124_21
    exfalso
    rw [hμ] at hfz
    have hz := qz_rf0 hI hs9 hfz
    exact absurd (show (1 : Int) = 0 from hz.2.1) (by decide)
  · replace c4 : ¬ 0 < (μ.1 75 27).toInt := c4
    replace h := tx_aload_n (p' := 8) h em124_7 rfl rfl
    replace h := tx_iconst (v := 2) (p' := 9) h em124_8 (by decide +kernel) rfl
    obtain ⟨r9, μ9, hE9, h⟩ := tx_invV (na := 2) (mn := 149) (as := [.inr (.inl (some 75)), .inl (2 : Int32)]) (rest := []) (p' := 12) h em124_9 ((congrFun xo_12 218).trans rfl) xm_149 rfl rfl
    obtain ⟨hm, ⟨rfl, i91, i92, i93⟩ | ⟨rfl, i91⟩⟩ := ex_is hE9 (by decide)
    · rw [hm] at h
      replace h : eT xq_124 _ 12 [some (.inr (.inl (some 75))), some (.inl lo), some (.inl hi), none] [.inl (1 : Int32)] μ r μ' := h
      rcases tx_if (t := 22) (p' := 15) h em124_12 (by decide) rfl with ⟨c12, h⟩ | ⟨c12, h⟩
      · replace c12 : ¬ (1 : Int) = (0 : Int) := c12
        replace h := tx_aload_n (p' := 23) h em124_22 rfl rfl
        replace h := tx_getc (c := 12) (j := 21) (p' := 26) h em124_23 ((congrFun xo_12 27).trans rfl) rfl rfl rfl
        replace h := tx_aload_n (p' := 27) h em124_26 rfl rfl
        replace h := tx_getf (c := 12) (j := 25) (p' := 30) h em124_27 ((congrFun xo_12 203).trans rfl) rfl rfl (by decide) rfl
        obtain ⟨hb30, h⟩ := tx_iald (len := 403) (p' := 31) h em124_30 rfl rfl
        replace hb30 : (0 : Int) ≤ (μ.1 75 25).toInt ∧ (μ.1 75 25).toInt < 403 := hb30
        replace h := tx_istore_n (p' := 32) h em124_31 rfl
        replace h : eT xq_124 _ 32 [some (.inr (.inl (some 75))), some (.inl lo), some (.inl hi), some (.inl (μ.1 80 (μ.1 75 25).toInt.toNat))] [] μ r μ' := h
        replace h := tx_iload_n (p' := 33) h em124_32 rfl rfl
        replace h := tx_iload_n (p' := 34) h em124_33 rfl rfl
        rcases tx_icmp (t := 42) (p' := 37) h em124_34 (by decide) rfl with ⟨c34, h⟩ | ⟨c34, h⟩
        · replace c34 : (μ.1 80 (μ.1 75 25).toInt.toNat).toInt < lo.toInt := c34
          replace h := tx_aload_n (p' := 43) h em124_42 rfl rfl
          replace h := tx_iconst (v := 5) (p' := 44) h em124_43 (by decide +kernel) rfl
          replace h := tx_aload_n (p' := 45) h em124_44 rfl rfl
          replace h := tx_getf (c := 12) (j := 25) (p' := 48) h em124_45 ((congrFun xo_12 203).trans rfl) rfl rfl (by decide) rfl
          obtain ⟨r48, μ48, hE48, h⟩ := tx_invV (na := 3) (mn := 204) (as := [.inr (.inl (some 75)), .inl (5 : Int32), .inl (μ.1 75 25)]) (rest := []) (p' := 51) h em124_48 ((congrFun xo_12 277).trans rfl) xm_204 rfl rfl
          have er48 := ex_void [0, 1, 4, 5, 6, 7, 8, 11, 14, 15, 18, 21, 22, 23, 26, 29, 30, 31, 34, 37, 38, 39, 42, 45, 46, 47, 48, 51, 52, 53, 56, 57] (by decide +kernel) hE48
          subst er48
          replace h : eT xq_124 _ 51 [some (.inr (.inl (some 75))), some (.inl lo), some (.inl hi), some (.inl (μ.1 80 (μ.1 75 25).toInt.toNat))] [] μ48 r μ' := h
          replace h := tx_aload_n (p' := 52) h em124_51 rfl rfl
          obtain ⟨r52, μ52, hE52, h⟩ := tx_invV (na := 1) (mn := 144) (as := [.inr (.inl (some 75))]) (rest := []) (p' := 55) h em124_52 ((congrFun xo_12 221).trans rfl) xm_144 rfl rfl
          have er52 := ex_void [0, 1, 4, 7, 10, 11, 12, 15, 18, 19, 20, 23, 24, 25, 28, 29] (by decide +kernel) hE52
          subst er52
          replace h : eT xq_124 _ 55 [some (.inr (.inl (some 75))), some (.inl lo), some (.inl hi), some (.inl (μ.1 80 (μ.1 75 25).toInt.toNat))] [] μ52 r μ' := h
          replace h := tx_iload_n (p' := 56) h em124_55 rfl rfl
          obtain ⟨rfl, hμ⟩ := tx_ireturn h em124_56
          exact ⟨_, rfl, rfl⟩
        · replace c34 : ¬ (μ.1 80 (μ.1 75 25).toInt.toNat).toInt < lo.toInt := c34
          replace h := tx_iload_n (p' := 38) h em124_37 rfl rfl
          replace h := tx_iload_n (p' := 39) h em124_38 rfl rfl
          rcases tx_icmp (t := 51) (p' := 42) h em124_39 (by decide) rfl with ⟨c39, h⟩ | ⟨c39, h⟩
          · replace c39 : (μ.1 80 (μ.1 75 25).toInt.toNat).toInt ≤ hi.toInt := c39
            replace h := tx_aload_n (p' := 52) h em124_51 rfl rfl
            obtain ⟨r52_1, μ52_1, hE52_1, h⟩ := tx_invV (na := 1) (mn := 144) (as := [.inr (.inl (some 75))]) (rest := []) (p' := 55) h em124_52 ((congrFun xo_12 221).trans rfl) xm_144 rfl rfl
            have er52_1 := ex_void [0, 1, 4, 7, 10, 11, 12, 15, 18, 19, 20, 23, 24, 25, 28, 29] (by decide +kernel) hE52_1
            subst er52_1
            replace h : eT xq_124 _ 55 [some (.inr (.inl (some 75))), some (.inl lo), some (.inl hi), some (.inl (μ.1 80 (μ.1 75 25).toInt.toNat))] [] μ52_1 r μ' := h
            replace h := tx_iload_n (p' := 56) h em124_55 rfl rfl
            obtain ⟨rfl, hμ⟩ := tx_ireturn h em124_56
            exact ⟨_, rfl, rfl⟩
          · replace c39 : ¬ (μ.1 80 (μ.1 75 25).toInt.toNat).toInt ≤ hi.toInt := c39
            replace h := tx_aload_n (p' := 43) h em124_42 rfl rfl
            replace h := tx_iconst (v := 5) (p' := 44) h em124_43 (by decide +kernel) rfl
            replace h := tx_aload_n (p' := 45) h em124_44 rfl rfl
            replace h := tx_getf (c := 12) (j := 25) (p' := 48) h em124_45 ((congrFun xo_12 203).trans rfl) rfl rfl (by decide) rfl
            obtain ⟨r48_1, μ48_1, hE48_1, h⟩ := tx_invV (na := 3) (mn := 204) (as := [.inr (.inl (some 75)), .inl (5 : Int32), .inl (μ.1 75 25)]) (rest := []) (p' := 51) h em124_48 ((congrFun xo_12 277).trans rfl) xm_204 rfl rfl
            have er48_1 := ex_void [0, 1, 4, 5, 6, 7, 8, 11, 14, 15, 18, 21, 22, 23, 26, 29, 30, 31, 34, 37, 38, 39, 42, 45, 46, 47, 48, 51, 52, 53, 56, 57] (by decide +kernel) hE48_1
            subst er48_1
            replace h : eT xq_124 _ 51 [some (.inr (.inl (some 75))), some (.inl lo), some (.inl hi), some (.inl (μ.1 80 (μ.1 75 25).toInt.toNat))] [] μ48_1 r μ' := h
            replace h := tx_aload_n (p' := 52) h em124_51 rfl rfl
            obtain ⟨r52_2, μ52_2, hE52_2, h⟩ := tx_invV (na := 1) (mn := 144) (as := [.inr (.inl (some 75))]) (rest := []) (p' := 55) h em124_52 ((congrFun xo_12 221).trans rfl) xm_144 rfl rfl
            have er52_2 := ex_void [0, 1, 4, 7, 10, 11, 12, 15, 18, 19, 20, 23, 24, 25, 28, 29] (by decide +kernel) hE52_2
            subst er52_2
            replace h : eT xq_124 _ 55 [some (.inr (.inl (some 75))), some (.inl lo), some (.inl hi), some (.inl (μ.1 80 (μ.1 75 25).toInt.toNat))] [] μ52_2 r μ' := h
            replace h := tx_iload_n (p' := 56) h em124_55 rfl rfl
            obtain ⟨rfl, hμ⟩ := tx_ireturn h em124_56
            exact ⟨_, rfl, rfl⟩
      · replace c12 : ¬ ¬ (1 : Int) = (0 : Int) := c12
        exfalso
        omega
    · rw [hm] at h
      replace h : eT xq_124 _ 12 [some (.inr (.inl (some 75))), some (.inl lo), some (.inl hi), none] [.inl (0 : Int32)] μ r μ' := h
      rcases tx_if (t := 22) (p' := 15) h em124_12 (by decide) rfl with ⟨c12_1, h⟩ | ⟨c12_1, h⟩
      · replace c12_1 : ¬ (0 : Int) = (0 : Int) := c12_1
        exfalso
        omega
      · replace c12_1 : ¬ ¬ (0 : Int) = (0 : Int) := c12_1
        replace h := tx_aload_n (p' := 16) h em124_15 rfl rfl
        replace h := tx_iconst (v := 1) (p' := 17) h em124_16 (by decide +kernel) rfl
        obtain ⟨r17_1, μ17_1, hE17_1, h⟩ := tx_invV (na := 2) (mn := 133) (as := [.inr (.inl (some 75)), .inl (1 : Int32)]) (rest := []) (p' := 20) h em124_17 ((congrFun xo_12 215).trans rfl) xm_133 rfl rfl
        obtain ⟨rfl, hs9⟩ := qz_fl (f0 := 1) hE17_1 hI (by decide) (by decide)
        replace h : eT xq_124 _ 20 [some (.inr (.inl (some 75))), some (.inl lo), some (.inl hi), none] [] μ17_1 r μ' := h
        replace h := tx_iload_n (p' := 21) h em124_20 rfl rfl
        obtain ⟨rfl, hμ⟩ := tx_ireturn h em124_21
        exfalso
        rw [hμ] at hfz
        have hz := qz_rf0 hI hs9 hfz
        exact absurd (show (1 : Int) = 0 from hz.2.1) (by decide)
theorem rk_toldInt {lo hi : Int32} {m : Int} {μ μ' : xM} {r : Option zV} (h0 : Ex gx xq_192 [.inr (.inl (some 75)), .inl lo, .inl hi] μ r μ') (hI : qzI m μ) (hk : rF μ = 0 → ¬ rK μ (rT μ) = 0) (hfz : rF μ' = 0) : ∃ v : Int32, r = some (.inl v) ∧ v.toInt = rVl μ (rT μ + 1) := by
  obtain ⟨n, h⟩ := tx_in (L := [some (.inr (.inl (some 75))), some (.inl lo), some (.inl hi), none]) h0 rfl
  replace h := tx_aload_n (p' := 1) h em192_0 rfl rfl
  obtain ⟨r1, μ1, hE1, h⟩ := tx_invV (na := 1) (mn := 144) (as := [.inr (.inl (some 75))]) (rest := []) (p' := 4) h em192_1 ((congrFun xo_12 221).trans rfl) xm_144 rfl rfl
  obtain ⟨rfl, hq1⟩ := qz_on hE1 hI hk
  replace h : eT xq_192 _ 4 [some (.inr (.inl (some 75))), some (.inl lo), some (.inl hi), none] [] μ1 r μ' := h
  replace h := tx_aload_n (p' := 5) h em192_4 rfl rfl
  replace h := tx_iload_n (p' := 6) h em192_5 rfl rfl
  replace h := tx_iload_n (p' := 7) h em192_6 rfl rfl
  obtain ⟨r7, μ7, hE7, h⟩ := tx_invV (na := 3) (mn := 124) (as := [.inr (.inl (some 75)), .inl lo, .inl hi]) (rest := []) (p' := 10) h em192_7 ((congrFun xo_12 254).trans rfl) xm_124 rfl rfl
  obtain ⟨v, rfl, hq7⟩ := qz_bounded hE7 hq1.2.2.2
  have hE7 := hE7
  replace h : eT xq_192 _ 10 [some (.inr (.inl (some 75))), some (.inl lo), some (.inl hi), none] [.inl v] μ7 r μ' := h
  replace h := tx_istore_n (p' := 11) h em192_10 rfl
  replace h : eT xq_192 _ 11 [some (.inr (.inl (some 75))), some (.inl lo), some (.inl hi), some (.inl v)] [] μ7 r μ' := h
  replace h := tx_aload_n (p' := 12) h em192_11 rfl rfl
  replace h := tx_iconst (v := 4) (p' := 13) h em192_12 (by decide +kernel) rfl
  obtain ⟨r13, μ13, hE13, h⟩ := tx_invV (na := 2) (mn := 169) (as := [.inr (.inl (some 75)), .inl (4 : Int32)]) (rest := []) (p' := 16) h em192_13 ((congrFun xo_12 258).trans rfl) xm_169 rfl rfl
  obtain ⟨rfl, hq13⟩ := qz_must (k0 := 59) hE13 hq7.2.2.2 (by decide) (by decide)
  replace h : eT xq_192 _ 16 [some (.inr (.inl (some 75))), some (.inl lo), some (.inl hi), some (.inl v)] [] μ13 r μ' := h
  replace h := tx_iload_n (p' := 17) h em192_16 rfl rfl
  obtain ⟨rfl, hμ⟩ := tx_ireturn h em192_17
  rw [hμ] at hfz
  have z3 := qz_rf0 hq7.2.2.2 hq13 hfz
  have z2 := qz_rf0 hq1.2.2.2 hq7 z3.1
  have z1 := qz_rf0 hI hq1 z2.1
  obtain ⟨v9, e9, hv9⟩ := rk_bounded hE7 hq1.2.2.2 z3.1
  cases e9
  refine ⟨_, rfl, ?_⟩
  rw [hv9, qzS_V hq1.1, z1.2.2.1]
  by_cases q4 : rT μ = 400
  · exfalso
    have q5 := z1.2.1
    rw [pOn_n q4] at q5
    exact absurd (show (2 : Int) = 0 from q5) (by decide)
  · rw [pOn_y q4]
def mV (V : Nat) (μ ω : xM) : Prop := qzU μ ω ∧ hOK ω ∧ (∀ k j, k ≠ 87 → k ≠ 88 → ω.1 k j = μ.1 k j) ∧ ω.2 = μ.2 ∧ (∀ j, ¬ j = V → ω.1 87 j = μ.1 87 j) ∧ ω.1 87 V = μ.1 75 53 ∧ ∀ j, (j < 8 * V ∨ 8 * V + 8 ≤ j) → ω.1 88 j = μ.1 88 j
theorem mV_i {V j : Nat} {v : Int32} {μ ω : xM} (h : mV V μ ω) (hj : 8 * V ≤ j ∧ j < 8 * V + 8) : mV V μ (xpi ω 88 j v) := ⟨qzU_c h.1 (by decide), h.2.1, fun k i hk hk2 => (xpi_ne (fun q => hk2 q.1)).trans (h.2.2.1 k i hk hk2), h.2.2.2.1, fun i hi => (xpi_ne (fun q => absurd q.1 (by decide))).trans (h.2.2.2.2.1 i hi), (xpi_ne (fun q => absurd q.1 (by decide))).trans h.2.2.2.2.2.1, fun i hi => (xpi_ne (fun q => by omega)).trans (h.2.2.2.2.2.2 i hi)⟩
/-- what a verse's telling leaves: V its number -/
def mVq (V : Nat) (l : List Int) (v d : Int) (μ μ' : xM) : Prop := hOK μ' ∧ (rF μ' = 0 → (μ'.1 87 V).toInt = l.length ∧ (∀ i : Nat, i < l.length → (μ'.1 88 (8 * V + i)).toInt = l.getD i 0) ∧ (μ'.1 89 V).toInt = v ∧ (μ'.1 90 V).toInt = d) ∧ ((∀ j, ¬ j = V → μ'.1 87 j = μ.1 87 j ∧ μ'.1 89 j = μ.1 89 j ∧ μ'.1 90 j = μ.1 90 j) ∧ ∀ j, (j < 8 * V ∨ 8 * V + 8 ≤ j) → μ'.1 88 j = μ.1 88 j) ∧ (rF μ' = 0 → (μ'.1 86 (μ.1 75 32).toInt.toNat).toInt = (μ.1 86 (μ.1 75 32).toInt.toNat).toInt + 1) ∧ (∀ j, ¬ j = (μ.1 75 32).toInt.toNat → μ'.1 86 j = μ.1 86 j) ∧ ∀ k j, 84 ≤ k → k ≤ 93 → k ≠ 86 → k ≠ 87 → k ≠ 88 → k ≠ 89 → k ≠ 90 → μ'.1 k j = μ.1 k j
set_option maxRecDepth 10000 in
set_option maxHeartbeats 4000000 in
theorem rk_v70 {m : Int} {V : Nat} {k t i : Int32} {l : List Int} {β ω μ' : xM} {r : Option zV} (hiB : qzI m β) (hk : k.toInt = (V : Int)) (hh : (β.1 86 (β.1 75 32).toInt.toNat).toInt ≤ 7) (hh0 : 0 ≤ (β.1 86 (β.1 75 32).toInt.toNat).toInt) (hN : (β.1 75 53).toInt = l.length) (hR : mV V β ω) (hC : ∀ i : Nat, i < l.length → (ω.1 88 (8 * V + i)).toInt = l.getD i 0) {n : Nat} (h : eT xq_225 n 70 [some (.inr (.inl (some 75))), some (.inl k), some (.inl t), some (.inl i)] [] ω r μ') : mVq V l (rVl β (rT β)) (rVl β (rT β + 1)) β μ' := by
  replace h := tx_aload_n (p' := 71) h em225_70 rfl rfl
  replace h := tx_getc (c := 12) (j := 38) (p' := 74) h em225_71 ((congrFun xo_12 58).trans rfl) rfl rfl rfl
  replace h := tx_iload_n (p' := 75) h em225_74 rfl rfl
  replace h := tx_aload_n (p' := 76) h em225_75 rfl rfl
  replace h := tx_iconst (v := 0) (p' := 77) h em225_76 (by decide +kernel) rfl
  replace h := tx_bipush (v := 99) (p' := 79) h em225_77 (by decide +kernel) rfl
  obtain ⟨r79, μ79, hE79, h⟩ := tx_invV (na := 3) (mn := 124) (as := [.inr (.inl (some 75)), .inl (0 : Int32), .inl (99 : Int32)]) (rest := [.inl k, .inr (.inl (some 89))]) (p' := 82) h em225_79 ((congrFun xo_12 254).trans rfl) xm_124 rfl rfl
  have hma := mE_w (μ := ω) (by decide +kernel) (hf_124_0 hE79 (hEn0 (by decide)) hR.2.1).2 hR.2.1
  obtain ⟨va, rfl, hqa⟩ := qz_bounded hE79 (qzU_I hR.1 hiB)
  have hEa := hE79
  replace h : eT xq_225 _ 82 [some (.inr (.inl (some 75))), some (.inl k), some (.inl t), some (.inl i)] [.inl va, .inl k, .inr (.inl (some 89))] μ79 r μ' := h
  obtain ⟨hb82, h⟩ := tx_iast (len := 14) (p' := 83) h em225_82 rfl rfl
  replace hb82 : (0 : Int) ≤ k.toInt ∧ k.toInt < 14 := hb82
  replace h := tx_aload_n (p' := 84) h em225_83 rfl rfl
  replace h := tx_getc (c := 12) (j := 39) (p' := 87) h em225_84 ((congrFun xo_12 61).trans rfl) rfl rfl rfl
  replace h := tx_iload_n (p' := 88) h em225_87 rfl rfl
  replace h := tx_aload_n (p' := 89) h em225_88 rfl rfl
  replace h := tx_iconst (v := 0) (p' := 90) h em225_89 (by decide +kernel) rfl
  replace h := tx_bipush (v := 99) (p' := 92) h em225_90 (by decide +kernel) rfl
  obtain ⟨r92, μ92, hE92, h⟩ := tx_invV (na := 3) (mn := 124) (as := [.inr (.inl (some 75)), .inl (0 : Int32), .inl (99 : Int32)]) (rest := [.inl k, .inr (.inl (some 90))]) (p' := 95) h em225_92 ((congrFun xo_12 254).trans rfl) xm_124 rfl rfl
  have hmb := mE_w (μ := (xpi μ79 89 k.toInt.toNat va)) (by decide +kernel) (hf_124_0 hE92 (hEn0 (by decide)) hma.1).2 hma.1
  obtain ⟨vb, rfl, hqb⟩ := qz_bounded hE92 (qzU_I (show qzU μ79 (xpi μ79 89 k.toInt.toNat va) from (qzU_c qzU_rf (by decide))) hqa.2.2.2)
  have hEb := hE92
  replace h : eT xq_225 _ 95 [some (.inr (.inl (some 75))), some (.inl k), some (.inl t), some (.inl i)] [.inl vb, .inl k, .inr (.inl (some 90))] μ92 r μ' := h
  obtain ⟨hb95, h⟩ := tx_iast (len := 14) (p' := 96) h em225_95 rfl rfl
  replace hb95 : (0 : Int) ≤ k.toInt ∧ k.toInt < 14 := hb95
  replace h := tx_aload_n (p' := 97) h em225_96 rfl rfl
  replace h := tx_iload_n (p' := 98) h em225_97 rfl rfl
  obtain ⟨r98, μ98, hE98, h⟩ := tx_invV (na := 2) (mn := 220) (as := [.inr (.inl (some 75)), .inl t]) (rest := []) (p' := 101) h em225_98 ((congrFun xo_12 298).trans rfl) xm_220 rfl rfl
  have hm9 := mE_w (μ := (xpi μ92 90 k.toInt.toNat vb)) (by decide +kernel) (hf_220_0 hE98 (hEn0 (by decide)) hmb.1).2 hmb.1
  obtain ⟨rfl, ν98, he, hend⟩ := qz_ends hE98 (qzU_I (show qzU μ92 (xpi μ92 90 k.toInt.toNat vb) from (qzU_c qzU_rf (by decide))) hqb.2.2.2)
  rcases hend with ⟨hf9, hx9⟩ | ⟨hf9, hx9⟩
  · replace h : eT xq_225 _ 101 [some (.inr (.inl (some 75))), some (.inl k), some (.inl t), some (.inl i)] [] μ98 r μ' := h
    replace h := tx_aload_n (p' := 102) h em225_101 rfl rfl
    replace h := tx_getf (c := 12) (j := 27) (p' := 105) h em225_102 ((congrFun xo_12 200).trans rfl) rfl rfl (by decide) rfl
    rcases tx_if (t := 121) (p' := 108) h em225_105 (by decide) rfl with ⟨c105, h⟩ | ⟨c105, h⟩
    · replace c105 : ¬ (μ98.1 75 27).toInt = 0 := c105
      obtain ⟨rfl, hμ⟩ := tx_return h em225_121
      have ekn : k.toInt.toNat = V := by omega
      have ec : ∀ k' j, 84 ≤ k' → k' ≤ 93 → k' ≠ 89 → k' ≠ 90 → μ98.1 k' j = ω.1 k' j := fun k' j q1 q2 q3 q4 => by
        rw [hm9.2 k' j q1 q2, xpi_ne (fun q => q4 q.1), hmb.2 k' j q1 q2, xpi_ne (fun q => q3 q.1), hma.2 k' j q1 q2]
      have c89 : ∀ j, ¬ j = V → μ98.1 89 j = β.1 89 j := fun j q => by
        rw [hm9.2 89 j (by decide) (by decide), xpi_ne (fun q => absurd q.1 (by decide)), hmb.2 89 j (by decide) (by decide), xpi_ne (fun z => q (z.2.trans ekn)), hma.2 89 j (by decide) (by decide)]
        exact hR.2.2.1 89 j (by decide) (by decide)
      have c90 : ∀ j, ¬ j = V → μ98.1 90 j = β.1 90 j := fun j q => by
        rw [hm9.2 90 j (by decide) (by decide), xpi_ne (fun z => q (z.2.trans ekn)), hmb.2 90 j (by decide) (by decide), xpi_ne (fun q => absurd q.1 (by decide)), hma.2 90 j (by decide) (by decide)]
        exact hR.2.2.1 90 j (by decide) (by decide)
      rw [hμ]
      refine ⟨hm9.1, fun hz => ?_, ⟨fun j hj => ⟨?_, c89 j hj, c90 j hj⟩, fun j hj => ?_⟩, fun hz => ?_, fun j hj => ?_, fun k' j q1 q2 q3 q4 q5 q6 q7 => ?_⟩
      · exfalso; rw [hx9] at hz; omega
      · rw [ec 87 _ (by decide) (by decide) (by decide) (by decide)]; exact hR.2.2.2.2.1 j hj
      · rw [ec 88 _ (by decide) (by decide) (by decide) (by decide)]; exact hR.2.2.2.2.2.2 j hj
      · exfalso; rw [hx9] at hz; omega
      · rw [ec 86 _ (by decide) (by decide) (by decide) (by decide)]; exact hR.2.2.1 86 j (by decide) (by decide)
      · rw [ec k' j q1 q2 q6 q7]
        exact hR.2.2.1 k' j q4 q5
    · replace c105 : ¬ ¬ (μ98.1 75 27).toInt = 0 := c105
      replace h := tx_aload_n (p' := 109) h em225_108 rfl rfl
      replace h := tx_getc (c := 12) (j := 4) (p' := 112) h em225_109 ((congrFun xo_12 49).trans rfl) rfl rfl rfl
      replace h := tx_aload_n (p' := 113) h em225_112 rfl rfl
      replace h := tx_getf (c := 12) (j := 32) (p' := 116) h em225_113 ((congrFun xo_12 233).trans rfl) rfl rfl (by decide) rfl
      replace h := tx_dup2 (p' := 117) h em225_116 rfl
      obtain ⟨hb117, h⟩ := tx_iald (len := 2) (p' := 118) h em225_117 rfl rfl
      replace hb117 : (0 : Int) ≤ (μ98.1 75 32).toInt ∧ (μ98.1 75 32).toInt < 2 := hb117
      replace h := tx_iconst (v := 1) (p' := 119) h em225_118 (by decide +kernel) rfl
      replace h := tx_iadd (p' := 120) h em225_119 rfl
      obtain ⟨hb120, h⟩ := tx_iast (len := 2) (p' := 121) h em225_120 rfl rfl
      replace hb120 : (0 : Int) ≤ (μ98.1 75 32).toInt ∧ (μ98.1 75 32).toInt < 2 := hb120
      obtain ⟨rfl, hμ⟩ := tx_return h em225_121
      exfalso
      have hz9 : 0 < (μ98.1 75 27).toInt := by
        rw [hx9]
        exact hf9
      omega
  · replace h : eT xq_225 _ 101 [some (.inr (.inl (some 75))), some (.inl k), some (.inl t), some (.inl i)] [] μ98 r μ' := h
    replace h := tx_aload_n (p' := 102) h em225_101 rfl rfl
    replace h := tx_getf (c := 12) (j := 27) (p' := 105) h em225_102 ((congrFun xo_12 200).trans rfl) rfl rfl (by decide) rfl
    rcases tx_if (t := 121) (p' := 108) h em225_105 (by decide) rfl with ⟨c105_1, h⟩ | ⟨c105_1, h⟩
    · replace c105_1 : ¬ (μ98.1 75 27).toInt = 0 := c105_1
      obtain ⟨rfl, hμ⟩ := tx_return h em225_121
      exfalso
      have hz9 : (μ98.1 75 27).toInt = 0 := by
        rw [hx9, xpi_ne (fun q => absurd q.2 (by decide))]
        exact hf9
      omega
    · replace c105_1 : ¬ ¬ (μ98.1 75 27).toInt = 0 := c105_1
      replace h := tx_aload_n (p' := 109) h em225_108 rfl rfl
      replace h := tx_getc (c := 12) (j := 4) (p' := 112) h em225_109 ((congrFun xo_12 49).trans rfl) rfl rfl rfl
      replace h := tx_aload_n (p' := 113) h em225_112 rfl rfl
      replace h := tx_getf (c := 12) (j := 32) (p' := 116) h em225_113 ((congrFun xo_12 233).trans rfl) rfl rfl (by decide) rfl
      replace h := tx_dup2 (p' := 117) h em225_116 rfl
      obtain ⟨hb117_1, h⟩ := tx_iald (len := 2) (p' := 118) h em225_117 rfl rfl
      replace hb117_1 : (0 : Int) ≤ (μ98.1 75 32).toInt ∧ (μ98.1 75 32).toInt < 2 := hb117_1
      replace h := tx_iconst (v := 1) (p' := 119) h em225_118 (by decide +kernel) rfl
      replace h := tx_iadd (p' := 120) h em225_119 rfl
      obtain ⟨hb120_1, h⟩ := tx_iast (len := 2) (p' := 121) h em225_120 rfl rfl
      replace hb120_1 : (0 : Int) ≤ (μ98.1 75 32).toInt ∧ (μ98.1 75 32).toInt < 2 := hb120_1
      obtain ⟨rfl, hμ⟩ := tx_return h em225_121
      have hIa := qzU_I hR.1 hiB
      have hzM := (qz_rf0 (qzU_I (show qzU μ92 (xpi μ92 90 k.toInt.toNat vb) from (qzU_c qzU_rf (by decide))) hqb.2.2.2) he hf9).1
      have hzb : rF μ92 = 0 := hzM
      have zb := qz_rf0 (qzU_I (show qzU μ79 (xpi μ79 89 k.toInt.toNat va) from (qzU_c qzU_rf (by decide))) hqa.2.2.2) hqb hzb
      have hza : rF μ79 = 0 := zb.1
      have za := qz_rf0 hIa hqa hza
      obtain ⟨va', ea', hva⟩ := rk_bounded hEa hIa hza
      cases ea'
      obtain ⟨vb', eb', hvb⟩ := rk_bounded hEb (qzU_I (show qzU μ79 (xpi μ79 89 k.toInt.toNat va) from (qzU_c qzU_rf (by decide))) hqa.2.2.2) hzb
      cases eb'
      have tA : rT μ79 = rT β + 1 := by
        have := (qz_K hIa hqa hza).2
        rw [hR.1.2.1] at this
        exact this
      have eva : va.toInt = rVl β (rT β) := by rw [hva, qzS_V hR.1.1, hR.1.2.1]
      have evb : vb.toInt = rVl β (rT β + 1) := by
        rw [hvb]
        have e1 : rVl (xpi μ79 89 k.toInt.toNat va) = rVl β := (qzS_V (show qzU μ79 (xpi μ79 89 k.toInt.toNat va) from (qzU_c qzU_rf (by decide))).1).trans ((qzS_V hqa.1).trans (qzS_V hR.1.1))
        have e2 : rT (xpi μ79 89 k.toInt.toNat va) = rT μ79 := rfl
        rw [e1, e2, tA]
      have ekn : k.toInt.toNat = V := by omega
      have s32 : ∀ {x y : xM}, qzS x y → y.1 75 32 = x.1 75 32 := fun h => h.2.1 32 (by decide) (by decide) (by decide) (by decide) (by decide)
      have e32 : μ98.1 75 32 = β.1 75 32 := by
        rw [hx9, xpi_ne (fun q => absurd q.2 (by decide))]
        refine (s32 he.1).trans ?_
        rw [xpi_ne (fun q => absurd q.1 (by decide))]
        refine (s32 hqb.1).trans ?_
        rw [xpi_ne (fun q => absurd q.1 (by decide))]
        exact (s32 hqa.1).trans (hR.2.2.1 75 32 (by decide) (by decide))
      have ec : ∀ k' j, 84 ≤ k' → k' ≤ 93 → k' ≠ 89 → k' ≠ 90 → μ98.1 k' j = ω.1 k' j := fun k' j q1 q2 q3 q4 => by
        rw [hm9.2 k' j q1 q2, xpi_ne (fun q => q4 q.1), hmb.2 k' j q1 q2, xpi_ne (fun q => q3 q.1), hma.2 k' j q1 q2]
      have e86 : ∀ j, μ98.1 86 j = β.1 86 j := fun j => (ec 86 j (by decide) (by decide) (by decide) (by decide)).trans (hR.2.2.1 86 j (by decide) (by decide))
      have e1i : (1 : Int32).toInt = 1 := by decide
      have ev : (μ98.1 86 (μ98.1 75 32).toInt.toNat + 1).toInt = (β.1 86 (β.1 75 32).toInt.toNat).toInt + 1 := by
        rw [e32, e86, an_add (by rw [e1i]; omega) (by rw [e1i]; omega), e1i]
      have c89 : ∀ j, μ98.1 89 j = if j = V then va else β.1 89 j := fun j => by
        rw [hm9.2 89 j (by decide) (by decide), xpi_ne (fun q => absurd q.1 (by decide)), hmb.2 89 j (by decide) (by decide), ekn]
        by_cases q : j = V
        · rw [if_pos q, q, xpi_at]
        · rw [if_neg q, xpi_ne (fun z => q z.2), hma.2 89 j (by decide) (by decide)]
          exact hR.2.2.1 89 j (by decide) (by decide)
      have c90 : ∀ j, μ98.1 90 j = if j = V then vb else β.1 90 j := fun j => by
        rw [hm9.2 90 j (by decide) (by decide), ekn]
        by_cases q : j = V
        · rw [if_pos q, q, xpi_at]
        · rw [if_neg q, xpi_ne (fun z => q z.2), hmb.2 90 j (by decide) (by decide), xpi_ne (fun q => absurd q.1 (by decide)), hma.2 90 j (by decide) (by decide)]
          exact hR.2.2.1 90 j (by decide) (by decide)
      have n86 : ∀ k' j, k' ≠ 86 → (xpi μ98 86 (μ98.1 75 32).toInt.toNat (μ98.1 86 (μ98.1 75 32).toInt.toNat + 1)).1 k' j = μ98.1 k' j := fun k' j q => xpi_ne (fun z => q z.1)
      rw [hμ]
      refine ⟨hm9.1, fun _ => ⟨?_, fun i hi => ?_, ?_, ?_⟩, ⟨fun j hj => ⟨?_, ?_, ?_⟩, fun j hj => ?_⟩, fun _ => ?_, fun j hj => ?_, fun k' j q1 q2 q3 q4 q5 q6 q7 => ?_⟩
      · rw [n86 87 _ (by decide), ec 87 _ (by decide) (by decide) (by decide) (by decide), hR.2.2.2.2.2.1]; exact hN
      · rw [n86 88 _ (by decide), ec 88 _ (by decide) (by decide) (by decide) (by decide)]; exact hC i hi
      · rw [n86 89 _ (by decide), c89, if_pos rfl]; exact eva
      · rw [n86 90 _ (by decide), c90, if_pos rfl]; exact evb
      · rw [n86 87 _ (by decide), ec 87 _ (by decide) (by decide) (by decide) (by decide)]; exact hR.2.2.2.2.1 j hj
      · rw [n86 89 _ (by decide), c89, if_neg hj]
      · rw [n86 90 _ (by decide), c90, if_neg hj]
      · rw [n86 88 _ (by decide), ec 88 _ (by decide) (by decide) (by decide) (by decide)]; exact hR.2.2.2.2.2.2 j hj
      · rw [e32, xpi_at]; rw [e32] at ev; exact ev
      · rw [xpi_ne (fun q => hj (by rw [q.2, e32])), e86]
      · rw [n86 k' j q3, ec k' j q1 q2 q6 q7]
        exact hR.2.2.1 k' j q4 q5
set_option maxRecDepth 10000 in
set_option maxHeartbeats 4000000 in
theorem rk_v39 {m : Int} {V : Nat} {k t : Int32} {β μ' : xM} {r : Option zV} (hiB : qzI m β) (hk : k.toInt = (V : Int)) (hV : V ≤ 13) (hh : (β.1 86 (β.1 75 32).toInt.toNat).toInt ≤ 7) (hh0 : 0 ≤ (β.1 86 (β.1 75 32).toInt.toNat).toInt) (hN : (β.1 75 53).toInt = (mLs β).length) (hN8 : (mLs β).length ≤ 8) : ∀ (n : Nat) (i : Int32) (ω : xM), eT xq_225 n 39 [some (.inr (.inl (some 75))), some (.inl k), some (.inl t), some (.inl i)] [] ω r μ' → mV V β ω → 0 ≤ i.toInt → (∀ j : Nat, (j : Int) < i.toInt → j < (mLs β).length → (ω.1 88 (8 * V + j)).toInt = (mLs β).getD j 0) → mVq V (mLs β) (rVl β (rT β)) (rVl β (rT β + 1)) β μ' := by
  intro n
  induction n using Nat.strongRecOn with
  | ind n ih =>
  intro i ω h hR hi0 hC
  replace h := tx_iload_n (p' := 40) h em225_39 rfl rfl
  replace h := tx_aload_n (p' := 41) h em225_40 rfl rfl
  replace h := tx_getf (c := 12) (j := 53) (p' := 44) h em225_41 ((congrFun xo_12 284).trans rfl) rfl rfl (by decide) rfl
  rcases tx_icmp (t := 70) (p' := 47) h em225_44 (by decide) rfl with ⟨c44, h⟩ | ⟨c44, h⟩
  · replace c44 : (ω.1 75 53).toInt ≤ i.toInt := c44
    have hl9 : (mLs β).length ≤ i.toInt.toNat := by rw [hR.2.2.1 75 53 (by decide) (by decide)] at c44; omega
    exact rk_v70 hiB hk hh hh0 hN hR (fun j hj => hC j (by omega) hj) h
  · replace c44 : ¬ (ω.1 75 53).toInt ≤ i.toInt := c44
    replace h := tx_aload_n (p' := 48) h em225_47 rfl rfl
    replace h := tx_getc (c := 12) (j := 37) (p' := 51) h em225_48 ((congrFun xo_12 55).trans rfl) rfl rfl rfl
    replace h := tx_bipush (v := 8) (p' := 53) h em225_51 (by decide +kernel) rfl
    replace h := tx_iload_n (p' := 54) h em225_53 rfl rfl
    replace h := tx_imul (p' := 55) h em225_54 rfl
    replace h := tx_iload_n (p' := 56) h em225_55 rfl rfl
    replace h := tx_iadd (p' := 57) h em225_56 rfl
    replace h := tx_aload_n (p' := 58) h em225_57 rfl rfl
    replace h := tx_getc (c := 12) (j := 52) (p' := 61) h em225_58 ((congrFun xo_12 101).trans rfl) rfl rfl rfl
    replace h := tx_iload_n (p' := 62) h em225_61 rfl rfl
    obtain ⟨hb62, h⟩ := tx_iald (len := 8) (p' := 63) h em225_62 rfl rfl
    replace hb62 : (0 : Int) ≤ i.toInt ∧ i.toInt < 8 := hb62
    obtain ⟨hb63, h⟩ := tx_iast (len := 112) (p' := 64) h em225_63 rfl rfl
    replace hb63 : (0 : Int) ≤ (((8 : Int32) * k) + i).toInt ∧ (((8 : Int32) * k) + i).toInt < 112 := hb63
    replace h := tx_iinc (v := 1) (p' := 67) h em225_64 (by decide +kernel) rfl rfl
    replace h : eT xq_225 _ 67 [some (.inr (.inl (some 75))), some (.inl k), some (.inl t), some (.inl (i + 1))] [] (xpi ω 88 (((8 : Int32) * k) + i).toInt.toNat (ω.1 103 i.toInt.toNat)) r μ' := h
    obtain ⟨n2, hn2, h⟩ := tx_gotoS (t := 39) h em225_67 (by decide)
    have hlen : i.toInt.toNat < (mLs β).length := by rw [hR.2.2.1 75 53 (by decide) (by decide)] at c44; omega
    have e1i : (1 : Int32).toInt = 1 := by decide
    have e8 : (8 : Int32).toInt = 8 := by decide
    have ei : (i + 1).toInt = i.toInt + 1 := by rw [an_add (by rw [e1i]; omega) (by rw [e1i]; omega), e1i]
    have em : ((8 : Int32) * k).toInt = 8 * (V : Int) := by rw [an_mul (by rw [e8, hk]; omega) (by rw [e8, hk]; omega), e8, hk]
    have ek : ((8 : Int32) * k + i).toInt = 8 * (V : Int) + i.toInt := by rw [an_add (by rw [em]; omega) (by rw [em]; omega), em]
    have ekn : ((8 : Int32) * k + i).toInt.toNat = 8 * V + i.toInt.toNat := by omega
    rw [ekn] at h
    refine ih n2 hn2 _ _ h (mV_i hR (by omega)) (by omega) (fun j hj hj2 => ?_)
    by_cases q : j = i.toInt.toNat
    · rw [q, xpi_at, hR.2.2.1 103 _ (by decide) (by decide)]
      unfold mLs at hj2 ⊢
      rw [List.length_map, List.length_range, q] at hj2
      rw [kMp hj2]
    · rw [xpi_ne (fun z => q (by omega))]
      exact hC j (by omega) hj2
set_option maxRecDepth 10000 in
set_option maxHeartbeats 4000000 in
theorem rk_verse {m : Int} {μ μ' : xM} {r : Option zV} (h0 : Ex gx xq_225 [.inr (.inl (some 75))] μ r μ') (hI : qzI m μ) (hO : hOK μ) (hsd : 0 ≤ rSd μ ∧ rSd μ ≤ 1) (hU6 : 0 ≤ rU μ ∧ rU μ ≤ 6) : ∃ l v d, mVq (7 * (rSd μ).toNat + (rU μ).toNat) l v d μ μ' ∧ (rF μ' = 0 → (rW μ').1 = 0 → l = rLt μ (rT μ + 1) ∧ v = rVl μ (rT μ + 2) ∧ d = rVl μ (rT μ + 3)) := by
  obtain ⟨n, h⟩ := tx_in (L := [some (.inr (.inl (some 75))), none, none, none]) h0 rfl
  replace h := tx_bipush (v := 7) (p' := 2) h em225_0 (by decide +kernel) rfl
  replace h := tx_aload_n (p' := 3) h em225_2 rfl rfl
  replace h := tx_getf (c := 12) (j := 32) (p' := 6) h em225_3 ((congrFun xo_12 233).trans rfl) rfl rfl (by decide) rfl
  replace h := tx_imul (p' := 7) h em225_6 rfl
  replace h := tx_aload_n (p' := 8) h em225_7 rfl rfl
  replace h := tx_getc (c := 12) (j := 4) (p' := 11) h em225_8 ((congrFun xo_12 49).trans rfl) rfl rfl rfl
  replace h := tx_aload_n (p' := 12) h em225_11 rfl rfl
  replace h := tx_getf (c := 12) (j := 32) (p' := 15) h em225_12 ((congrFun xo_12 233).trans rfl) rfl rfl (by decide) rfl
  obtain ⟨hb15, h⟩ := tx_iald (len := 2) (p' := 16) h em225_15 rfl rfl
  replace hb15 : (0 : Int) ≤ (μ.1 75 32).toInt ∧ (μ.1 75 32).toInt < 2 := hb15
  replace h := tx_iadd (p' := 17) h em225_16 rfl
  replace h := tx_istore_n (p' := 18) h em225_17 rfl
  replace h : eT xq_225 _ 18 [some (.inr (.inl (some 75))), some (.inl (((7 : Int32) * (μ.1 75 32)) + (μ.1 86 (μ.1 75 32).toInt.toNat))), none, none] [] μ r μ' := h
  replace h := tx_aload_n (p' := 19) h em225_18 rfl rfl
  obtain ⟨r19, μ19, hE19, h⟩ := tx_invV (na := 1) (mn := 170) (as := [.inr (.inl (some 75))]) (rest := []) (p' := 22) h em225_19 ((congrFun xo_12 291).trans rfl) xm_170 rfl rfl
  have hm19 := mE_w (μ := μ) (by decide +kernel) (hf_170_0 hE19 (hEn0 (by decide)) hO).2 hO
  obtain ⟨rfl, hqn⟩ := qz_named hE19 hI
  replace h : eT xq_225 _ 22 [some (.inr (.inl (some 75))), some (.inl (((7 : Int32) * (μ.1 75 32)) + (μ.1 86 (μ.1 75 32).toInt.toNat))), none, none] [.inl (μ.1 75 25)] μ19 r μ' := h
  replace h := tx_istore_n (p' := 23) h em225_22 rfl
  replace h : eT xq_225 _ 23 [some (.inr (.inl (some 75))), some (.inl (((7 : Int32) * (μ.1 75 32)) + (μ.1 86 (μ.1 75 32).toInt.toNat))), some (.inl (μ.1 75 25)), none] [] μ19 r μ' := h
  replace h := tx_aload_n (p' := 24) h em225_23 rfl rfl
  obtain ⟨r24, μ24, hE24, h⟩ := tx_invV (na := 1) (mn := 221) (as := [.inr (.inl (some 75))]) (rest := []) (p' := 27) h em225_24 ((congrFun xo_12 295).trans rfl) xm_221 rfl rfl
  have hm24 := mE_w (μ := μ19) (by decide +kernel) (hf_221_0 hE24 (hEn0 (by decide)) hm19.1).2 hm19.1
  have hE9 := hE24
  obtain ⟨rfl, hqt⟩ := qz_takes hE24 hqn.2.2.2
  replace h : eT xq_225 _ 27 [some (.inr (.inl (some 75))), some (.inl (((7 : Int32) * (μ.1 75 32)) + (μ.1 86 (μ.1 75 32).toInt.toNat))), some (.inl (μ.1 75 25)), none] [] μ24 r μ' := h
  replace h := tx_aload_n (p' := 28) h em225_27 rfl rfl
  replace h := tx_getc (c := 12) (j := 36) (p' := 31) h em225_28 ((congrFun xo_12 52).trans rfl) rfl rfl rfl
  replace h := tx_iload_n (p' := 32) h em225_31 rfl rfl
  replace h := tx_aload_n (p' := 33) h em225_32 rfl rfl
  replace h := tx_getf (c := 12) (j := 53) (p' := 36) h em225_33 ((congrFun xo_12 284).trans rfl) rfl rfl (by decide) rfl
  obtain ⟨hb36, h⟩ := tx_iast (len := 14) (p' := 37) h em225_36 rfl rfl
  replace hb36 : (0 : Int) ≤ (((7 : Int32) * (μ.1 75 32)) + (μ.1 86 (μ.1 75 32).toInt.toNat)).toInt ∧ (((7 : Int32) * (μ.1 75 32)) + (μ.1 86 (μ.1 75 32).toInt.toNat)).toInt < 14 := hb36
  replace h := tx_iconst (v := 0) (p' := 38) h em225_37 (by decide +kernel) rfl
  replace h := tx_istore_n (p' := 39) h em225_38 rfl
  replace h : eT xq_225 _ 39 [some (.inr (.inl (some 75))), some (.inl (((7 : Int32) * (μ.1 75 32)) + (μ.1 86 (μ.1 75 32).toInt.toNat))), some (.inl (μ.1 75 25)), some (.inl (0 : Int32))] [] (xpi μ24 87 (((7 : Int32) * (μ.1 75 32)) + (μ.1 86 (μ.1 75 32).toInt.toNat)).toInt.toNat (μ24.1 75 53)) r μ' := h
  have hmm := mE_tr hm19 hm24
  have e32 : μ24.1 75 32 = μ.1 75 32 := (hqt.1.2.1 32 (by decide) (by decide) (by decide) (by decide) (by decide)).trans (hqn.1.2.1 32 (by decide) (by decide) (by decide) (by decide) (by decide))
  have eU : μ24.1 86 (μ24.1 75 32).toInt.toNat = μ.1 86 (μ.1 75 32).toInt.toNat := by rw [e32]; exact hmm.2 86 _ (by decide) (by decide)
  have e7 : (7 : Int32).toInt = 7 := by decide
  have hs := hsd
  have hh := hU6
  unfold rSd at hs
  unfold rU rSd at hh
  have k1 : ((7 : Int32) * (μ.1 75 32)).toInt = 7 * (μ.1 75 32).toInt := by rw [an_mul (by rw [e7]; omega) (by rw [e7]; omega), e7]
  have k3 : ((7 : Int32) * (μ.1 75 32) + (μ.1 86 (μ.1 75 32).toInt.toNat)).toInt = ((7 * (rSd μ).toNat + (rU μ).toNat : Nat) : Int) := by
    unfold rU rSd
    rw [an_add (by rw [k1]; omega) (by rw [k1]; omega), k1]; omega
  have ekn : ((7 : Int32) * (μ.1 75 32) + (μ.1 86 (μ.1 75 32).toInt.toNat)).toInt.toNat = 7 * (rSd μ).toNat + (rU μ).toNat := by omega
  obtain ⟨-, ν9, e2, e3⟩ := verse_39 hqt.2.2.2 (qzS_tr hqn.1 hqt.1) _ _ _ _ h (qzU_c qzU_rf (by decide))
  have hβ := rk_back hqt.2.2.2 e2 e3 (Or.inr rfl) (fun a w q => (wNote (by decide) (wNote (by decide) q).2.1).2.1)
  obtain ⟨g2, g3, g4, g1⟩ := rk_takes hE9 hqn.2.2.2
  have eV : rVl μ24 = rVl μ := (qzS_V hqt.1).trans (qzS_V hqn.1)
  have hq := rk_v39 hqt.2.2.2 k3 (by unfold rU rSd; omega) (by rw [eU]; omega) (by rw [eU]; omega) g3 g2 _ _ _ h ⟨qzU_c qzU_rf (by decide), hmm.1, fun k j a b => xpi_ne (fun q => a q.1), rfl, fun j hj => xpi_ne (fun q => hj (q.2.trans ekn)), by rw [ekn, xpi_at], fun j _ => xpi_ne (fun q => absurd q.1 (by decide))⟩ (by decide) (fun j hj => j0y hj)
  rw [eV] at hq
  obtain ⟨q1, q2, ⟨q3, q3b⟩, q4, q5, q6⟩ := hq
  rw [e32] at q4 q5
  have mm := hmm.2
  refine ⟨_, _, _, ⟨q1, q2, ⟨fun j hj => ⟨(q3 j hj).1.trans (mm 87 j (by decide) (by decide)), (q3 j hj).2.1.trans (mm 89 j (by decide) (by decide)), (q3 j hj).2.2.trans (mm 90 j (by decide) (by decide))⟩, fun j hj => (q3b j hj).trans (mm 88 j (by decide) (by decide))⟩, fun z => by rw [q4 z, mm 86 _ (by decide) (by decide)], fun j hj => (q5 j hj).trans (mm 86 j (by decide) (by decide)), fun k j a b c d e f g => (q6 k j a b c d e f g).trans (mm k j a b)⟩, fun z1 z2 => ?_⟩
  obtain ⟨b1, b2⟩ := hβ z1 z2
  have hf1 := qz_rf0 hqn.2.2.2 hqt b1
  have hK := qz_K hI hqn hf1.1
  have hK2 := qz_K hqn.2.2.2 hqt b1
  have tB : rT μ24 = rT μ + 2 := by omega
  refine ⟨?_, by rw [tB], by rw [tB]; congr 1; omega⟩
  rw [g1 b1 b2, hK.2, qzS_rLt hqn.1]
