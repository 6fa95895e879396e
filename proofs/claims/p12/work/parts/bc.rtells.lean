theorem tsw_k {x lo hi d : Int} {offs : Array Int} {pc t : Nat} (h : (∃ (k : Nat) (off : Int), offs[k]? = some off ∧ x = lo + (k : Int) ∧ (pc : Int) + off = (t : Int)) ∨ ((x < lo ∨ hi < x) ∧ (pc : Int) + d = (t : Int))) {k : Nat} {off : Int} (hk : offs[k]? = some off) (hx : x = lo + (k : Int)) (hh : x ≤ hi) : (pc : Int) + off = (t : Int) := by
  rcases h with ⟨k2, o2, h1, h2, h3⟩ | ⟨h1, -⟩
  · have e : k2 = k := by omega
    subst e
    cases h1.symm.trans hk
    exact h3
  · omega
theorem tsw_d {x lo hi d : Int} {offs : Array Int} {pc t : Nat} (h : (∃ (k : Nat) (off : Int), offs[k]? = some off ∧ x = lo + (k : Int) ∧ (pc : Int) + off = (t : Int)) ∨ ((x < lo ∨ hi < x) ∧ (pc : Int) + d = (t : Int))) (hs : lo + (offs.size : Int) ≤ hi + 1) (hx : x < lo ∨ hi < x) : (pc : Int) + d = (t : Int) := by
  rcases h with ⟨k2, o2, h1, h2, h3⟩ | ⟨-, h3⟩
  · have : k2 < offs.size := by
      rcases Nat.lt_or_ge k2 offs.size with g | g
      · exact g
      · rw [Array.getElem?_eq_none g] at h1
        cases h1
    omega
  · exact h3
def rSd (μ : xM) : Int := (μ.1 75 32).toInt
def rH (μ : xM) : Int := (μ.1 84 (rSd μ).toNat).toInt
def rU (μ : xM) : Int := (μ.1 86 (rSd μ).toNat).toInt
/-- all that a telling may change -/
def qzG (μ μ' : xM) : Prop := (∀ k j, k ≠ 75 → ¬ (84 ≤ k ∧ k ≤ 104) → μ'.1 k j = μ.1 k j) ∧ (∀ j, (j < 25 ∨ 30 < j) → j ≠ 33 → j ≠ 43 → j ≠ 49 → j ≠ 53 → j ≠ 55 → μ'.1 75 j = μ.1 75 j) ∧ (∀ k j, k ≠ 83 → μ'.2.1 k j = μ.2.1 k j) ∧ μ'.2.2 = μ.2.2
theorem qzG_s {μ ν : xM} (h : qzS μ ν) : qzG μ ν := ⟨fun k j a b => h.1 k j a (by omega), fun j a _ b c d e => h.2.1 j a b c d e, fun k j _ => by rw [h.2.2], by rw [h.2.2]⟩
theorem qzG_tr {μ ν μ' : xM} (h1 : qzG μ ν) (h2 : qzG ν μ') : qzG μ μ' := ⟨fun k j a b => (h2.1 k j a b).trans (h1.1 k j a b), fun j a b c d e f => (h2.2.1 j a b c d e f).trans (h1.2.1 j a b c d e f), fun k j a => (h2.2.2.1 k j a).trans (h1.2.2.1 k j a), h2.2.2.2.trans h1.2.2.2⟩
theorem qzG_K {μ ν : xM} (h : qzG μ ν) : rK ν = rK μ := by funext a; unfold rK; rw [h.1 78 _ (by decide) (by decide)]
theorem qzG_P {μ ν : xM} (h : qzG μ ν) : rP ν = rP μ := by funext a; unfold rP; rw [h.1 79 _ (by decide) (by decide)]
theorem qzG_V {μ ν : xM} (h : qzG μ ν) : rVl ν = rVl μ := by funext a; unfold rVl; rw [h.1 80 _ (by decide) (by decide)]
theorem qzG_N {μ ν : xM} (h : qzG μ ν) : rNm ν = rNm μ := by funext a; unfold rNm; rw [h.2.2.1 81 _ (by decide)]
theorem qzG_T {μ ν : xM} {m : Int} (h : qzG μ ν) (ht : qzT μ m) : qzT ν m := by
  unfold qzT
  rw [qzG_K h, qzG_P h, qzG_V h, qzG_N h]
  exact ht
theorem qzS_nL {μ ν : xM} (h : qzS μ ν) : nL ν = nL μ := by funext a w; unfold nL rl; rw [qzS_P h, qzS_N h]
theorem qzS_nM {μ ν : xM} (h : qzS μ ν) : nM ν = nM μ := by funext a w; unfold nM; rw [qzS_P h, qzS_N h, h.2.2, h.2.1 33 (by decide) (by decide) (by decide) (by decide) (by decide)]
theorem qzS_nB {μ ν : xM} {lo hi : Int} (h : qzS μ ν) : nB ν lo hi = nB μ lo hi := by funext a w; unfold nB; rw [qzS_P h, qzS_V h]
/-- counts and names told -/
def rI (ns : List Int) (μ : xM) : Prop := ((μ.1 75 33).toInt = ns.length ∧ ∀ k : Nat, k < ns.length → (μ.2.1 83 k).toInt = rNm μ (ns.getD k 0)) ∧ (0 ≤ rH μ ∧ rH μ ≤ 5) ∧ (0 ≤ rU μ ∧ rU μ ≤ 7) ∧ (0 ≤ rSd μ ∧ rSd μ ≤ 1) ∧ rH μ + rU μ = ns.length
/-- a telling of the reference, as the account says -/
def rOT (m : Int) (ns : List Int) (μ μ' : xM) : Prop := qzG μ μ' ∧ 0 ≤ rF μ' ∧ rO (pTell (rK μ) (rH μ) (rU μ) (rT μ)) μ μ' ∧ (rF μ' = 0 → qzI m μ' ∧ rT μ < rT μ' ∧ rI (if rK μ (rT μ) = 128 ∨ rK μ (rT μ) = 129 then ns ++ [rT μ + 1] else ns) μ' ∧ rW μ' = pLater (rK μ) (rP μ) (rm μ) (rl μ) (rVl μ) ns (rT μ) (rW μ) ∧ rH μ' = (if rK μ (rT μ) = 128 then rH μ + 1 else rH μ) ∧ rU μ' = (if rK μ (rT μ) = 129 then rU μ + 1 else rU μ))
theorem qzS_H {μ ν : xM} (h : qzS μ ν) : rH ν = rH μ ∧ rU ν = rU μ ∧ rSd ν = rSd μ := by
  have e : rSd ν = rSd μ := by unfold rSd; rw [h.2.1 32 (by decide) (by decide) (by decide) (by decide) (by decide)]
  unfold rH rU
  rw [e, h.1 84 _ (by decide) (by decide), h.1 86 _ (by decide) (by decide)]
  exact ⟨rfl, rfl, rfl⟩
theorem rI_s {ns : List Int} {μ ν : xM} (h : qzS μ ν) (hi : rI ns μ) : rI ns ν := by
  obtain ⟨e1, e2, e3⟩ := qzS_H h
  unfold rI
  rw [e1, e2, e3, qzS_N h, h.2.2, h.2.1 33 (by decide) (by decide) (by decide) (by decide) (by decide)]
  exact hi
/-- a telling that changes neither counts nor names -/
theorem rOT_n {m : Int} {ns : List Int} {F : pP} {N : Int → Int × Int → Int × Int} {μ μ' : xM} (hI : qzI m μ) (hf : rF μ = 0) (hR : rI ns μ) (h : qzN m F N μ μ') (hF : pTell (rK μ) (rH μ) (rU μ) (rT μ) = F (rT μ)) (hk : ¬ (rK μ (rT μ) = 128 ∨ rK μ (rT μ) = 129)) (hN : (F (rT μ)).2 = 0 → N (rT μ) (rW μ) = pLater (rK μ) (rP μ) (rm μ) (rl μ) (rVl μ) ns (rT μ) (rW μ)) : rOT m ns μ μ' := by
  obtain ⟨b1, b2, b3, b4⟩ := h
  obtain ⟨c1, c2⟩ := b3 hf
  obtain ⟨e1, e2, e3⟩ := qzS_H b1
  refine ⟨qzG_s b1, b4.2.1, by rw [hF]; exact c1, fun q => ?_⟩
  obtain ⟨c3, c4⟩ := c2 q
  rw [if_neg hk, if_neg (fun x => hk (Or.inl x)), if_neg (fun x => hk (Or.inr x))]
  have hz : (F (rT μ)).2 = 0 := by
    rcases c1 with ⟨d1, -⟩ | ⟨d1, d2, -⟩
    · exact d1
    · omega
  exact ⟨b4, c3, rI_s b1 hR, by rw [c4]; exact hN hz, e1, e2⟩
abbrev xq_183 : xP := (⟨"CapitalCaseModel", "roomFor", "(II)V"⟩, prog_14_method_22_code, 3, none)
abbrev xq_192 : xP := (⟨"CapitalCaseModel", "toldInt", "(II)I"⟩, prog_14_method_23_code, 4, (some .int))
abbrev xq_224 : xP := (⟨"CapitalCaseModel", "tellHouse", "()V"⟩, prog_14_method_31_code, 4, none)
abbrev xq_225 : xP := (⟨"CapitalCaseModel", "tellVerse", "()V"⟩, prog_14_method_32_code, 4, none)
abbrev xq_219 : xP := (⟨"CapitalCaseModel", "tellOne", "()V"⟩, prog_14_method_24_code, 2, none)
set_option maxRecDepth 10000 in
set_option maxHeartbeats 4000000 in
theorem qz_toldInt {lo hi : Int32} {m : Int} {μ μ' : xM} {r : Option zV} (h0 : Ex gx xq_192 [.inr (.inl (some 75)), .inl lo, .inl hi] μ r μ') (hI : qzI m μ) (hk : rF μ = 0 → ¬ rK μ (rT μ) = 0) : ∃ v : Int32, r = some (.inl v) ∧ qzN m (pSeq pOn (pSeq (pAcc (rK μ) 3) (pAcc (rK μ) 59))) (fun a w => nB μ lo.toInt hi.toInt (pOn a).1 w) μ μ' := by
  obtain ⟨n, h⟩ := tx_in (L := [some (.inr (.inl (some 75))), some (.inl lo), some (.inl hi), none]) h0 rfl
  replace h := tx_aload_n (p' := 1) h em192_0 rfl rfl
  obtain ⟨r1, μ1, hE1, h⟩ := tx_invV (na := 1) (mn := 144) (as := [.inr (.inl (some 75))]) (rest := []) (p' := 4) h em192_1 ((congrFun xo_12 221).trans rfl) xm_144 rfl rfl
  obtain ⟨rfl, hq1⟩ := qz_on hE1 hI hk
  replace h : eT xq_192 _ 4 [some (.inr (.inl (some 75))), some (.inl lo), some (.inl hi), none] [] μ1 r μ' := h
  replace h := tx_aload_n (p' := 5) h em192_4 rfl rfl
  replace h := tx_iload_n (p' := 6) h em192_5 rfl rfl
  replace h := tx_iload_n (p' := 7) h em192_6 rfl rfl
  obtain ⟨r7, μ7, hE7, h⟩ := tx_invV (na := 3) (mn := 124) (as := [.inr (.inl (some 75)), .inl lo, .inl hi]) (rest := []) (p' := 10) h em192_7 ((congrFun xo_12 254).trans rfl) xm_124 rfl rfl
  obtain ⟨v, rfl, hq7⟩ := qz_bounded hE7 hq1.2.2.2
  rw [qzS_K hq1.1, qzS_nB hq1.1] at hq7
  replace h : eT xq_192 _ 10 [some (.inr (.inl (some 75))), some (.inl lo), some (.inl hi), none] [.inl v] μ7 r μ' := h
  replace h := tx_istore_n (p' := 11) h em192_10 rfl
  replace h : eT xq_192 _ 11 [some (.inr (.inl (some 75))), some (.inl lo), some (.inl hi), some (.inl v)] [] μ7 r μ' := h
  replace h := tx_aload_n (p' := 12) h em192_11 rfl rfl
  replace h := tx_iconst (v := 4) (p' := 13) h em192_12 (by decide +kernel) rfl
  obtain ⟨r13, μ13, hE13, h⟩ := tx_invV (na := 2) (mn := 169) (as := [.inr (.inl (some 75)), .inl (4 : Int32)]) (rest := []) (p' := 16) h em192_13 ((congrFun xo_12 258).trans rfl) xm_169 rfl rfl
  obtain ⟨rfl, hq13⟩ := qz_must (k0 := 59) hE13 hq7.2.2.2 (by decide) (by decide)
  rw [qzS_K hq7.1, qzS_K hq1.1] at hq13
  replace h : eT xq_192 _ 16 [some (.inr (.inl (some 75))), some (.inl lo), some (.inl hi), some (.inl v)] [] μ13 r μ' := h
  replace h := tx_iload_n (p' := 17) h em192_16 rfl rfl
  obtain ⟨rfl, hμ⟩ := tx_ireturn h em192_17
  rw [hμ]
  exact ⟨_, rfl, qz_seq hq1 (qz_seq hq7 hq13)⟩
set_option maxRecDepth 10000 in
set_option maxHeartbeats 4000000 in
theorem qz_roomFor {a b : Int32} {m : Int} {μ μ' : xM} {r : Option zV} (h0 : Ex gx xq_183 [.inr (.inl (some 75)), .inl a, .inl b] μ r μ') (hI : qzI m μ) (hf : rF μ = 0) (hk : ¬ rK μ (rT μ) = 0) : r = none ∧ ((a.toInt = b.toInt ∧ qzN m (fun a => (a, 2)) nN μ μ') ∨ (¬ a.toInt = b.toInt ∧ qzN m pOn nN μ μ')) := by
  obtain ⟨n, h⟩ := tx_in (L := [some (.inr (.inl (some 75))), some (.inl a), some (.inl b)]) h0 rfl
  have h17 : ∀ n, eT xq_183 n 17 [some (.inr (.inl (some 75))), some (.inl a), some (.inl b)] [] μ r μ' → ¬ a.toInt = b.toInt → r = none ∧ ((a.toInt = b.toInt ∧ qzN m (fun a => (a, 2)) nN μ μ') ∨ (¬ a.toInt = b.toInt ∧ qzN m pOn nN μ μ')) := by
    intro n h hab
    replace h := tx_aload_n (p' := 18) h em183_17 rfl rfl
    obtain ⟨r18, μ18, hE18, h⟩ := tx_invV (na := 1) (mn := 144) (as := [.inr (.inl (some 75))]) (rest := []) (p' := 21) h em183_18 ((congrFun xo_12 221).trans rfl) xm_144 rfl rfl
    obtain ⟨rfl, hq18⟩ := qz_on hE18 hI (fun q => hk)
    replace h : eT xq_183 _ 21 [some (.inr (.inl (some 75))), some (.inl a), some (.inl b)] [] μ18 r μ' := h
    obtain ⟨rfl, hμ⟩ := tx_return h em183_21
    rw [hμ]
    exact ⟨rfl, Or.inr ⟨hab, hq18⟩⟩
  replace h := tx_iload_n (p' := 1) h em183_0 rfl rfl
  replace h := tx_iload_n (p' := 2) h em183_1 rfl rfl
  rcases tx_icmp (t := 10) (p' := 5) h em183_2 (by decide) rfl with ⟨c2, h⟩ | ⟨c2, h⟩
  · replace c2 : ¬ a.toInt = b.toInt := c2
    replace h := tx_aload_n (p' := 11) h em183_10 rfl rfl
    replace h := tx_getf (c := 12) (j := 27) (p' := 14) h em183_11 ((congrFun xo_12 200).trans rfl) rfl rfl (by decide) rfl
    rcases tx_if (t := 21) (p' := 17) h em183_14 (by decide) rfl with ⟨c14, h⟩ | ⟨c14, h⟩
    · replace c14 : ¬ (μ.1 75 27).toInt = 0 := c14
      obtain ⟨rfl, hμ⟩ := tx_return h em183_21
      exfalso
      unfold rF at hf
      omega
    · replace c14 : ¬ ¬ (μ.1 75 27).toInt = 0 := c14
      exact h17 _ h (by omega)
  · replace c2 : ¬ ¬ a.toInt = b.toInt := c2
    replace h := tx_aload_n (p' := 6) h em183_5 rfl rfl
    replace h := tx_iconst (v := 2) (p' := 7) h em183_6 (by decide +kernel) rfl
    obtain ⟨r7, μ7, hE7, h⟩ := tx_invV (na := 2) (mn := 133) (as := [.inr (.inl (some 75)), .inl (2 : Int32)]) (rest := []) (p' := 10) h em183_7 ((congrFun xo_12 215).trans rfl) xm_133 rfl rfl
    obtain ⟨rfl, hs7⟩ := qz_fl (f0 := 2) hE7 hI (by decide) (by decide)
    replace h : eT xq_183 _ 10 [some (.inr (.inl (some 75))), some (.inl a), some (.inl b)] [] μ7 r μ' := h
    replace h := tx_aload_n (p' := 11) h em183_10 rfl rfl
    replace h := tx_getf (c := 12) (j := 27) (p' := 14) h em183_11 ((congrFun xo_12 200).trans rfl) rfl rfl (by decide) rfl
    rcases tx_if (t := 21) (p' := 17) h em183_14 (by decide) rfl with ⟨c14_1, h⟩ | ⟨c14_1, h⟩
    · replace c14_1 : ¬ (μ7.1 75 27).toInt = 0 := c14_1
      obtain ⟨rfl, hμ⟩ := tx_return h em183_21
      rw [hμ]
      exact ⟨rfl, Or.inl ⟨by omega, hs7⟩⟩
    · replace c14_1 : ¬ ¬ (μ7.1 75 27).toInt = 0 := c14_1
      exfalso
      have k2 : rF μ7 = 2 := by
        rcases (hs7.2.2.1 hf).1 with ⟨k1, -⟩ | ⟨-, k2, -⟩
        · exact absurd (show (2 : Int) = 0 from k1) (by decide)
        · exact k2
      unfold rF at k2
      omega
/-- names and counts behind a house (d 84) or a verse (86) -/
def qzEnd (ν : xM) (μ : xM) (d : Nat) (t : Int) : xM := xpi (xpi (xpl ν 83 (μ.1 75 33).toInt.toNat (μ.2.1 81 t.toNat)) 75 33 (μ.1 75 33 + 1)) d (rSd μ).toNat (μ.1 d (rSd μ).toNat + 1)
set_option maxRecDepth 10000 in
set_option maxHeartbeats 4000000 in
theorem house_end {m : Int} {μ β μ' : xM} {r : Option zV} (hiB : qzI m β) (hsB : qzS μ β) : ∀ (n : Nat) (k i : Int32) (ω : xM), eT xq_224 n 86 [some (.inr (.inl (some 75))), some (.inl k), some (.inl (μ.1 75 25)), some (.inl i)] [] ω r μ' → qzU β ω → r = none ∧ ∃ ν, qzN m (pAcc (rK μ) 59) nN β ν ∧ ((0 < rF ν ∧ μ' = ν) ∨ (rF ν = 0 ∧ μ' = qzEnd ν μ 84 (rT μ))) := by
  intro n k i ω h hU
  replace h := tx_aload_n (p' := 87) h em224_86 rfl rfl
  replace h := tx_iload_n (p' := 88) h em224_87 rfl rfl
  obtain ⟨r88, μ88, hE88, h⟩ := tx_invV (na := 2) (mn := 220) (as := [.inr (.inl (some 75)), .inl (μ.1 75 25)]) (rest := []) (p' := 91) h em224_88 ((congrFun xo_12 298).trans rfl) xm_220 rfl rfl
  obtain ⟨rfl, ν88, he, hend⟩ := qz_ends hE88 (qzU_I (show qzU β ω from hU) hiB)
  have hz : qzS μ ω := qzS_tr hsB (show qzU β ω from hU).1
  rw [qzS_K hz] at he
  rw [hz.2.2, hz.2.1 33 (by decide) (by decide) (by decide) (by decide) (by decide)] at hend
  replace hend : (0 < rF ν88 ∧ μ88 = ν88) ∨ (rF ν88 = 0 ∧ μ88 = (xpi (xpl ν88 83 (μ.1 75 33).toInt.toNat (μ.2.1 81 (rT μ).toNat)) 75 33 (μ.1 75 33 + 1))) := hend
  have hq9 := qz_left (show qzU β ω from hU) he
  rcases hend with ⟨hf9, hm9⟩ | ⟨hf9, hm9⟩
  · rw [hm9] at h
    replace h : eT xq_224 _ 91 [some (.inr (.inl (some 75))), some (.inl k), some (.inl (μ.1 75 25)), some (.inl i)] [] ν88 r μ' := h
    replace h := tx_aload_n (p' := 92) h em224_91 rfl rfl
    replace h := tx_getf (c := 12) (j := 27) (p' := 95) h em224_92 ((congrFun xo_12 200).trans rfl) rfl rfl (by decide) rfl
    rcases tx_if (t := 111) (p' := 98) h em224_95 (by decide) rfl with ⟨c95, h⟩ | ⟨c95, h⟩
    · replace c95 : ¬ (ν88.1 75 27).toInt = 0 := c95
      obtain ⟨rfl, hμ⟩ := tx_return h em224_111
      exact ⟨rfl, ν88, hq9, Or.inl ⟨hf9, hμ⟩⟩
    · replace c95 : ¬ ¬ (ν88.1 75 27).toInt = 0 := c95
      replace h := tx_aload_n (p' := 99) h em224_98 rfl rfl
      replace h := tx_getc (c := 12) (j := 3) (p' := 102) h em224_99 ((congrFun xo_12 43).trans rfl) rfl rfl rfl
      replace h := tx_aload_n (p' := 103) h em224_102 rfl rfl
      replace h := tx_getf (c := 12) (j := 32) (p' := 106) h em224_103 ((congrFun xo_12 233).trans rfl) rfl rfl (by decide) rfl
      replace h := tx_dup2 (p' := 107) h em224_106 rfl
      obtain ⟨hb107, h⟩ := tx_iald (len := 2) (p' := 108) h em224_107 rfl rfl
      replace hb107 : 0 ≤ (ν88.1 75 32).toInt ∧ (ν88.1 75 32).toInt < 2 := hb107
      replace h := tx_iconst (v := 1) (p' := 109) h em224_108 (by decide +kernel) rfl
      replace h := tx_iadd (p' := 110) h em224_109 rfl
      obtain ⟨hb110, h⟩ := tx_iast (len := 2) (p' := 111) h em224_110 rfl rfl
      replace hb110 : 0 ≤ (ν88.1 75 32).toInt ∧ (ν88.1 75 32).toInt < 2 := hb110
      obtain ⟨rfl, hμ⟩ := tx_return h em224_111
      exfalso
      unfold rF at hf9
      omega
  · rw [hm9] at h
    replace h : eT xq_224 _ 91 [some (.inr (.inl (some 75))), some (.inl k), some (.inl (μ.1 75 25)), some (.inl i)] [] (xpi (xpl ν88 83 (μ.1 75 33).toInt.toNat (μ.2.1 81 (rT μ).toNat)) 75 33 (μ.1 75 33 + 1)) r μ' := h
    replace h := tx_aload_n (p' := 92) h em224_91 rfl rfl
    replace h := tx_getf (c := 12) (j := 27) (p' := 95) h em224_92 ((congrFun xo_12 200).trans rfl) rfl rfl (by decide) rfl
    replace h : eT xq_224 _ 95 [some (.inr (.inl (some 75))), some (.inl k), some (.inl (μ.1 75 25)), some (.inl i)] [.inl (ν88.1 75 27)] (xpi (xpl ν88 83 (μ.1 75 33).toInt.toNat (μ.2.1 81 (rT μ).toNat)) 75 33 (μ.1 75 33 + 1)) r μ' := h
    rcases tx_if (t := 111) (p' := 98) h em224_95 (by decide) rfl with ⟨c95_1, h⟩ | ⟨c95_1, h⟩
    · replace c95_1 : ¬ (ν88.1 75 27).toInt = 0 := c95_1
      obtain ⟨rfl, hμ⟩ := tx_return h em224_111
      exfalso
      unfold rF at hf9
      omega
    · replace c95_1 : ¬ ¬ (ν88.1 75 27).toInt = 0 := c95_1
      replace h := tx_aload_n (p' := 99) h em224_98 rfl rfl
      replace h := tx_getc (c := 12) (j := 3) (p' := 102) h em224_99 ((congrFun xo_12 43).trans rfl) rfl rfl rfl
      replace h := tx_aload_n (p' := 103) h em224_102 rfl rfl
      replace h := tx_getf (c := 12) (j := 32) (p' := 106) h em224_103 ((congrFun xo_12 233).trans rfl) rfl rfl (by decide) rfl
      replace h : eT xq_224 _ 106 [some (.inr (.inl (some 75))), some (.inl k), some (.inl (μ.1 75 25)), some (.inl i)] [.inl (ν88.1 75 32), .inr (.inl (some 84))] (xpi (xpl ν88 83 (μ.1 75 33).toInt.toNat (μ.2.1 81 (rT μ).toNat)) 75 33 (μ.1 75 33 + 1)) r μ' := h
      replace h := tx_dup2 (p' := 107) h em224_106 rfl
      obtain ⟨hb107_1, h⟩ := tx_iald (len := 2) (p' := 108) h em224_107 rfl rfl
      replace hb107_1 : 0 ≤ (ν88.1 75 32).toInt ∧ (ν88.1 75 32).toInt < 2 := hb107_1
      replace h : eT xq_224 _ 108 [some (.inr (.inl (some 75))), some (.inl k), some (.inl (μ.1 75 25)), some (.inl i)] [.inl (ν88.1 84 (ν88.1 75 32).toInt.toNat), .inl (ν88.1 75 32), .inr (.inl (some 84))] (xpi (xpl ν88 83 (μ.1 75 33).toInt.toNat (μ.2.1 81 (rT μ).toNat)) 75 33 (μ.1 75 33 + 1)) r μ' := h
      replace h := tx_iconst (v := 1) (p' := 109) h em224_108 (by decide +kernel) rfl
      replace h := tx_iadd (p' := 110) h em224_109 rfl
      obtain ⟨hb110_1, h⟩ := tx_iast (len := 2) (p' := 111) h em224_110 rfl rfl
      replace hb110_1 : 0 ≤ (ν88.1 75 32).toInt ∧ (ν88.1 75 32).toInt < 2 := hb110_1
      obtain ⟨rfl, hμ⟩ := tx_return h em224_111
      refine ⟨rfl, ν88, hq9, Or.inr ⟨hf9, ?_⟩⟩
      rw [hμ]
      have g1 : ν88.1 75 32 = μ.1 75 32 := (hq9.1.2.1 32 (by decide) (by decide) (by decide) (by decide) (by decide)).trans (hsB.2.1 32 (by decide) (by decide) (by decide) (by decide) (by decide))
      have g2 : ∀ j, ν88.1 84 j = μ.1 84 j := fun j => (hq9.1.1 84 j (by decide) (by decide)).trans (hsB.1 84 j (by decide) (by decide))
      unfold qzEnd rSd
      rw [g2, g1]
set_option maxRecDepth 10000 in
set_option maxHeartbeats 4000000 in
theorem house_55 {m : Int} {μ β μ' : xM} {r : Option zV} (hiB : qzI m β) (hsB : qzS μ β) : ∀ (n : Nat) (k i : Int32) (ω : xM), eT xq_224 n 55 [some (.inr (.inl (some 75))), some (.inl k), some (.inl (μ.1 75 25)), some (.inl i)] [] ω r μ' → qzU β ω → r = none ∧ ∃ ν, qzN m (pAcc (rK μ) 59) nN β ν ∧ ((0 < rF ν ∧ μ' = ν) ∨ (rF ν = 0 ∧ μ' = qzEnd ν μ 84 (rT μ))) := by
  intro n
  induction n using Nat.strongRecOn with
  | ind n ih =>
  intro k i ω h hU
  replace h := tx_iload_n (p' := 56) h em224_55 rfl rfl
  replace h := tx_aload_n (p' := 57) h em224_56 rfl rfl
  replace h := tx_getf (c := 12) (j := 53) (p' := 60) h em224_57 ((congrFun xo_12 284).trans rfl) rfl rfl (by decide) rfl
  rcases tx_icmp (t := 86) (p' := 63) h em224_60 (by decide) rfl with ⟨c60, h⟩ | ⟨c60, h⟩
  · replace c60 : (ω.1 75 53).toInt ≤ i.toInt := c60
    exact house_end hiB hsB _ _ _ _ h hU
  · replace c60 : ¬ (ω.1 75 53).toInt ≤ i.toInt := c60
    replace h := tx_aload_n (p' := 64) h em224_63 rfl rfl
    replace h := tx_getc (c := 12) (j := 35) (p' := 67) h em224_64 ((congrFun xo_12 46).trans rfl) rfl rfl rfl
    replace h := tx_iload_n (p' := 68) h em224_67 rfl rfl
    replace h := tx_aload_n (p' := 69) h em224_68 rfl rfl
    replace h := tx_getc (c := 12) (j := 52) (p' := 72) h em224_69 ((congrFun xo_12 101).trans rfl) rfl rfl rfl
    replace h := tx_iload_n (p' := 73) h em224_72 rfl rfl
    obtain ⟨hb73, h⟩ := tx_iald (len := 8) (p' := 74) h em224_73 rfl rfl
    replace hb73 : 0 ≤ i.toInt ∧ i.toInt < 8 := hb73
    replace h := tx_iadd (p' := 75) h em224_74 rfl
    replace h := tx_dup2 (p' := 76) h em224_75 rfl
    obtain ⟨hb76, h⟩ := tx_iald (len := 80) (p' := 77) h em224_76 rfl rfl
    replace hb76 : 0 ≤ (k + (ω.1 103 i.toInt.toNat)).toInt ∧ (k + (ω.1 103 i.toInt.toNat)).toInt < 80 := hb76
    replace h := tx_iconst (v := 1) (p' := 78) h em224_77 (by decide +kernel) rfl
    replace h := tx_iadd (p' := 79) h em224_78 rfl
    obtain ⟨hb79, h⟩ := tx_iast (len := 80) (p' := 80) h em224_79 rfl rfl
    replace hb79 : 0 ≤ (k + (ω.1 103 i.toInt.toNat)).toInt ∧ (k + (ω.1 103 i.toInt.toNat)).toInt < 80 := hb79
    replace h := tx_iinc (v := 1) (p' := 83) h em224_80 (by decide +kernel) rfl rfl
    replace h : eT xq_224 _ 83 [some (.inr (.inl (some 75))), some (.inl k), some (.inl (μ.1 75 25)), some (.inl (i + 1))] [] (xpi ω 85 (k + (ω.1 103 i.toInt.toNat)).toInt.toNat ((ω.1 85 (k + (ω.1 103 i.toInt.toNat)).toInt.toNat) + (1 : Int32))) r μ' := h
    obtain ⟨n2, hn2, h⟩ := tx_gotoS (t := 55) h em224_83 (by decide)
    exact ih n2 hn2 _ _ _ h (qzU_c hU (by decide))
set_option maxRecDepth 10000 in
set_option maxHeartbeats 4000000 in
theorem house_32 {m : Int} {μ β μ' : xM} {r : Option zV} (hiB : qzI m β) (hsB : qzS μ β) : ∀ (n : Nat) (k i : Int32) (ω : xM), eT xq_224 n 32 [some (.inr (.inl (some 75))), some (.inl k), some (.inl (μ.1 75 25)), some (.inl i)] [] ω r μ' → qzU β ω → r = none ∧ ∃ ν, qzN m (pAcc (rK μ) 59) nN β ν ∧ ((0 < rF ν ∧ μ' = ν) ∨ (rF ν = 0 ∧ μ' = qzEnd ν μ 84 (rT μ))) := by
  intro n
  induction n using Nat.strongRecOn with
  | ind n ih =>
  intro k i ω h hU
  replace h := tx_iload_n (p' := 33) h em224_32 rfl rfl
  replace h := tx_bipush (v := 8) (p' := 35) h em224_33 (by decide +kernel) rfl
  rcases tx_icmp (t := 53) (p' := 38) h em224_35 (by decide) rfl with ⟨c35, h⟩ | ⟨c35, h⟩
  · replace c35 : 8 ≤ i.toInt := c35
    replace h := tx_iconst (v := 0) (p' := 54) h em224_53 (by decide +kernel) rfl
    replace h := tx_istore_n (p' := 55) h em224_54 rfl
    replace h : eT xq_224 _ 55 [some (.inr (.inl (some 75))), some (.inl k), some (.inl (μ.1 75 25)), some (.inl (0 : Int32))] [] ω r μ' := h
    exact house_55 hiB hsB _ _ _ _ h hU
  · replace c35 : ¬ 8 ≤ i.toInt := c35
    replace h := tx_aload_n (p' := 39) h em224_38 rfl rfl
    replace h := tx_getc (c := 12) (j := 35) (p' := 42) h em224_39 ((congrFun xo_12 46).trans rfl) rfl rfl rfl
    replace h := tx_iload_n (p' := 43) h em224_42 rfl rfl
    replace h := tx_iload_n (p' := 44) h em224_43 rfl rfl
    replace h := tx_iadd (p' := 45) h em224_44 rfl
    replace h := tx_iconst (v := 0) (p' := 46) h em224_45 (by decide +kernel) rfl
    obtain ⟨hb46, h⟩ := tx_iast (len := 80) (p' := 47) h em224_46 rfl rfl
    replace hb46 : 0 ≤ (k + i).toInt ∧ (k + i).toInt < 80 := hb46
    replace h := tx_iinc (v := 1) (p' := 50) h em224_47 (by decide +kernel) rfl rfl
    replace h : eT xq_224 _ 50 [some (.inr (.inl (some 75))), some (.inl k), some (.inl (μ.1 75 25)), some (.inl (i + 1))] [] (xpi ω 85 (k + i).toInt.toNat (0 : Int32)) r μ' := h
    obtain ⟨n2, hn2, h⟩ := tx_gotoS (t := 32) h em224_50 (by decide)
    exact ih n2 hn2 _ _ _ h (qzU_c hU (by decide))
set_option maxRecDepth 10000 in
set_option maxHeartbeats 4000000 in
theorem qz_house {m : Int} {μ μ' : xM} {r : Option zV} (h0 : Ex gx xq_224 [.inr (.inl (some 75))] μ r μ') (hI : qzI m μ) : r = none ∧ ∃ ν, qzN m (pSeq (pAcc (rK μ) 2) (pSeq (pAcc (rK μ) 2) (pAcc (rK μ) 59))) (fun a w => nL μ (pAcc (rK μ) 2 a).1 (nM μ a w)) μ ν ∧ ((0 < rF ν ∧ μ' = ν) ∨ (rF ν = 0 ∧ μ' = qzEnd ν μ 84 (rT μ))) := by
  obtain ⟨n, h⟩ := tx_in (L := [some (.inr (.inl (some 75))), none, none, none]) h0 rfl
  replace h := tx_bipush (v := 40) (p' := 2) h em224_0 (by decide +kernel) rfl
  replace h := tx_aload_n (p' := 3) h em224_2 rfl rfl
  replace h := tx_getf (c := 12) (j := 32) (p' := 6) h em224_3 ((congrFun xo_12 233).trans rfl) rfl rfl (by decide) rfl
  replace h := tx_imul (p' := 7) h em224_6 rfl
  replace h := tx_bipush (v := 8) (p' := 9) h em224_7 (by decide +kernel) rfl
  replace h := tx_aload_n (p' := 10) h em224_9 rfl rfl
  replace h := tx_getc (c := 12) (j := 3) (p' := 13) h em224_10 ((congrFun xo_12 43).trans rfl) rfl rfl rfl
  replace h := tx_aload_n (p' := 14) h em224_13 rfl rfl
  replace h := tx_getf (c := 12) (j := 32) (p' := 17) h em224_14 ((congrFun xo_12 233).trans rfl) rfl rfl (by decide) rfl
  obtain ⟨hb17, h⟩ := tx_iald (len := 2) (p' := 18) h em224_17 rfl rfl
  replace hb17 : 0 ≤ (μ.1 75 32).toInt ∧ (μ.1 75 32).toInt < 2 := hb17
  replace h := tx_imul (p' := 19) h em224_18 rfl
  replace h := tx_iadd (p' := 20) h em224_19 rfl
  replace h := tx_istore_n (p' := 21) h em224_20 rfl
  replace h : eT xq_224 _ 21 [some (.inr (.inl (some 75))), some (.inl (((40 : Int32) * (μ.1 75 32)) + ((8 : Int32) * (μ.1 84 (μ.1 75 32).toInt.toNat)))), none, none] [] μ r μ' := h
  replace h := tx_aload_n (p' := 22) h em224_21 rfl rfl
  obtain ⟨r22, μ22, hE22, h⟩ := tx_invV (na := 1) (mn := 170) (as := [.inr (.inl (some 75))]) (rest := []) (p' := 25) h em224_22 ((congrFun xo_12 291).trans rfl) xm_170 rfl rfl
  obtain ⟨rfl, hqn⟩ := qz_named hE22 hI
  replace h : eT xq_224 _ 25 [some (.inr (.inl (some 75))), some (.inl (((40 : Int32) * (μ.1 75 32)) + ((8 : Int32) * (μ.1 84 (μ.1 75 32).toInt.toNat)))), none, none] [.inl (μ.1 75 25)] μ22 r μ' := h
  replace h := tx_istore_n (p' := 26) h em224_25 rfl
  replace h : eT xq_224 _ 26 [some (.inr (.inl (some 75))), some (.inl (((40 : Int32) * (μ.1 75 32)) + ((8 : Int32) * (μ.1 84 (μ.1 75 32).toInt.toNat)))), some (.inl (μ.1 75 25)), none] [] μ22 r μ' := h
  replace h := tx_aload_n (p' := 27) h em224_26 rfl rfl
  obtain ⟨r27, μ27, hE27, h⟩ := tx_invV (na := 1) (mn := 221) (as := [.inr (.inl (some 75))]) (rest := []) (p' := 30) h em224_27 ((congrFun xo_12 295).trans rfl) xm_221 rfl rfl
  obtain ⟨rfl, hqt⟩ := qz_takes hE27 hqn.2.2.2
  rw [qzS_K hqn.1, qzS_nL hqn.1] at hqt
  have hsB := qzS_tr hqn.1 hqt.1
  replace h : eT xq_224 _ 30 [some (.inr (.inl (some 75))), some (.inl (((40 : Int32) * (μ.1 75 32)) + ((8 : Int32) * (μ.1 84 (μ.1 75 32).toInt.toNat)))), some (.inl (μ.1 75 25)), none] [] μ27 r μ' := h
  replace h := tx_iconst (v := 0) (p' := 31) h em224_30 (by decide +kernel) rfl
  replace h := tx_istore_n (p' := 32) h em224_31 rfl
  replace h : eT xq_224 _ 32 [some (.inr (.inl (some 75))), some (.inl (((40 : Int32) * (μ.1 75 32)) + ((8 : Int32) * (μ.1 84 (μ.1 75 32).toInt.toNat)))), some (.inl (μ.1 75 25)), some (.inl (0 : Int32))] [] μ27 r μ' := h
  obtain ⟨e1, ν, e2, e3⟩ := house_32 hqt.2.2.2 hsB _ _ _ _ h qzU_rf
  exact ⟨e1, ν, qz_nn (qz_seq hqn (qz_seq hqt e2)) (fun _ _ => rfl), e3⟩
set_option maxRecDepth 10000 in
set_option maxHeartbeats 4000000 in
theorem verse_end {m : Int} {μ β μ' : xM} {r : Option zV} (hiB : qzI m β) (hsB : qzS μ β) : ∀ (n : Nat) (k i : Int32) (ω : xM), eT xq_225 n 70 [some (.inr (.inl (some 75))), some (.inl k), some (.inl (μ.1 75 25)), some (.inl i)] [] ω r μ' → qzU β ω → r = none ∧ ∃ ν, qzN m (pSeq (pAcc (rK μ) 3) (pSeq (pAcc (rK μ) 3) (pAcc (rK μ) 59))) (fun a w => nB μ 0 99 (pAcc (rK μ) 3 a).1 (nB μ 0 99 a w)) β ν ∧ ((0 < rF ν ∧ μ' = ν) ∨ (rF ν = 0 ∧ μ' = qzEnd ν μ 86 (rT μ))) := by
  intro n k i ω h hU
  replace h := tx_aload_n (p' := 71) h em225_70 rfl rfl
  replace h := tx_getc (c := 12) (j := 38) (p' := 74) h em225_71 ((congrFun xo_12 58).trans rfl) rfl rfl rfl
  replace h := tx_iload_n (p' := 75) h em225_74 rfl rfl
  replace h := tx_aload_n (p' := 76) h em225_75 rfl rfl
  replace h := tx_iconst (v := 0) (p' := 77) h em225_76 (by decide +kernel) rfl
  replace h := tx_bipush (v := 99) (p' := 79) h em225_77 (by decide +kernel) rfl
  obtain ⟨r79, μ79, hE79, h⟩ := tx_invV (na := 3) (mn := 124) (as := [.inr (.inl (some 75)), .inl (0 : Int32), .inl (99 : Int32)]) (rest := [.inl k, .inr (.inl (some 89))]) (p' := 82) h em225_79 ((congrFun xo_12 254).trans rfl) xm_124 rfl rfl
  obtain ⟨v79, rfl, hq79⟩ := qz_bounded hE79 (qzU_I (show qzU β ω from hU) hiB)
  rw [qzS_K (show qzU β ω from hU).1, qzS_K hsB, qzS_nB (show qzU β ω from hU).1, qzS_nB hsB] at hq79
  replace hq79 := qz_left (show qzU β ω from hU) hq79
  have hs79 := qzS_tr hsB hq79.1
  replace h : eT xq_225 _ 82 [some (.inr (.inl (some 75))), some (.inl k), some (.inl (μ.1 75 25)), some (.inl i)] [.inl v79, .inl k, .inr (.inl (some 89))] μ79 r μ' := h
  obtain ⟨hb82, h⟩ := tx_iast (len := 14) (p' := 83) h em225_82 rfl rfl
  replace hb82 : 0 ≤ k.toInt ∧ k.toInt < 14 := hb82
  replace h := tx_aload_n (p' := 84) h em225_83 rfl rfl
  replace h := tx_getc (c := 12) (j := 39) (p' := 87) h em225_84 ((congrFun xo_12 61).trans rfl) rfl rfl rfl
  replace h := tx_iload_n (p' := 88) h em225_87 rfl rfl
  replace h := tx_aload_n (p' := 89) h em225_88 rfl rfl
  replace h := tx_iconst (v := 0) (p' := 90) h em225_89 (by decide +kernel) rfl
  replace h := tx_bipush (v := 99) (p' := 92) h em225_90 (by decide +kernel) rfl
  obtain ⟨r92, μ92, hE92, h⟩ := tx_invV (na := 3) (mn := 124) (as := [.inr (.inl (some 75)), .inl (0 : Int32), .inl (99 : Int32)]) (rest := [.inl k, .inr (.inl (some 90))]) (p' := 95) h em225_92 ((congrFun xo_12 254).trans rfl) xm_124 rfl rfl
  obtain ⟨v92, rfl, hq92⟩ := qz_bounded hE92 (qzU_I (show qzU μ79 (xpi μ79 89 k.toInt.toNat v79) from (qzU_c qzU_rf (by decide))) hq79.2.2.2)
  rw [qzS_K (show qzU μ79 (xpi μ79 89 k.toInt.toNat v79) from (qzU_c qzU_rf (by decide))).1, qzS_K hs79, qzS_nB (show qzU μ79 (xpi μ79 89 k.toInt.toNat v79) from (qzU_c qzU_rf (by decide))).1, qzS_nB hs79] at hq92
  replace hq92 := qz_left (show qzU μ79 (xpi μ79 89 k.toInt.toNat v79) from (qzU_c qzU_rf (by decide))) hq92
  have hs92 := qzS_tr hs79 hq92.1
  replace h : eT xq_225 _ 95 [some (.inr (.inl (some 75))), some (.inl k), some (.inl (μ.1 75 25)), some (.inl i)] [.inl v92, .inl k, .inr (.inl (some 90))] μ92 r μ' := h
  obtain ⟨hb95, h⟩ := tx_iast (len := 14) (p' := 96) h em225_95 rfl rfl
  replace hb95 : 0 ≤ k.toInt ∧ k.toInt < 14 := hb95
  replace h := tx_aload_n (p' := 97) h em225_96 rfl rfl
  replace h := tx_iload_n (p' := 98) h em225_97 rfl rfl
  obtain ⟨r98, μ98, hE98, h⟩ := tx_invV (na := 2) (mn := 220) (as := [.inr (.inl (some 75)), .inl (μ.1 75 25)]) (rest := []) (p' := 101) h em225_98 ((congrFun xo_12 298).trans rfl) xm_220 rfl rfl
  obtain ⟨rfl, ν98, he, hend⟩ := qz_ends hE98 (qzU_I (show qzU μ92 (xpi μ92 90 k.toInt.toNat v92) from (qzU_c qzU_rf (by decide))) hq92.2.2.2)
  have hz : qzS μ (xpi μ92 90 k.toInt.toNat v92) := qzS_tr hs92 (show qzU μ92 (xpi μ92 90 k.toInt.toNat v92) from (qzU_c qzU_rf (by decide))).1
  rw [qzS_K hz] at he
  rw [hz.2.2, hz.2.1 33 (by decide) (by decide) (by decide) (by decide) (by decide)] at hend
  replace hend : (0 < rF ν98 ∧ μ98 = ν98) ∨ (rF ν98 = 0 ∧ μ98 = (xpi (xpl ν98 83 (μ.1 75 33).toInt.toNat (μ.2.1 81 (rT μ).toNat)) 75 33 (μ.1 75 33 + 1))) := hend
  have hq9 := qz_left (show qzU μ92 (xpi μ92 90 k.toInt.toNat v92) from (qzU_c qzU_rf (by decide))) he
  rcases hend with ⟨hf9, hm9⟩ | ⟨hf9, hm9⟩
  · rw [hm9] at h
    replace h : eT xq_225 _ 101 [some (.inr (.inl (some 75))), some (.inl k), some (.inl (μ.1 75 25)), some (.inl i)] [] ν98 r μ' := h
    replace h := tx_aload_n (p' := 102) h em225_101 rfl rfl
    replace h := tx_getf (c := 12) (j := 27) (p' := 105) h em225_102 ((congrFun xo_12 200).trans rfl) rfl rfl (by decide) rfl
    rcases tx_if (t := 121) (p' := 108) h em225_105 (by decide) rfl with ⟨c105, h⟩ | ⟨c105, h⟩
    · replace c105 : ¬ (ν98.1 75 27).toInt = 0 := c105
      obtain ⟨rfl, hμ⟩ := tx_return h em225_121
      exact ⟨rfl, ν98, (qz_nn (qz_seq hq79 (qz_seq hq92 hq9)) (fun _ _ => rfl)), Or.inl ⟨hf9, hμ⟩⟩
    · replace c105 : ¬ ¬ (ν98.1 75 27).toInt = 0 := c105
      replace h := tx_aload_n (p' := 109) h em225_108 rfl rfl
      replace h := tx_getc (c := 12) (j := 4) (p' := 112) h em225_109 ((congrFun xo_12 49).trans rfl) rfl rfl rfl
      replace h := tx_aload_n (p' := 113) h em225_112 rfl rfl
      replace h := tx_getf (c := 12) (j := 32) (p' := 116) h em225_113 ((congrFun xo_12 233).trans rfl) rfl rfl (by decide) rfl
      replace h := tx_dup2 (p' := 117) h em225_116 rfl
      obtain ⟨hb117, h⟩ := tx_iald (len := 2) (p' := 118) h em225_117 rfl rfl
      replace hb117 : 0 ≤ (ν98.1 75 32).toInt ∧ (ν98.1 75 32).toInt < 2 := hb117
      replace h := tx_iconst (v := 1) (p' := 119) h em225_118 (by decide +kernel) rfl
      replace h := tx_iadd (p' := 120) h em225_119 rfl
      obtain ⟨hb120, h⟩ := tx_iast (len := 2) (p' := 121) h em225_120 rfl rfl
      replace hb120 : 0 ≤ (ν98.1 75 32).toInt ∧ (ν98.1 75 32).toInt < 2 := hb120
      obtain ⟨rfl, hμ⟩ := tx_return h em225_121
      exfalso
      unfold rF at hf9
      omega
  · rw [hm9] at h
    replace h : eT xq_225 _ 101 [some (.inr (.inl (some 75))), some (.inl k), some (.inl (μ.1 75 25)), some (.inl i)] [] (xpi (xpl ν98 83 (μ.1 75 33).toInt.toNat (μ.2.1 81 (rT μ).toNat)) 75 33 (μ.1 75 33 + 1)) r μ' := h
    replace h := tx_aload_n (p' := 102) h em225_101 rfl rfl
    replace h := tx_getf (c := 12) (j := 27) (p' := 105) h em225_102 ((congrFun xo_12 200).trans rfl) rfl rfl (by decide) rfl
    replace h : eT xq_225 _ 105 [some (.inr (.inl (some 75))), some (.inl k), some (.inl (μ.1 75 25)), some (.inl i)] [.inl (ν98.1 75 27)] (xpi (xpl ν98 83 (μ.1 75 33).toInt.toNat (μ.2.1 81 (rT μ).toNat)) 75 33 (μ.1 75 33 + 1)) r μ' := h
    rcases tx_if (t := 121) (p' := 108) h em225_105 (by decide) rfl with ⟨c105_1, h⟩ | ⟨c105_1, h⟩
    · replace c105_1 : ¬ (ν98.1 75 27).toInt = 0 := c105_1
      obtain ⟨rfl, hμ⟩ := tx_return h em225_121
      exfalso
      unfold rF at hf9
      omega
    · replace c105_1 : ¬ ¬ (ν98.1 75 27).toInt = 0 := c105_1
      replace h := tx_aload_n (p' := 109) h em225_108 rfl rfl
      replace h := tx_getc (c := 12) (j := 4) (p' := 112) h em225_109 ((congrFun xo_12 49).trans rfl) rfl rfl rfl
      replace h := tx_aload_n (p' := 113) h em225_112 rfl rfl
      replace h := tx_getf (c := 12) (j := 32) (p' := 116) h em225_113 ((congrFun xo_12 233).trans rfl) rfl rfl (by decide) rfl
      replace h : eT xq_225 _ 116 [some (.inr (.inl (some 75))), some (.inl k), some (.inl (μ.1 75 25)), some (.inl i)] [.inl (ν98.1 75 32), .inr (.inl (some 86))] (xpi (xpl ν98 83 (μ.1 75 33).toInt.toNat (μ.2.1 81 (rT μ).toNat)) 75 33 (μ.1 75 33 + 1)) r μ' := h
      replace h := tx_dup2 (p' := 117) h em225_116 rfl
      obtain ⟨hb117_1, h⟩ := tx_iald (len := 2) (p' := 118) h em225_117 rfl rfl
      replace hb117_1 : 0 ≤ (ν98.1 75 32).toInt ∧ (ν98.1 75 32).toInt < 2 := hb117_1
      replace h : eT xq_225 _ 118 [some (.inr (.inl (some 75))), some (.inl k), some (.inl (μ.1 75 25)), some (.inl i)] [.inl (ν98.1 86 (ν98.1 75 32).toInt.toNat), .inl (ν98.1 75 32), .inr (.inl (some 86))] (xpi (xpl ν98 83 (μ.1 75 33).toInt.toNat (μ.2.1 81 (rT μ).toNat)) 75 33 (μ.1 75 33 + 1)) r μ' := h
      replace h := tx_iconst (v := 1) (p' := 119) h em225_118 (by decide +kernel) rfl
      replace h := tx_iadd (p' := 120) h em225_119 rfl
      obtain ⟨hb120_1, h⟩ := tx_iast (len := 2) (p' := 121) h em225_120 rfl rfl
      replace hb120_1 : 0 ≤ (ν98.1 75 32).toInt ∧ (ν98.1 75 32).toInt < 2 := hb120_1
      obtain ⟨rfl, hμ⟩ := tx_return h em225_121
      refine ⟨rfl, ν98, (qz_nn (qz_seq hq79 (qz_seq hq92 hq9)) (fun _ _ => rfl)), Or.inr ⟨hf9, ?_⟩⟩
      rw [hμ]
      have g1 : ν98.1 75 32 = μ.1 75 32 := (hq9.1.2.1 32 (by decide) (by decide) (by decide) (by decide) (by decide)).trans (hs92.2.1 32 (by decide) (by decide) (by decide) (by decide) (by decide))
      have g2 : ∀ j, ν98.1 86 j = μ.1 86 j := fun j => (hq9.1.1 86 j (by decide) (by decide)).trans (hs92.1 86 j (by decide) (by decide))
      unfold qzEnd rSd
      rw [g2, g1]
set_option maxRecDepth 10000 in
set_option maxHeartbeats 4000000 in
theorem verse_39 {m : Int} {μ β μ' : xM} {r : Option zV} (hiB : qzI m β) (hsB : qzS μ β) : ∀ (n : Nat) (k i : Int32) (ω : xM), eT xq_225 n 39 [some (.inr (.inl (some 75))), some (.inl k), some (.inl (μ.1 75 25)), some (.inl i)] [] ω r μ' → qzU β ω → r = none ∧ ∃ ν, qzN m (pSeq (pAcc (rK μ) 3) (pSeq (pAcc (rK μ) 3) (pAcc (rK μ) 59))) (fun a w => nB μ 0 99 (pAcc (rK μ) 3 a).1 (nB μ 0 99 a w)) β ν ∧ ((0 < rF ν ∧ μ' = ν) ∨ (rF ν = 0 ∧ μ' = qzEnd ν μ 86 (rT μ))) := by
  intro n
  induction n using Nat.strongRecOn with
  | ind n ih =>
  intro k i ω h hU
  replace h := tx_iload_n (p' := 40) h em225_39 rfl rfl
  replace h := tx_aload_n (p' := 41) h em225_40 rfl rfl
  replace h := tx_getf (c := 12) (j := 53) (p' := 44) h em225_41 ((congrFun xo_12 284).trans rfl) rfl rfl (by decide) rfl
  rcases tx_icmp (t := 70) (p' := 47) h em225_44 (by decide) rfl with ⟨c44, h⟩ | ⟨c44, h⟩
  · replace c44 : (ω.1 75 53).toInt ≤ i.toInt := c44
    exact verse_end hiB hsB _ _ _ _ h hU
  · replace c44 : ¬ (ω.1 75 53).toInt ≤ i.toInt := c44
    replace h := tx_aload_n (p' := 48) h em225_47 rfl rfl
    replace h := tx_getc (c := 12) (j := 37) (p' := 51) h em225_48 ((congrFun xo_12 55).trans rfl) rfl rfl rfl
    replace h := tx_bipush (v := 8) (p' := 53) h em225_51 (by decide +kernel) rfl
    replace h := tx_iload_n (p' := 54) h em225_53 rfl rfl
    replace h := tx_imul (p' := 55) h em225_54 rfl
    replace h := tx_iload_n (p' := 56) h em225_55 rfl rfl
    replace h := tx_iadd (p' := 57) h em225_56 rfl
    replace h := tx_aload_n (p' := 58) h em225_57 rfl rfl
    replace h := tx_getc (c := 12) (j := 52) (p' := 61) h em225_58 ((congrFun xo_12 101).trans rfl) rfl rfl rfl
    replace h := tx_iload_n (p' := 62) h em225_61 rfl rfl
    obtain ⟨hb62, h⟩ := tx_iald (len := 8) (p' := 63) h em225_62 rfl rfl
    replace hb62 : 0 ≤ i.toInt ∧ i.toInt < 8 := hb62
    obtain ⟨hb63, h⟩ := tx_iast (len := 112) (p' := 64) h em225_63 rfl rfl
    replace hb63 : 0 ≤ (((8 : Int32) * k) + i).toInt ∧ (((8 : Int32) * k) + i).toInt < 112 := hb63
    replace h := tx_iinc (v := 1) (p' := 67) h em225_64 (by decide +kernel) rfl rfl
    replace h : eT xq_225 _ 67 [some (.inr (.inl (some 75))), some (.inl k), some (.inl (μ.1 75 25)), some (.inl (i + 1))] [] (xpi ω 88 (((8 : Int32) * k) + i).toInt.toNat (ω.1 103 i.toInt.toNat)) r μ' := h
    obtain ⟨n2, hn2, h⟩ := tx_gotoS (t := 39) h em225_67 (by decide)
    exact ih n2 hn2 _ _ _ h (qzU_c hU (by decide))
set_option maxRecDepth 10000 in
set_option maxHeartbeats 4000000 in
theorem qz_verse {m : Int} {μ μ' : xM} {r : Option zV} (h0 : Ex gx xq_225 [.inr (.inl (some 75))] μ r μ') (hI : qzI m μ) : r = none ∧ ∃ ν, qzN m (pSeq (pAcc (rK μ) 2) (pSeq (pAcc (rK μ) 2) (pSeq (pAcc (rK μ) 3) (pSeq (pAcc (rK μ) 3) (pAcc (rK μ) 59))))) (fun a w => (fun a w => nB μ 0 99 (pAcc (rK μ) 3 a).1 (nB μ 0 99 a w)) (pAcc (rK μ) 2 (pAcc (rK μ) 2 a).1).1 (nL μ (pAcc (rK μ) 2 a).1 (nM μ a w))) μ ν ∧ ((0 < rF ν ∧ μ' = ν) ∨ (rF ν = 0 ∧ μ' = qzEnd ν μ 86 (rT μ))) := by
  obtain ⟨n, h⟩ := tx_in (L := [some (.inr (.inl (some 75))), none, none, none]) h0 rfl
  replace h := tx_bipush (v := 7) (p' := 2) h em225_0 (by decide +kernel) rfl
  replace h := tx_aload_n (p' := 3) h em225_2 rfl rfl
  replace h := tx_getf (c := 12) (j := 32) (p' := 6) h em225_3 ((congrFun xo_12 233).trans rfl) rfl rfl (by decide) rfl
  replace h := tx_imul (p' := 7) h em225_6 rfl
  replace h := tx_aload_n (p' := 8) h em225_7 rfl rfl
  replace h := tx_getc (c := 12) (j := 4) (p' := 11) h em225_8 ((congrFun xo_12 49).trans rfl) rfl rfl rfl
  replace h := tx_aload_n (p' := 12) h em225_11 rfl rfl
  replace h := tx_getf (c := 12) (j := 32) (p' := 15) h em225_12 ((congrFun xo_12 233).trans rfl) rfl rfl (by decide) rfl
  obtain ⟨hb15, h⟩ := tx_iald (len := 2) (p' := 16) h em225_15 rfl rfl
  replace hb15 : 0 ≤ (μ.1 75 32).toInt ∧ (μ.1 75 32).toInt < 2 := hb15
  replace h := tx_iadd (p' := 17) h em225_16 rfl
  replace h := tx_istore_n (p' := 18) h em225_17 rfl
  replace h : eT xq_225 _ 18 [some (.inr (.inl (some 75))), some (.inl (((7 : Int32) * (μ.1 75 32)) + (μ.1 86 (μ.1 75 32).toInt.toNat))), none, none] [] μ r μ' := h
  replace h := tx_aload_n (p' := 19) h em225_18 rfl rfl
  obtain ⟨r19, μ19, hE19, h⟩ := tx_invV (na := 1) (mn := 170) (as := [.inr (.inl (some 75))]) (rest := []) (p' := 22) h em225_19 ((congrFun xo_12 291).trans rfl) xm_170 rfl rfl
  obtain ⟨rfl, hqn⟩ := qz_named hE19 hI
  replace h : eT xq_225 _ 22 [some (.inr (.inl (some 75))), some (.inl (((7 : Int32) * (μ.1 75 32)) + (μ.1 86 (μ.1 75 32).toInt.toNat))), none, none] [.inl (μ.1 75 25)] μ19 r μ' := h
  replace h := tx_istore_n (p' := 23) h em225_22 rfl
  replace h : eT xq_225 _ 23 [some (.inr (.inl (some 75))), some (.inl (((7 : Int32) * (μ.1 75 32)) + (μ.1 86 (μ.1 75 32).toInt.toNat))), some (.inl (μ.1 75 25)), none] [] μ19 r μ' := h
  replace h := tx_aload_n (p' := 24) h em225_23 rfl rfl
  obtain ⟨r24, μ24, hE24, h⟩ := tx_invV (na := 1) (mn := 221) (as := [.inr (.inl (some 75))]) (rest := []) (p' := 27) h em225_24 ((congrFun xo_12 295).trans rfl) xm_221 rfl rfl
  obtain ⟨rfl, hqt⟩ := qz_takes hE24 hqn.2.2.2
  rw [qzS_K hqn.1, qzS_nL hqn.1] at hqt
  have hsB := qzS_tr hqn.1 hqt.1
  replace h : eT xq_225 _ 27 [some (.inr (.inl (some 75))), some (.inl (((7 : Int32) * (μ.1 75 32)) + (μ.1 86 (μ.1 75 32).toInt.toNat))), some (.inl (μ.1 75 25)), none] [] μ24 r μ' := h
  replace h := tx_aload_n (p' := 28) h em225_27 rfl rfl
  replace h := tx_getc (c := 12) (j := 36) (p' := 31) h em225_28 ((congrFun xo_12 52).trans rfl) rfl rfl rfl
  replace h := tx_iload_n (p' := 32) h em225_31 rfl rfl
  replace h := tx_aload_n (p' := 33) h em225_32 rfl rfl
  replace h := tx_getf (c := 12) (j := 53) (p' := 36) h em225_33 ((congrFun xo_12 284).trans rfl) rfl rfl (by decide) rfl
  obtain ⟨hb36, h⟩ := tx_iast (len := 14) (p' := 37) h em225_36 rfl rfl
  replace hb36 : 0 ≤ (((7 : Int32) * (μ.1 75 32)) + (μ.1 86 (μ.1 75 32).toInt.toNat)).toInt ∧ (((7 : Int32) * (μ.1 75 32)) + (μ.1 86 (μ.1 75 32).toInt.toNat)).toInt < 14 := hb36
  replace h := tx_iconst (v := 0) (p' := 38) h em225_37 (by decide +kernel) rfl
  replace h := tx_istore_n (p' := 39) h em225_38 rfl
  replace h : eT xq_225 _ 39 [some (.inr (.inl (some 75))), some (.inl (((7 : Int32) * (μ.1 75 32)) + (μ.1 86 (μ.1 75 32).toInt.toNat))), some (.inl (μ.1 75 25)), some (.inl (0 : Int32))] [] (xpi μ24 87 (((7 : Int32) * (μ.1 75 32)) + (μ.1 86 (μ.1 75 32).toInt.toNat)).toInt.toNat (μ24.1 75 53)) r μ' := h
  obtain ⟨e1, ν, e2, e3⟩ := verse_39 hqt.2.2.2 hsB _ _ _ _ h (qzU_c qzU_rf (by decide))
  exact ⟨e1, ν, qz_nn (qz_seq hqn (qz_seq hqt e2)) (fun _ _ => rfl), e3⟩
