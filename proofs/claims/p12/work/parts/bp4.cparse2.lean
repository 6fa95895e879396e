/-! ===== the class's parse: what it tells ===== -/
theorem pAcc_0 {K : Int → Int} {k a : Int} (h : (pAcc K k a).2 = 0) : K a = k ∧ (pAcc K k a).1 = a + 1 := by
  have e := pAcc_v (K := K) (k := k) (a := a) (b := (pAcc K k a).1) (by rw [← h])
  exact e
theorem pSeq_0 {f g : pP} {a : Int} (h : (pSeq f g a).2 = 0) : (f a).2 = 0 ∧ (g (f a).1).2 = 0 ∧ (pSeq f g a).1 = (g (f a).1).1 := by
  unfold pSeq at h ⊢
  by_cases q : (f a).2 = 0
  · rw [if_pos q] at h ⊢
    exact ⟨q, h, rfl⟩
  · rw [if_neg q] at h
    exact absurd h q
theorem tell_h0 {K : Int → Int} {h v a : Int} (hk : K a = 128) (hs : (pTell K h v a).2 = 0) : h ≤ 4 ∧ K (a + 1) = 2 ∧ K (a + 2) = 2 ∧ (pTell K h v a).1 = a + 4 := by
  by_cases hh : 5 ≤ h
  · rw [pTell_hf hk hh] at hs
    exact absurd (show (2 : Int) = 0 from hs) (by decide)
  · rw [pTell_h hk hh] at hs ⊢
    obtain ⟨x1, x2, x3⟩ := pSeq_0 hs
    have y1 := pAcc_0 x1
    rw [y1.2] at x2 x3
    obtain ⟨x4, x5, x6⟩ := pSeq_0 x2
    have y2 := pAcc_0 x4
    rw [y2.2] at x5 x6
    obtain ⟨x7, x8, x9⟩ := pSeq_0 x5
    have y3 := pAcc_0 x7
    rw [y3.2] at x8 x9
    have y4 := pAcc_0 x8
    refine ⟨by omega, y2.1, ?_, ?_⟩
    · rw [show a + 2 = a + 1 + 1 by omega]; exact y3.1
    · rw [x3, x6, x9, y4.2]; omega
theorem tell_v0 {K : Int → Int} {h v a : Int} (hk : K a = 129) (hs : (pTell K h v a).2 = 0) : v ≤ 6 ∧ K (a + 1) = 2 ∧ K (a + 2) = 2 ∧ K (a + 3) = 3 ∧ K (a + 4) = 3 ∧ (pTell K h v a).1 = a + 6 := by
  by_cases hh : 7 ≤ v
  · rw [pTell_vf hk hh] at hs
    exact absurd (show (2 : Int) = 0 from hs) (by decide)
  · rw [pTell_v hk hh] at hs ⊢
    obtain ⟨x1, x2, x3⟩ := pSeq_0 hs
    have y1 := pAcc_0 x1
    rw [y1.2] at x2 x3
    obtain ⟨x4, x5, x6⟩ := pSeq_0 x2
    have y2 := pAcc_0 x4
    rw [y2.2] at x5 x6
    obtain ⟨x7, x8, x9⟩ := pSeq_0 x5
    have y3 := pAcc_0 x7
    rw [y3.2] at x8 x9
    obtain ⟨x10, x11, x12⟩ := pSeq_0 x8
    have y4 := pAcc_0 x10
    rw [y4.2] at x11 x12
    obtain ⟨x13, x14, x15⟩ := pSeq_0 x11
    have y5 := pAcc_0 x13
    rw [y5.2] at x14 x15
    have y6 := pAcc_0 x14
    refine ⟨by omega, y2.1, ?_, ?_, ?_, ?_⟩
    · rw [show a + 2 = a + 1 + 1 by omega]; exact y3.1
    · rw [show a + 3 = a + 1 + 1 + 1 by omega]; exact y4.1
    · rw [show a + 4 = a + 1 + 1 + 1 + 1 by omega]; exact y5.1
    · rw [x3, x6, x9, x12, x15, y6.2]; omega
theorem tell_n0 {K : Int → Int} {h v a : Int} (hk : 134 ≤ K a ∧ K a ≤ 136) (hs : (pTell K h v a).2 = 0) : K (a + 1) = 3 ∧ (pTell K h v a).1 = a + 3 := by
  rw [pTell_n hk] at hs ⊢
  obtain ⟨x1, x2, x3⟩ := pSeq_0 hs
  have y1 := pAcc_0 x1
  rw [y1.2] at x2 x3
  obtain ⟨x4, x5, x6⟩ := pSeq_0 x2
  have y2 := pAcc_0 x4
  rw [y2.2] at x5 x6
  have y3 := pAcc_0 x5
  refine ⟨y2.1, ?_⟩
  rw [x3, x6, y3.2]; omega
theorem pLater_0 {K P : Int → Int} {sm : Int → Int → Bool} {lt : Int → Bool} {vl : Int → Int} {ns : List Int} {a : Int} {w : Int × Int} (h : (pLater K P sm lt vl ns a w).1 = 0) : w.1 = 0 ∧ (K a = 128 → lt (a + 2) = true) ∧ (K a = 129 → lt (a + 2) = true ∧ vl (a + 3) ≤ 99 ∧ vl (a + 4) ≤ 99) ∧ (K a = 134 → 1 ≤ vl (a + 1) ∧ vl (a + 1) ≤ 99) ∧ (K a = 135 → vl (a + 1) ≤ 100) := by
  have nt : ∀ {b : Bool}, (!b) = false → b = true := fun {b} q => by cases b with
    | false => cases q
    | true => rfl
  unfold pLater at h
  by_cases c1 : K a = 128
  · rw [if_pos c1] at h
    obtain ⟨g1, g2, -⟩ := wNote (by decide) h
    obtain ⟨g3, g4, -⟩ := wNote (by decide) g2
    exact ⟨g4, fun _ => nt g1, fun q => by omega, fun q => by omega, fun q => by omega⟩
  · rw [if_neg c1] at h
    by_cases c2 : K a = 129
    · rw [if_pos c2] at h
      obtain ⟨g1, g2, -⟩ := wNote (by decide) h
      obtain ⟨g3, g4, -⟩ := wNote (by decide) g2
      obtain ⟨g5, g6, -⟩ := wNote (by decide) g4
      obtain ⟨g7, g8, -⟩ := wNote (by decide) g6
      have h1 := of_decide_eq_false g1
      have h2 := of_decide_eq_false g3
      exact ⟨g8, fun q => by omega, fun _ => ⟨nt g5, by omega, by omega⟩, fun q => by omega, fun q => by omega⟩
    · rw [if_neg c2] at h
      by_cases c3 : K a = 134
      · rw [if_pos c3] at h
        obtain ⟨g1, g2, -⟩ := wNote (by decide) h
        have h1 := of_decide_eq_false g1
        exact ⟨g2, fun q => by omega, fun q => by omega, fun _ => by omega, fun q => by omega⟩
      · rw [if_neg c3] at h
        by_cases c4 : K a = 135
        · rw [if_pos c4] at h
          obtain ⟨g1, g2, -⟩ := wNote (by decide) h
          have h1 := of_decide_eq_false g1
          exact ⟨g2, fun q => by omega, fun q => by omega, fun q => by omega, fun _ => by omega⟩
        · rw [if_neg c4] at h
          exact ⟨h, fun q => by omega, fun q => by omega, fun q => by omega, fun q => by omega⟩
theorem pText_0 {K P : Int → Int} {sm : Int → Int → Bool} {lt : Int → Bool} {vl : Int → Int} : ∀ (n : Nat) (a h v : Int) (ns : List Int) (w : Int × Int), (pText K P sm lt vl n a h v ns w).1 = 0 → w.1 = 0
  | 0, a, h, v, ns, w, q => q
  | n + 1, a, h, v, ns, w, q => by
    unfold pText at q
    by_cases c1 : K a = 0
    · rw [if_pos c1] at q; exact q
    · rw [if_neg c1] at q
      by_cases c2 : (pTell K h v a).2 = 0
      · rw [if_pos c2] at q
        exact (pLater_0 (pText_0 n _ _ _ _ _ q)).1
      · rw [if_neg c2] at q
        exact absurd q c2
/-- what is told keeps its bounds -/
def kWf (S : kSt) : Prop := S.1.length ≤ 5 ∧ S.2.1.length ≤ 7 ∧ (∀ l, l ∈ S.1 → l.length ≤ 8 ∧ ∀ x, x ∈ l → 0 ≤ x ∧ x ≤ 7) ∧ (∀ v, v ∈ S.2.1 → (v.1.length ≤ 8 ∧ ∀ x, x ∈ v.1 → 0 ≤ x ∧ x ≤ 7) ∧ (0 ≤ v.2.1 ∧ v.2.1 ≤ 99) ∧ 0 ≤ v.2.2 ∧ v.2.2 ≤ 99) ∧ (1 ≤ S.2.2.1.1 ∧ S.2.2.1.1 ≤ 99) ∧ (0 ≤ S.2.2.1.2.1 ∧ S.2.2.1.2.1 ≤ 100) ∧ 0 ≤ S.2.2.1.2.2 ∧ S.2.2.1.2.2 ≤ 9999
theorem kWf_0 : kWf kS0 := ⟨Nat.zero_le _, Nat.zero_le _, fun l h => absurd h List.not_mem_nil, fun l h => absurd h List.not_mem_nil, by decide, by decide, by decide⟩
theorem kWf_V {S : kSt} (h : kWf S) (w : Nat) : (kV S w).1.length ≤ 8 ∧ (∀ x, x ∈ (kV S w).1 → 0 ≤ x ∧ x ≤ 7) ∧ (0 ≤ (kV S w).2.1 ∧ (kV S w).2.1 ≤ 99) ∧ 0 ≤ (kV S w).2.2 ∧ (kV S w).2.2 ≤ 99 := by
  unfold kV
  by_cases q : w < S.2.1.length
  · rw [List.getD_eq_getElem?_getD, List.getElem?_eq_getElem q]
    obtain ⟨h1, h2, h3⟩ := h.2.2.2.1 _ (List.getElem_mem q)
    exact ⟨h1.1, h1.2, h2, h3⟩
  · rw [List.getD_eq_getElem?_getD, List.getElem?_eq_none (by omega)]
    exact ⟨Nat.zero_le _, fun x hx => absurd hx List.not_mem_nil, by decide, by decide⟩
theorem kWf_s {K P : Int → Int} {sm : Int → Int → Bool} {ltb : Int → Bool} {lt : Int → List Int} {vl : Int → Int} {lw : Int → kLw} {ns : List Int} {a : Int} {w : Int × Int} {S : kSt} (hS : kWf S) (hs : (pTell K S.1.length S.2.1.length a).2 = 0) (hw : (pLater K P sm ltb vl ns a w).1 = 0) (hl : ∀ t, a ≤ t → t < (pTell K S.1.length S.2.1.length a).1 → K t = 2 → ltb t = true → (lt t).length ≤ 8 ∧ ∀ x, x ∈ lt t → 0 ≤ x ∧ x ≤ 7) (hv : ∀ t, a ≤ t → t < (pTell K S.1.length S.2.1.length a).1 → K t = 3 → 0 ≤ vl t ∧ vl t ≤ 9999) : kWf (kStep K lt vl lw a S) := by
  obtain ⟨w1, w2, w3, w4, w5, w6, w7⟩ := hS
  obtain ⟨-, p1, p2, p3, p4⟩ := pLater_0 hw
  unfold kStep
  by_cases c1 : K a = 128
  · rw [if_pos c1]
    obtain ⟨t1, t2, t3, t4⟩ := tell_h0 c1 hs
    have g := hl (a + 2) (by omega) (by omega) t3 (p1 c1)
    refine ⟨?_, w2, fun l hm => ?_, w4, w5, w6, w7⟩
    · show (S.1 ++ [lt (a + 2)]).length ≤ 5
      rw [List.length_append]
      have e1 : [lt (a + 2)].length = 1 := rfl
      omega
    · rcases List.mem_append.mp hm with hm | hm
      · exact w3 l hm
      · rw [List.mem_singleton.mp hm]; exact g
  · rw [if_neg c1]
    by_cases c2 : K a = 129
    · rw [if_pos c2]
      obtain ⟨t1, t2, t3, t4, t5, t6⟩ := tell_v0 c2 hs
      obtain ⟨q1, q2, q3⟩ := p2 c2
      have g := hl (a + 2) (by omega) (by omega) t3 q1
      have g3 := hv (a + 3) (by omega) (by omega) t4
      have g4 := hv (a + 4) (by omega) (by omega) t5
      refine ⟨w1, ?_, w3, fun l hm => ?_, w5, w6, w7⟩
      · show (S.2.1 ++ [(lt (a + 2), vl (a + 3), vl (a + 4))]).length ≤ 7
        rw [List.length_append]
        have e1 : [(lt (a + 2), vl (a + 3), vl (a + 4))].length = 1 := rfl
        omega
      · rcases List.mem_append.mp hm with hm | hm
        · exact w4 l hm
        · rw [List.mem_singleton.mp hm]; exact ⟨g, ⟨g3.1, q2⟩, g4.1, q3⟩
    · rw [if_neg c2]
      by_cases c3 : K a = 134
      · rw [if_pos c3]; exact ⟨w1, w2, w3, w4, p3 c3, w6, w7⟩
      · rw [if_neg c3]
        by_cases c4 : K a = 135
        · rw [if_pos c4]
          obtain ⟨t1, t2⟩ := tell_n0 (by omega) hs
          exact ⟨w1, w2, w3, w4, w5, ⟨(hv (a + 1) (by omega) (by omega) t1).1, p4 c4⟩, w7⟩
        · rw [if_neg c4]
          by_cases c5 : K a = 136
          · rw [if_pos c5]
            obtain ⟨t1, t2⟩ := tell_n0 (by omega) hs
            exact ⟨w1, w2, w3, w4, w5, w6, hv (a + 1) (by omega) (by omega) t1⟩
          · rw [if_neg c5]; exact ⟨w1, w2, w3, w4, w5, w6, w7⟩
/-- all of the script that is told but its laws stands -/
def sF (μ μ' : xM) : Prop := hOK μ' ∧ (∀ j, j < 5 → μ'.1 13 j = μ.1 13 j) ∧ ∀ k j, 14 ≤ k → k ≤ 19 → μ'.1 k j = μ.1 k j
noncomputable def sFB (W : hW) : Bool := (List.range 5).all (fun j => hpB W 13 j) && (List.range 6).all (fun k => hpA W (14 + k))
theorem sF_w {W : hW} {μ μ' : xM} (hk : sFB W = true) (h : hRm (hP W) (hQ W) μ μ') (hO : hOK μ) : sF μ μ' := by
  unfold sFB at hk
  rw [Bool.and_eq_true] at hk
  refine ⟨(h hO).1, fun j hj => hSt h hO (by decide) (List.all_eq_true.mp hk.1 j (List.mem_range.mpr hj)), fun k j h1 h2 => hSt h hO (by omega) (hpA_ok ?_ j)⟩
  have := List.all_eq_true.mp hk.2 (k - 14) (List.mem_range.mpr (by omega))
  rw [show 14 + (k - 14) = k by omega] at this
  exact this
theorem sF_tr {μ ν ω : xM} (h1 : sF μ ν) (h2 : sF ν ω) : sF μ ω := ⟨h2.1, fun j a => (h2.2.1 j a).trans (h1.2.1 j a), fun k j a b => (h2.2.2 k j a b).trans (h1.2.2 k j a b)⟩
theorem sF_C {S : kSt} {μ ν : xM} (h : sF μ ν) (hs : sC 13 S μ) : sC 13 S ν := by
  unfold sC
  simp only [h.2.1 0 (by decide), h.2.1 1 (by decide), h.2.1 2 (by decide), h.2.1 3 (by decide), h.2.1 4 (by decide), h.2.2 14 _ (by decide) (by decide), h.2.2 15 _ (by decide) (by decide), h.2.2 16 _ (by decide) (by decide), h.2.2 17 _ (by decide) (by decide), h.2.2 18 _ (by decide) (by decide), h.2.2 19 _ (by decide) (by decide)]
  exact hs
theorem j0y {Q : Prop} {j : Nat} (h : (j : Int) < (0 : Int32).toInt) : Q := by
  have e : (0 : Int32).toInt = 0 := by decide
  exfalso
  omega
theorem sC_law {c : Nat} {S : kSt} {f : Nat → Option kLw} {μ : xM} (hs : sC c S μ) : sC c (S.1, S.2.1, S.2.2.1, f) μ := hs
set_option maxRecDepth 10000 in
set_option maxHeartbeats 4000000 in
theorem fill2_14 {v : Int32} {μ μ' : xM} {r : Option zV} (h0 : Ex gx xq_207 [.inr (.inl (some 14)), .inl v] μ r μ') : ∀ j : Nat, j < 40 → μ'.1 14 j = v := by
  obtain ⟨n, h⟩ := tx_in (L := [some (.inr (.inl (some 14))), some (.inl v), none, none]) h0 rfl
  have e1i : (1 : Int32).toInt = 1 := by decide
  have loop : ∀ (n : Nat) (i m : Int32) (ω : xM), eT xq_207 n 5 [some (.inr (.inl (some 14))), some (.inl v), some (.inl i), some (.inl m)] [] ω r μ' → m.toInt = 40 → 0 ≤ i.toInt → i.toInt ≤ 40 → (∀ j : Nat, (j : Int) < i.toInt → ω.1 14 j = v) → ∀ j : Nat, j < 40 → μ'.1 14 j = v := by
    intro n
    induction n using Nat.strongRecOn with
    | ind n ih =>
    intro i m ω h hm hi0 hi1 hF
    replace h := tx_iload_n (p' := 6) h em207_5 rfl rfl
    replace h := tx_iload_n (p' := 7) h em207_6 rfl rfl
    rcases tx_icmp (t := 20) (p' := 10) h em207_7 (by decide) rfl with ⟨c7, h⟩ | ⟨c7, h⟩
    · replace c7 : m.toInt ≤ i.toInt := c7
      obtain ⟨rfl, hμ⟩ := tx_return h em207_20
      rw [hμ]
      exact fun j hj => hF j (by omega)
    · replace c7 : ¬ m.toInt ≤ i.toInt := c7
      replace h := tx_aload_n (p' := 11) h em207_10 rfl rfl
      replace h := tx_iload_n (p' := 12) h em207_11 rfl rfl
      replace h := tx_iload_n (p' := 13) h em207_12 rfl rfl
      obtain ⟨hb13, h⟩ := tx_iast (len := 40) (p' := 14) h em207_13 rfl rfl
      replace hb13 : (0 : Int) ≤ i.toInt ∧ i.toInt < 40 := hb13
      replace h := tx_iinc (v := 1) (p' := 17) h em207_14 (by decide +kernel) rfl rfl
      replace h : eT xq_207 _ 17 [some (.inr (.inl (some 14))), some (.inl v), some (.inl (i + 1)), some (.inl m)] [] (xpi ω 14 i.toInt.toNat v) r μ' := h
      obtain ⟨n2, hn2, h⟩ := tx_gotoS (t := 5) h em207_17 (by decide)
      have ei : (i + 1).toInt = i.toInt + 1 := by rw [an_add (by rw [e1i]; omega) (by rw [e1i]; omega), e1i]
      refine ih n2 hn2 _ _ _ h hm (by omega) (by omega) (fun j hj => ?_)
      by_cases q : j = i.toInt.toNat
      · rw [q, xpi_at]
      · rw [xpi_ne (fun z => q z.2)]
        exact hF j (by omega)
  replace h := tx_iconst (v := 0) (p' := 1) h em207_0 (by decide +kernel) rfl
  replace h := tx_istore_n (p' := 2) h em207_1 rfl
  replace h : eT xq_207 _ 2 [some (.inr (.inl (some 14))), some (.inl v), some (.inl (0 : Int32)), none] [] μ r μ' := h
  replace h := tx_aload_n (p' := 3) h em207_2 rfl rfl
  replace h := tx_alen (p' := 4) h em207_3 rfl rfl
  replace h := tx_istore_n (p' := 5) h em207_4 rfl
  replace h : eT xq_207 _ 5 [some (.inr (.inl (some 14))), some (.inl v), some (.inl (0 : Int32)), some (.inl (Int32.ofNat 40))] [] μ r μ' := h
  exact loop _ _ _ _ h (by decide) (by decide) (by decide) (fun j hj => j0y hj)
set_option maxRecDepth 10000 in
set_option maxHeartbeats 4000000 in
theorem fill2_19 {v : Int32} {μ μ' : xM} {r : Option zV} (h0 : Ex gx xq_207 [.inr (.inl (some 19)), .inl v] μ r μ') : ∀ j : Nat, j < 56 → μ'.1 19 j = v := by
  obtain ⟨n, h⟩ := tx_in (L := [some (.inr (.inl (some 19))), some (.inl v), none, none]) h0 rfl
  have e1i : (1 : Int32).toInt = 1 := by decide
  have loop : ∀ (n : Nat) (i m : Int32) (ω : xM), eT xq_207 n 5 [some (.inr (.inl (some 19))), some (.inl v), some (.inl i), some (.inl m)] [] ω r μ' → m.toInt = 56 → 0 ≤ i.toInt → i.toInt ≤ 56 → (∀ j : Nat, (j : Int) < i.toInt → ω.1 19 j = v) → ∀ j : Nat, j < 56 → μ'.1 19 j = v := by
    intro n
    induction n using Nat.strongRecOn with
    | ind n ih =>
    intro i m ω h hm hi0 hi1 hF
    replace h := tx_iload_n (p' := 6) h em207_5 rfl rfl
    replace h := tx_iload_n (p' := 7) h em207_6 rfl rfl
    rcases tx_icmp (t := 20) (p' := 10) h em207_7 (by decide) rfl with ⟨c7, h⟩ | ⟨c7, h⟩
    · replace c7 : m.toInt ≤ i.toInt := c7
      obtain ⟨rfl, hμ⟩ := tx_return h em207_20
      rw [hμ]
      exact fun j hj => hF j (by omega)
    · replace c7 : ¬ m.toInt ≤ i.toInt := c7
      replace h := tx_aload_n (p' := 11) h em207_10 rfl rfl
      replace h := tx_iload_n (p' := 12) h em207_11 rfl rfl
      replace h := tx_iload_n (p' := 13) h em207_12 rfl rfl
      obtain ⟨hb13, h⟩ := tx_iast (len := 56) (p' := 14) h em207_13 rfl rfl
      replace hb13 : (0 : Int) ≤ i.toInt ∧ i.toInt < 56 := hb13
      replace h := tx_iinc (v := 1) (p' := 17) h em207_14 (by decide +kernel) rfl rfl
      replace h : eT xq_207 _ 17 [some (.inr (.inl (some 19))), some (.inl v), some (.inl (i + 1)), some (.inl m)] [] (xpi ω 19 i.toInt.toNat v) r μ' := h
      obtain ⟨n2, hn2, h⟩ := tx_gotoS (t := 5) h em207_17 (by decide)
      have ei : (i + 1).toInt = i.toInt + 1 := by rw [an_add (by rw [e1i]; omega) (by rw [e1i]; omega), e1i]
      refine ih n2 hn2 _ _ _ h hm (by omega) (by omega) (fun j hj => ?_)
      by_cases q : j = i.toInt.toNat
      · rw [q, xpi_at]
      · rw [xpi_ne (fun z => q z.2)]
        exact hF j (by omega)
  replace h := tx_iconst (v := 0) (p' := 1) h em207_0 (by decide +kernel) rfl
  replace h := tx_istore_n (p' := 2) h em207_1 rfl
  replace h : eT xq_207 _ 2 [some (.inr (.inl (some 19))), some (.inl v), some (.inl (0 : Int32)), none] [] μ r μ' := h
  replace h := tx_aload_n (p' := 3) h em207_2 rfl rfl
  replace h := tx_alen (p' := 4) h em207_3 rfl rfl
  replace h := tx_istore_n (p' := 5) h em207_4 rfl
  replace h : eT xq_207 _ 5 [some (.inr (.inl (some 19))), some (.inl v), some (.inl (0 : Int32)), some (.inl (Int32.ofNat 56))] [] μ r μ' := h
  exact loop _ _ _ _ h (by decide) (by decide) (by decide) (fun j hj => j0y hj)
set_option maxRecDepth 10000 in
set_option maxHeartbeats 4000000 in
theorem ex_wipe2 {μ μ' : xM} {r : Option zV} (h0 : Ex gx xq_47 [.inr (.inl (some 13))] μ r μ') (hO : hOK μ) : hOK μ' ∧ sC 13 kS0 μ' := by
  obtain ⟨n, h⟩ := tx_in (L := [some (.inr (.inl (some 13)))]) h0 rfl
  replace h := tx_aload_n (p' := 1) h em47_0 rfl rfl
  replace h := tx_iconst (v := 0) (p' := 2) h em47_1 (by decide +kernel) rfl
  replace h := tx_putf (a := 13) (c := 6) (j := 0) (p' := 5) h em47_2 ((congrFun xo_7 44).trans rfl) rfl
  replace h := tx_aload_n (p' := 6) h em47_5 rfl rfl
  replace h := tx_iconst (v := 0) (p' := 7) h em47_6 (by decide +kernel) rfl
  replace h := tx_putf (a := 13) (c := 6) (j := 1) (p' := 10) h em47_7 ((congrFun xo_7 48).trans rfl) rfl
  replace h := tx_aload_n (p' := 11) h em47_10 rfl rfl
  replace h := tx_bipush (v := 20) (p' := 13) h em47_11 (by decide +kernel) rfl
  replace h := tx_putf (a := 13) (c := 6) (j := 4) (p' := 16) h em47_13 ((congrFun xo_7 51).trans rfl) rfl
  replace h := tx_aload_n (p' := 17) h em47_16 rfl rfl
  replace h := tx_iconst (v := 0) (p' := 18) h em47_17 (by decide +kernel) rfl
  replace h := tx_putf (a := 13) (c := 6) (j := 2) (p' := 21) h em47_18 ((congrFun xo_7 54).trans rfl) rfl
  replace h := tx_aload_n (p' := 22) h em47_21 rfl rfl
  replace h := tx_iconst (v := 0) (p' := 23) h em47_22 (by decide +kernel) rfl
  replace h := tx_putf (a := 13) (c := 6) (j := 3) (p' := 26) h em47_23 ((congrFun xo_7 57).trans rfl) rfl
  replace h := tx_aload_n (p' := 27) h em47_26 rfl rfl
  replace h := tx_getc (c := 6) (j := 5) (p' := 30) h em47_27 ((congrFun xo_7 13).trans rfl) rfl rfl rfl
  replace h := tx_iconst (v := 0) (p' := 31) h em47_30 (by decide +kernel) rfl
  obtain ⟨r31, μ31, hE31, h⟩ := tx_invS (na := 2) (mn := 207) (as := [.inr (.inl (some 14)), .inl (0 : Int32)]) (rest := []) (p' := 34) h em47_31 ((congrFun xo_7 60).trans rfl) xm_207 rfl rfl
  obtain ⟨rfl, hf31, hf312⟩ := fill_14 hE31
  have hz31 := fill2_14 hE31
  replace h : eT xq_47 _ 34 [some (.inr (.inl (some 13)))] [] μ31 r μ' := h
  replace h := tx_aload_n (p' := 35) h em47_34 rfl rfl
  replace h := tx_getc (c := 6) (j := 10) (p' := 38) h em47_35 ((congrFun xo_7 29).trans rfl) rfl rfl rfl
  replace h := tx_iconst (v := 0) (p' := 39) h em47_38 (by decide +kernel) rfl
  obtain ⟨r39, μ39, hE39, h⟩ := tx_invS (na := 2) (mn := 207) (as := [.inr (.inl (some 19)), .inl (0 : Int32)]) (rest := []) (p' := 42) h em47_39 ((congrFun xo_7 60).trans rfl) xm_207 rfl rfl
  obtain ⟨rfl, hf39, hf392⟩ := fill_19 hE39
  have hz39 := fill2_19 hE39
  replace h : eT xq_47 _ 42 [some (.inr (.inl (some 13)))] [] μ39 r μ' := h
  replace h := tx_aload_n (p' := 43) h em47_42 rfl rfl
  replace h := tx_iconst (v := 0) (p' := 44) h em47_43 (by decide +kernel) rfl
  replace h := tx_putf (a := 13) (c := 6) (j := 14) (p' := 47) h em47_44 ((congrFun xo_7 66).trans rfl) rfl
  replace h := tx_aload_n (p' := 48) h em47_47 rfl rfl
  replace h := tx_iconst (v := 0) (p' := 49) h em47_48 (by decide +kernel) rfl
  replace h := tx_iconst (v := 0) (p' := 50) h em47_49 (by decide +kernel) rfl
  replace h := tx_iconst (v := 1) (p' := 51) h em47_50 (by decide +kernel) rfl
  obtain ⟨r51, μ51, hE51, h⟩ := tx_invV (na := 4) (mn := 45) (as := [.inr (.inl (some 13)), .inl (0 : Int32), .inl (0 : Int32), .inl (1 : Int32)]) (rest := []) (p' := 54) h em47_51 ((congrFun xo_7 69).trans rfl) xm_45 rfl rfl
  have hl51 := sF_w (μ := (xpi μ39 13 14 (0 : Int32))) (by decide +kernel) (hf_45_0 hE51 (hEn0 (by decide)) (hOK_2 (hf392.trans (hf312.trans rfl)) hO)).2 (hOK_2 (hf392.trans (hf312.trans rfl)) hO)
  have er51 := ex_void [0, 1, 4, 5, 6, 9, 10, 11, 12, 13, 16, 17, 19, 20, 23, 24] (by decide +kernel) hE51
  subst er51
  replace h : eT xq_47 _ 54 [some (.inr (.inl (some 13)))] [] μ51 r μ' := h
  replace h := tx_aload_n (p' := 55) h em47_54 rfl rfl
  replace h := tx_iconst (v := 1) (p' := 56) h em47_55 (by decide +kernel) rfl
  replace h := tx_iconst (v := 0) (p' := 57) h em47_56 (by decide +kernel) rfl
  replace h := tx_iconst (v := 0) (p' := 58) h em47_57 (by decide +kernel) rfl
  obtain ⟨r58, μ58, hE58, h⟩ := tx_invV (na := 4) (mn := 45) (as := [.inr (.inl (some 13)), .inl (1 : Int32), .inl (0 : Int32), .inl (0 : Int32)]) (rest := []) (p' := 61) h em47_58 ((congrFun xo_7 69).trans rfl) xm_45 rfl rfl
  have hl58 := sF_w (μ := μ51) (by decide +kernel) (hf_45_0 hE58 (hEn0 (by decide)) hl51.1).2 hl51.1
  have er58 := ex_void [0, 1, 4, 5, 6, 9, 10, 11, 12, 13, 16, 17, 19, 20, 23, 24] (by decide +kernel) hE58
  subst er58
  replace h : eT xq_47 _ 61 [some (.inr (.inl (some 13)))] [] μ58 r μ' := h
  replace h := tx_aload_n (p' := 62) h em47_61 rfl rfl
  replace h := tx_iconst (v := 2) (p' := 63) h em47_62 (by decide +kernel) rfl
  replace h := tx_iconst (v := 0) (p' := 64) h em47_63 (by decide +kernel) rfl
  replace h := tx_iconst (v := 1) (p' := 65) h em47_64 (by decide +kernel) rfl
  obtain ⟨r65, μ65, hE65, h⟩ := tx_invV (na := 4) (mn := 45) (as := [.inr (.inl (some 13)), .inl (2 : Int32), .inl (0 : Int32), .inl (1 : Int32)]) (rest := []) (p' := 68) h em47_65 ((congrFun xo_7 69).trans rfl) xm_45 rfl rfl
  have hl65 := sF_w (μ := μ58) (by decide +kernel) (hf_45_0 hE65 (hEn0 (by decide)) hl58.1).2 hl58.1
  have er65 := ex_void [0, 1, 4, 5, 6, 9, 10, 11, 12, 13, 16, 17, 19, 20, 23, 24] (by decide +kernel) hE65
  subst er65
  replace h : eT xq_47 _ 68 [some (.inr (.inl (some 13)))] [] μ65 r μ' := h
  replace h := tx_aload_n (p' := 69) h em47_68 rfl rfl
  replace h := tx_iconst (v := 3) (p' := 70) h em47_69 (by decide +kernel) rfl
  replace h := tx_iconst (v := 1) (p' := 71) h em47_70 (by decide +kernel) rfl
  replace h := tx_iconst (v := 0) (p' := 72) h em47_71 (by decide +kernel) rfl
  obtain ⟨r72, μ72, hE72, h⟩ := tx_invV (na := 4) (mn := 45) (as := [.inr (.inl (some 13)), .inl (3 : Int32), .inl (1 : Int32), .inl (0 : Int32)]) (rest := []) (p' := 75) h em47_72 ((congrFun xo_7 69).trans rfl) xm_45 rfl rfl
  have hl72 := sF_w (μ := μ65) (by decide +kernel) (hf_45_0 hE72 (hEn0 (by decide)) hl65.1).2 hl65.1
  have er72 := ex_void [0, 1, 4, 5, 6, 9, 10, 11, 12, 13, 16, 17, 19, 20, 23, 24] (by decide +kernel) hE72
  subst er72
  replace h : eT xq_47 _ 75 [some (.inr (.inl (some 13)))] [] μ72 r μ' := h
  obtain ⟨rfl, hμ⟩ := tx_return h em47_75
  rw [hμ]
  have hl := sF_tr hl51 (sF_tr hl58 (sF_tr hl65 hl72))
  have e13 : ∀ j, j < 5 → μ72.1 13 j = (xpi (xpi (xpi (xpi (xpi μ 13 0 (0 : Int32)) 13 1 (0 : Int32)) 13 4 (20 : Int32)) 13 2 (0 : Int32)) 13 3 (0 : Int32)).1 13 j := fun j hj => by
    rw [hl.2.1 j hj, xpi_ne (fun q => by omega), hf39 13 j (by decide), hf31 13 j (by decide)]
  have e14 : ∀ j : Nat, j < 40 → μ72.1 14 j = 0 := fun j hj => by
    rw [hl.2.2 14 j (by decide) (by decide), xpi_ne (fun q => absurd q.1 (by decide)), hf39 14 j (by decide)]
    exact hz31 j hj
  have e19 : ∀ j : Nat, j < 56 → μ72.1 19 j = 0 := fun j hj => by
    rw [hl.2.2 19 j (by decide) (by decide), xpi_ne (fun q => absurd q.1 (by decide))]
    exact hz39 j hj
  refine ⟨hl.1, ⟨?_, ?_, ?_, ?_, ?_⟩, fun h l x y => ?_, fun w hw => absurd hw (Nat.not_lt_zero w), fun w l x y => ?_⟩
  · rw [e13 0 (by decide)]; rfl
  · rw [e13 1 (by decide)]; rfl
  · rw [e13 4 (by decide)]; rfl
  · rw [e13 2 (by decide)]; rfl
  · rw [e13 3 (by decide)]; rfl
  · rw [e14 _ (by omega)]; rfl
  · rw [e19 _ (by omega)]; rfl
/-- how the loop stands, with what is told: U in the end -/
def paJ (lw : Int → kLw) (i : Int) (U : kSt) (ν ω : xM) : Prop := (ω.1 12 4).toInt = 0 → hOK ω ∧ ∃ S, sC 13 S ω ∧ kWf S ∧ U = kText (cK ν) (cT ν) (cV ν) lw (401 - i).toNat (cA ω) (cH ω) (cU ω) S
def kpQ (U : kSt) (μ' : xM) : Prop := hOK μ' ∧ sC 13 U μ' ∧ kWf U
theorem cT_ok {μ : xM} {E t : Int} (ht : cTV μ E) (h0 : 0 ≤ t) (h1 : t ≤ E) (hk : cK μ t = 2) (hl : cL μ t) : (cT μ t).length ≤ 8 ∧ ∀ x, x ∈ cT μ t → 0 ≤ x ∧ x ≤ 7 := by
  obtain ⟨g1, g2, g3⟩ := (ht.2.2 t h0 h1).2.2 hk
  unfold cT
  refine ⟨by rw [List.length_map, List.length_range]; omega, fun x hx => ?_⟩
  obtain ⟨i, hi, rfl⟩ := List.mem_map.mp hx
  have hi := List.mem_range.mp hi
  have h2 := hl i (by omega)
  have h3 : 97 ≤ cB μ t i ∧ cB μ t i ≤ 122 := g3 i (by omega)
  omega
theorem paJ_s {lw : Int → kLw} {E i : Int} {T : Int × Int} {U : kSt} {ν ω ω' : xM} (hT : T.1 = 0) (h : paI E i T ν ω) (h0 : (ω.1 12 4).toInt = 0) (hk : ¬ cK ω (cA ω) = 0) (ho : oT E ω ω') (hJ : paJ lw i U ν ω) (hc : (pTell (cK ω) (cH ω) (cU ω) (cA ω)).2 = 0 → (pLater (cK ω) (cP ω) (cm ω) (cl ω) (cV ω) (cN ω) (cA ω) (cW ω)).1 = 0 → ∀ S, sC 13 S ω → kWf S → sC 13 (kStep (cK ω) (cT ω) (cV ω) lw (cA ω) S) ω' ∧ hOK ω') : paJ lw (i + 1) U ν ω' := by
  intro hf
  have hn := paI_s h h0 hk ho
  obtain ⟨hO, S, s1, s2, s3⟩ := hJ h0
  obtain ⟨o1, o2, o3⟩ := ho
  obtain ⟨g1, g2, g3⟩ := h
  obtain ⟨n1, n2, n3⟩ := hn
  have hsc : (pTell (cK ω) (cH ω) (cU ω) (cA ω)).2 = 0 := by
    rcases o2 with ⟨b1, -⟩ | ⟨b1, b2, -⟩
    · exact b1
    · exact absurd (b2.symm.trans hf) b1
  obtain ⟨c1, c2, c3, c4, c5⟩ := o3 hsc
  have hw0 : (cW ω').1 = 0 := by
    rcases n3 with ⟨-, -, -, -, -, -, a7⟩ | ⟨a1, -⟩
    · rw [a7] at hT
      exact pText_0 _ _ _ _ _ _ hT
    · exact absurd hf a1
  rw [c2] at hw0
  obtain ⟨d1, d2⟩ := hc hsc hw0 S s1 s2
  have hA : 0 ≤ cA ω ∧ cA ω ≤ E ∧ 0 ≤ i ∧ i ≤ cA ω := by
    rcases g3 with ⟨-, -, a3, a4, a5, a6, -⟩ | ⟨a1, -⟩
    · exact ⟨a3, a4, a5, a6⟩
    · exact absurd h0 a1
  have hA' : cA ω' ≤ E ∧ cA ω' = (pTell (cK ω) (cH ω) (cU ω) (cA ω)).1 := by
    rcases o2 with ⟨-, -, b3, b4, -⟩ | ⟨b1, -⟩
    · exact ⟨b3, b4⟩
    · exact absurd hsc b1
  have eH : cH ω = (S.1.length : Int) := s1.1.1
  have eU : cU ω = (S.2.1.length : Int) := s1.1.2.1
  refine ⟨d2, _, d1, ?_, ?_⟩
  · rw [eH, eU] at hsc
    refine kWf_s s2 hsc hw0 (fun t t0 t1 tk tl => ?_) (fun t t0 t1 tk => ?_)
    · rw [← eH, ← eU, ← hA'.2] at t1
      exact cT_ok g2 (by omega) (by omega) tk (bl2_t.mp tl)
    · rw [← eH, ← eU, ← hA'.2] at t1
      exact int4 g2 (by omega) (by omega) tk
  · have hE := g2.1
    rw [s3, show (401 - i).toNat = (401 - (i + 1)).toNat + 1 by omega, ← gE_K g1, ← gE_cT g1, ← gE_V g1]
    show (if cK ω (cA ω) = 0 then S else if (pTell (cK ω) (cH ω) (cU ω) (cA ω)).2 = 0 then kText _ _ _ _ _ _ _ _ _ else S) = _
    rw [if_neg hk, if_pos hsc, c3, c4, hA'.2]
set_option maxRecDepth 10000 in
set_option maxHeartbeats 4000000 in
theorem kpa_house {lw : Int → kLw} {U : kSt} {E : Int} {T : Int × Int} {ν μ' : xM} {r : Option zV} {n : Int32} {m : Nat} (hT : T.1 = 0) (ih : ∀ m2, m2 < m → ∀ (i : Int32) (ω : xM), eT xq_16 m2 41 [some (.inr (.inl (some 12))), some (.inl n), some (.inl i)] [] ω r μ' → paI E i.toInt T ν ω → paJ lw i.toInt U ν ω → kpQ U μ') {i : Int32} {ω : xM} (hI : paI E i.toInt T ν ω) (hJ : paJ lw i.toInt U ν ω) (h0 : (ω.1 12 4).toInt = 0) (hk0 : ¬ cK ω (cA ω) = 0) (hkk : cK ω (cA ω) = 128) (h : eT xq_16 m 66 [some (.inr (.inl (some 12))), some (.inl n), some (.inl i)] [.inl (ω.1 24 (cA ω).toNat)] ω r μ') : kpQ U μ' := by
  have e1i : (1 : Int32).toInt = 1 := by decide
  have hA : cA ω ≤ 400 ∧ (0 ≤ cA ω ∧ cA ω ≤ E ∧ nmI E ω ∧ cTV ω E ∧ 0 ≤ i.toInt ∧ i.toInt ≤ cA ω) := by
    obtain ⟨g1, g2, g3⟩ := hI
    rcases g3 with ⟨a1, a2, a3, a4, a5, a6, a7⟩ | ⟨a1, -⟩
    · have := g2.1
      exact ⟨by omega, a3, a4, a2, g2, a5, a6⟩
    · exact absurd h0 a1
  obtain ⟨hA, hA0, hAE, hnm, htv, hi0, hiA⟩ := hA
  have hi9 := hA
  obtain ⟨hO, -⟩ := hJ h0
  have hx : (ω.1 24 (cA ω).toNat).toInt = cK ω (cA ω) := rfl
  obtain ⟨t9, ht9, h⟩ := tx_tsw h em16_66
  have e9 : t9 = 116 := by
    have := tsw_k ht9 (k := 0) (off := 50) rfl (by omega) (by omega)
    omega
  subst e9
  replace h : eT xq_16 _ 116 [some (.inr (.inl (some 12))), some (.inl n), some (.inl i)] [] ω r μ' := h
  replace h := tx_aload_n (p' := 117) h em16_116 rfl rfl
  obtain ⟨r117, μ117, hE117, h⟩ := tx_invV (na := 1) (mn := 17) (as := [.inr (.inl (some 12))]) (rest := []) (p' := 120) h em16_117 ((congrFun xo_3 57).trans rfl) xm_17 rfl rfl
  obtain ⟨rfl, ho⟩ := ex_house hE117 hA0 hAE htv hnm hkk
  have hc := fun (hs : (pTell (cK ω) (cH ω) (cU ω) (cA ω)).2 = 0) (_ : (pLater (cK ω) (cP ω) (cm ω) (cl ω) (cV ω) (cN ω) (cA ω) (cW ω)).1 = 0) S (hC : sC 13 S ω) (_ : kWf S) => And.intro (kc_house (lw := lw) hE117 hA0 hAE htv hnm hO hs hC hkk (tell_h0 hkk hs).1) ((hf_17_0 hE117 (hEn0 (by decide)) hO).2 hO).1
  replace h : eT xq_16 _ 120 [some (.inr (.inl (some 12))), some (.inl n), some (.inl i)] [] μ117 r μ' := h
  replace h := tx_goto (t := 179) h em16_120 (by decide)
  replace h := tx_iinc (v := 1) (p' := 182) h em16_179 (by decide +kernel) rfl rfl
  replace h : eT xq_16 _ 182 [some (.inr (.inl (some 12))), some (.inl n), some (.inl (i + 1))] [] μ117 r μ' := h
  obtain ⟨n2, hn2, h⟩ := tx_gotoS (t := 41) h em16_182 (by decide)
  have hi1 : (i + 1).toInt = i.toInt + 1 := by rw [an_add (by rw [e1i]; omega) (by rw [e1i]; omega), e1i]
  refine ih n2 hn2 _ _ h ?_ ?_
  · rw [hi1]
    exact paI_s hI h0 hk0 ho
  · rw [hi1]
    exact paJ_s hT hI h0 hk0 ho hJ hc
set_option maxRecDepth 10000 in
set_option maxHeartbeats 4000000 in
theorem kpa_verse {lw : Int → kLw} {U : kSt} {E : Int} {T : Int × Int} {ν μ' : xM} {r : Option zV} {n : Int32} {m : Nat} (hT : T.1 = 0) (ih : ∀ m2, m2 < m → ∀ (i : Int32) (ω : xM), eT xq_16 m2 41 [some (.inr (.inl (some 12))), some (.inl n), some (.inl i)] [] ω r μ' → paI E i.toInt T ν ω → paJ lw i.toInt U ν ω → kpQ U μ') {i : Int32} {ω : xM} (hI : paI E i.toInt T ν ω) (hJ : paJ lw i.toInt U ν ω) (h0 : (ω.1 12 4).toInt = 0) (hk0 : ¬ cK ω (cA ω) = 0) (hkk : cK ω (cA ω) = 129) (h : eT xq_16 m 66 [some (.inr (.inl (some 12))), some (.inl n), some (.inl i)] [.inl (ω.1 24 (cA ω).toNat)] ω r μ') : kpQ U μ' := by
  have e1i : (1 : Int32).toInt = 1 := by decide
  have hA : cA ω ≤ 400 ∧ (0 ≤ cA ω ∧ cA ω ≤ E ∧ nmI E ω ∧ cTV ω E ∧ 0 ≤ i.toInt ∧ i.toInt ≤ cA ω) := by
    obtain ⟨g1, g2, g3⟩ := hI
    rcases g3 with ⟨a1, a2, a3, a4, a5, a6, a7⟩ | ⟨a1, -⟩
    · have := g2.1
      exact ⟨by omega, a3, a4, a2, g2, a5, a6⟩
    · exact absurd h0 a1
  obtain ⟨hA, hA0, hAE, hnm, htv, hi0, hiA⟩ := hA
  have hi9 := hA
  obtain ⟨hO, -⟩ := hJ h0
  have hx : (ω.1 24 (cA ω).toNat).toInt = cK ω (cA ω) := rfl
  obtain ⟨t9, ht9, h⟩ := tx_tsw h em16_66
  have e9 : t9 = 123 := by
    have := tsw_k ht9 (k := 1) (off := 57) rfl (by omega) (by omega)
    omega
  subst e9
  replace h : eT xq_16 _ 123 [some (.inr (.inl (some 12))), some (.inl n), some (.inl i)] [] ω r μ' := h
  replace h := tx_aload_n (p' := 124) h em16_123 rfl rfl
  obtain ⟨r124, μ124, hE124, h⟩ := tx_invV (na := 1) (mn := 20) (as := [.inr (.inl (some 12))]) (rest := []) (p' := 127) h em16_124 ((congrFun xo_3 60).trans rfl) xm_20 rfl rfl
  obtain ⟨rfl, ho⟩ := ex_verse hE124 hA0 hAE htv hnm hkk
  have hc := fun (hs : (pTell (cK ω) (cH ω) (cU ω) (cA ω)).2 = 0) (hw : (pLater (cK ω) (cP ω) (cm ω) (cl ω) (cV ω) (cN ω) (cA ω) (cW ω)).1 = 0) S (hC : sC 13 S ω) (hW : kWf S) => And.intro (kc_verse (lw := lw) hE124 hA0 hAE htv hnm hO hs hC hkk (tell_v0 hkk hs).1 (fun w => (kWf_V hW w).1) (bl2_t.mp ((pLater_0 hw).2.2.1 hkk).1)) ((hf_20_0 hE124 (hEn0 (by decide)) hO).2 hO).1
  replace h : eT xq_16 _ 127 [some (.inr (.inl (some 12))), some (.inl n), some (.inl i)] [] μ124 r μ' := h
  replace h := tx_goto (t := 179) h em16_127 (by decide)
  replace h := tx_iinc (v := 1) (p' := 182) h em16_179 (by decide +kernel) rfl rfl
  replace h : eT xq_16 _ 182 [some (.inr (.inl (some 12))), some (.inl n), some (.inl (i + 1))] [] μ124 r μ' := h
  obtain ⟨n2, hn2, h⟩ := tx_gotoS (t := 41) h em16_182 (by decide)
  have hi1 : (i + 1).toInt = i.toInt + 1 := by rw [an_add (by rw [e1i]; omega) (by rw [e1i]; omega), e1i]
  refine ih n2 hn2 _ _ h ?_ ?_
  · rw [hi1]
    exact paI_s hI h0 hk0 ho
  · rw [hi1]
    exact paJ_s hT hI h0 hk0 ho hJ hc
set_option maxRecDepth 10000 in
set_option maxHeartbeats 4000000 in
theorem kpa_law0 {lw : Int → kLw} {U : kSt} {E : Int} {T : Int × Int} {ν μ' : xM} {r : Option zV} {n : Int32} {m : Nat} (hT : T.1 = 0) (ih : ∀ m2, m2 < m → ∀ (i : Int32) (ω : xM), eT xq_16 m2 41 [some (.inr (.inl (some 12))), some (.inl n), some (.inl i)] [] ω r μ' → paI E i.toInt T ν ω → paJ lw i.toInt U ν ω → kpQ U μ') {i : Int32} {ω : xM} (hI : paI E i.toInt T ν ω) (hJ : paJ lw i.toInt U ν ω) (h0 : (ω.1 12 4).toInt = 0) (hk0 : ¬ cK ω (cA ω) = 0) (hkk : cK ω (cA ω) = 130) (h : eT xq_16 m 66 [some (.inr (.inl (some 12))), some (.inl n), some (.inl i)] [.inl (ω.1 24 (cA ω).toNat)] ω r μ') : kpQ U μ' := by
  have e1i : (1 : Int32).toInt = 1 := by decide
  have hA : cA ω ≤ 400 ∧ (0 ≤ cA ω ∧ cA ω ≤ E ∧ nmI E ω ∧ cTV ω E ∧ 0 ≤ i.toInt ∧ i.toInt ≤ cA ω) := by
    obtain ⟨g1, g2, g3⟩ := hI
    rcases g3 with ⟨a1, a2, a3, a4, a5, a6, a7⟩ | ⟨a1, -⟩
    · have := g2.1
      exact ⟨by omega, a3, a4, a2, g2, a5, a6⟩
    · exact absurd h0 a1
  obtain ⟨hA, hA0, hAE, hnm, htv, hi0, hiA⟩ := hA
  have hi9 := hA
  obtain ⟨hO, -⟩ := hJ h0
  have hx : (ω.1 24 (cA ω).toNat).toInt = cK ω (cA ω) := rfl
  obtain ⟨t9, ht9, h⟩ := tx_tsw h em16_66
  have e9 : t9 = 130 := by
    have := tsw_k ht9 (k := 2) (off := 64) rfl (by omega) (by omega)
    omega
  subst e9
  replace h : eT xq_16 _ 130 [some (.inr (.inl (some 12))), some (.inl n), some (.inl i)] [] ω r μ' := h
  replace h := tx_aload_n (p' := 131) h em16_130 rfl rfl
  replace h := tx_iconst (v := 0) (p' := 132) h em16_131 (by decide +kernel) rfl
  obtain ⟨r132, μ132, hE132, h⟩ := tx_invV (na := 2) (mn := 18) (as := [.inr (.inl (some 12)), .inl (0 : Int32)]) (rest := []) (p' := 135) h em16_132 ((congrFun xo_3 63).trans rfl) xm_18 rfl rfl
  have ho := oT_law (by omega) hnm (ex_law hE132 hA0 hAE htv (by omega))
  have er : r132 = none := ex_law_n hE132
  subst er
  have hsf := sF_w (by decide +kernel) (hf_18_0 hE132 (hEn0 (by decide)) hO).2 hO
  have hc := fun (_ : (pTell (cK ω) (cH ω) (cU ω) (cA ω)).2 = 0) (_ : (pLater (cK ω) (cP ω) (cm ω) (cl ω) (cV ω) (cN ω) (cA ω) (cW ω)).1 = 0) S (hC : sC 13 S ω) (_ : kWf S) => And.intro (show sC 13 (kStep (cK ω) (cT ω) (cV ω) lw (cA ω) S) μ132 by
    unfold kStep
    rw [if_neg (by omega), if_neg (by omega), if_neg (by omega), if_neg (by omega), if_neg (by omega)]
    exact sC_law (sF_C hsf hC)) hsf.1
  replace h : eT xq_16 _ 135 [some (.inr (.inl (some 12))), some (.inl n), some (.inl i)] [] μ132 r μ' := h
  replace h := tx_goto (t := 179) h em16_135 (by decide)
  replace h := tx_iinc (v := 1) (p' := 182) h em16_179 (by decide +kernel) rfl rfl
  replace h : eT xq_16 _ 182 [some (.inr (.inl (some 12))), some (.inl n), some (.inl (i + 1))] [] μ132 r μ' := h
  obtain ⟨n2, hn2, h⟩ := tx_gotoS (t := 41) h em16_182 (by decide)
  have hi1 : (i + 1).toInt = i.toInt + 1 := by rw [an_add (by rw [e1i]; omega) (by rw [e1i]; omega), e1i]
  refine ih n2 hn2 _ _ h ?_ ?_
  · rw [hi1]
    exact paI_s hI h0 hk0 ho
  · rw [hi1]
    exact paJ_s hT hI h0 hk0 ho hJ hc
set_option maxRecDepth 10000 in
set_option maxHeartbeats 4000000 in
theorem kpa_law1 {lw : Int → kLw} {U : kSt} {E : Int} {T : Int × Int} {ν μ' : xM} {r : Option zV} {n : Int32} {m : Nat} (hT : T.1 = 0) (ih : ∀ m2, m2 < m → ∀ (i : Int32) (ω : xM), eT xq_16 m2 41 [some (.inr (.inl (some 12))), some (.inl n), some (.inl i)] [] ω r μ' → paI E i.toInt T ν ω → paJ lw i.toInt U ν ω → kpQ U μ') {i : Int32} {ω : xM} (hI : paI E i.toInt T ν ω) (hJ : paJ lw i.toInt U ν ω) (h0 : (ω.1 12 4).toInt = 0) (hk0 : ¬ cK ω (cA ω) = 0) (hkk : cK ω (cA ω) = 131) (h : eT xq_16 m 66 [some (.inr (.inl (some 12))), some (.inl n), some (.inl i)] [.inl (ω.1 24 (cA ω).toNat)] ω r μ') : kpQ U μ' := by
  have e1i : (1 : Int32).toInt = 1 := by decide
  have hA : cA ω ≤ 400 ∧ (0 ≤ cA ω ∧ cA ω ≤ E ∧ nmI E ω ∧ cTV ω E ∧ 0 ≤ i.toInt ∧ i.toInt ≤ cA ω) := by
    obtain ⟨g1, g2, g3⟩ := hI
    rcases g3 with ⟨a1, a2, a3, a4, a5, a6, a7⟩ | ⟨a1, -⟩
    · have := g2.1
      exact ⟨by omega, a3, a4, a2, g2, a5, a6⟩
    · exact absurd h0 a1
  obtain ⟨hA, hA0, hAE, hnm, htv, hi0, hiA⟩ := hA
  have hi9 := hA
  obtain ⟨hO, -⟩ := hJ h0
  have hx : (ω.1 24 (cA ω).toNat).toInt = cK ω (cA ω) := rfl
  obtain ⟨t9, ht9, h⟩ := tx_tsw h em16_66
  have e9 : t9 = 138 := by
    have := tsw_k ht9 (k := 3) (off := 72) rfl (by omega) (by omega)
    omega
  subst e9
  replace h : eT xq_16 _ 138 [some (.inr (.inl (some 12))), some (.inl n), some (.inl i)] [] ω r μ' := h
  replace h := tx_aload_n (p' := 139) h em16_138 rfl rfl
  replace h := tx_iconst (v := 1) (p' := 140) h em16_139 (by decide +kernel) rfl
  obtain ⟨r140, μ140, hE140, h⟩ := tx_invV (na := 2) (mn := 18) (as := [.inr (.inl (some 12)), .inl (1 : Int32)]) (rest := []) (p' := 143) h em16_140 ((congrFun xo_3 63).trans rfl) xm_18 rfl rfl
  have ho := oT_law (by omega) hnm (ex_law hE140 hA0 hAE htv (by omega))
  have er : r140 = none := ex_law_n hE140
  subst er
  have hsf := sF_w (by decide +kernel) (hf_18_0 hE140 (hEn0 (by decide)) hO).2 hO
  have hc := fun (_ : (pTell (cK ω) (cH ω) (cU ω) (cA ω)).2 = 0) (_ : (pLater (cK ω) (cP ω) (cm ω) (cl ω) (cV ω) (cN ω) (cA ω) (cW ω)).1 = 0) S (hC : sC 13 S ω) (_ : kWf S) => And.intro (show sC 13 (kStep (cK ω) (cT ω) (cV ω) lw (cA ω) S) μ140 by
    unfold kStep
    rw [if_neg (by omega), if_neg (by omega), if_neg (by omega), if_neg (by omega), if_neg (by omega)]
    exact sC_law (sF_C hsf hC)) hsf.1
  replace h : eT xq_16 _ 143 [some (.inr (.inl (some 12))), some (.inl n), some (.inl i)] [] μ140 r μ' := h
  replace h := tx_goto (t := 179) h em16_143 (by decide)
  replace h := tx_iinc (v := 1) (p' := 182) h em16_179 (by decide +kernel) rfl rfl
  replace h : eT xq_16 _ 182 [some (.inr (.inl (some 12))), some (.inl n), some (.inl (i + 1))] [] μ140 r μ' := h
  obtain ⟨n2, hn2, h⟩ := tx_gotoS (t := 41) h em16_182 (by decide)
  have hi1 : (i + 1).toInt = i.toInt + 1 := by rw [an_add (by rw [e1i]; omega) (by rw [e1i]; omega), e1i]
  refine ih n2 hn2 _ _ h ?_ ?_
  · rw [hi1]
    exact paI_s hI h0 hk0 ho
  · rw [hi1]
    exact paJ_s hT hI h0 hk0 ho hJ hc
set_option maxRecDepth 10000 in
set_option maxHeartbeats 4000000 in
theorem kpa_law2 {lw : Int → kLw} {U : kSt} {E : Int} {T : Int × Int} {ν μ' : xM} {r : Option zV} {n : Int32} {m : Nat} (hT : T.1 = 0) (ih : ∀ m2, m2 < m → ∀ (i : Int32) (ω : xM), eT xq_16 m2 41 [some (.inr (.inl (some 12))), some (.inl n), some (.inl i)] [] ω r μ' → paI E i.toInt T ν ω → paJ lw i.toInt U ν ω → kpQ U μ') {i : Int32} {ω : xM} (hI : paI E i.toInt T ν ω) (hJ : paJ lw i.toInt U ν ω) (h0 : (ω.1 12 4).toInt = 0) (hk0 : ¬ cK ω (cA ω) = 0) (hkk : cK ω (cA ω) = 132) (h : eT xq_16 m 66 [some (.inr (.inl (some 12))), some (.inl n), some (.inl i)] [.inl (ω.1 24 (cA ω).toNat)] ω r μ') : kpQ U μ' := by
  have e1i : (1 : Int32).toInt = 1 := by decide
  have hA : cA ω ≤ 400 ∧ (0 ≤ cA ω ∧ cA ω ≤ E ∧ nmI E ω ∧ cTV ω E ∧ 0 ≤ i.toInt ∧ i.toInt ≤ cA ω) := by
    obtain ⟨g1, g2, g3⟩ := hI
    rcases g3 with ⟨a1, a2, a3, a4, a5, a6, a7⟩ | ⟨a1, -⟩
    · have := g2.1
      exact ⟨by omega, a3, a4, a2, g2, a5, a6⟩
    · exact absurd h0 a1
  obtain ⟨hA, hA0, hAE, hnm, htv, hi0, hiA⟩ := hA
  have hi9 := hA
  obtain ⟨hO, -⟩ := hJ h0
  have hx : (ω.1 24 (cA ω).toNat).toInt = cK ω (cA ω) := rfl
  obtain ⟨t9, ht9, h⟩ := tx_tsw h em16_66
  have e9 : t9 = 146 := by
    have := tsw_k ht9 (k := 4) (off := 80) rfl (by omega) (by omega)
    omega
  subst e9
  replace h : eT xq_16 _ 146 [some (.inr (.inl (some 12))), some (.inl n), some (.inl i)] [] ω r μ' := h
  replace h := tx_aload_n (p' := 147) h em16_146 rfl rfl
  replace h := tx_iconst (v := 2) (p' := 148) h em16_147 (by decide +kernel) rfl
  obtain ⟨r148, μ148, hE148, h⟩ := tx_invV (na := 2) (mn := 18) (as := [.inr (.inl (some 12)), .inl (2 : Int32)]) (rest := []) (p' := 151) h em16_148 ((congrFun xo_3 63).trans rfl) xm_18 rfl rfl
  have ho := oT_law (by omega) hnm (ex_law hE148 hA0 hAE htv (by omega))
  have er : r148 = none := ex_law_n hE148
  subst er
  have hsf := sF_w (by decide +kernel) (hf_18_0 hE148 (hEn0 (by decide)) hO).2 hO
  have hc := fun (_ : (pTell (cK ω) (cH ω) (cU ω) (cA ω)).2 = 0) (_ : (pLater (cK ω) (cP ω) (cm ω) (cl ω) (cV ω) (cN ω) (cA ω) (cW ω)).1 = 0) S (hC : sC 13 S ω) (_ : kWf S) => And.intro (show sC 13 (kStep (cK ω) (cT ω) (cV ω) lw (cA ω) S) μ148 by
    unfold kStep
    rw [if_neg (by omega), if_neg (by omega), if_neg (by omega), if_neg (by omega), if_neg (by omega)]
    exact sC_law (sF_C hsf hC)) hsf.1
  replace h : eT xq_16 _ 151 [some (.inr (.inl (some 12))), some (.inl n), some (.inl i)] [] μ148 r μ' := h
  replace h := tx_goto (t := 179) h em16_151 (by decide)
  replace h := tx_iinc (v := 1) (p' := 182) h em16_179 (by decide +kernel) rfl rfl
  replace h : eT xq_16 _ 182 [some (.inr (.inl (some 12))), some (.inl n), some (.inl (i + 1))] [] μ148 r μ' := h
  obtain ⟨n2, hn2, h⟩ := tx_gotoS (t := 41) h em16_182 (by decide)
  have hi1 : (i + 1).toInt = i.toInt + 1 := by rw [an_add (by rw [e1i]; omega) (by rw [e1i]; omega), e1i]
  refine ih n2 hn2 _ _ h ?_ ?_
  · rw [hi1]
    exact paI_s hI h0 hk0 ho
  · rw [hi1]
    exact paJ_s hT hI h0 hk0 ho hJ hc
set_option maxRecDepth 10000 in
set_option maxHeartbeats 4000000 in
theorem kpa_law3 {lw : Int → kLw} {U : kSt} {E : Int} {T : Int × Int} {ν μ' : xM} {r : Option zV} {n : Int32} {m : Nat} (hT : T.1 = 0) (ih : ∀ m2, m2 < m → ∀ (i : Int32) (ω : xM), eT xq_16 m2 41 [some (.inr (.inl (some 12))), some (.inl n), some (.inl i)] [] ω r μ' → paI E i.toInt T ν ω → paJ lw i.toInt U ν ω → kpQ U μ') {i : Int32} {ω : xM} (hI : paI E i.toInt T ν ω) (hJ : paJ lw i.toInt U ν ω) (h0 : (ω.1 12 4).toInt = 0) (hk0 : ¬ cK ω (cA ω) = 0) (hkk : cK ω (cA ω) = 133) (h : eT xq_16 m 66 [some (.inr (.inl (some 12))), some (.inl n), some (.inl i)] [.inl (ω.1 24 (cA ω).toNat)] ω r μ') : kpQ U μ' := by
  have e1i : (1 : Int32).toInt = 1 := by decide
  have hA : cA ω ≤ 400 ∧ (0 ≤ cA ω ∧ cA ω ≤ E ∧ nmI E ω ∧ cTV ω E ∧ 0 ≤ i.toInt ∧ i.toInt ≤ cA ω) := by
    obtain ⟨g1, g2, g3⟩ := hI
    rcases g3 with ⟨a1, a2, a3, a4, a5, a6, a7⟩ | ⟨a1, -⟩
    · have := g2.1
      exact ⟨by omega, a3, a4, a2, g2, a5, a6⟩
    · exact absurd h0 a1
  obtain ⟨hA, hA0, hAE, hnm, htv, hi0, hiA⟩ := hA
  have hi9 := hA
  obtain ⟨hO, -⟩ := hJ h0
  have hx : (ω.1 24 (cA ω).toNat).toInt = cK ω (cA ω) := rfl
  obtain ⟨t9, ht9, h⟩ := tx_tsw h em16_66
  have e9 : t9 = 154 := by
    have := tsw_k ht9 (k := 5) (off := 88) rfl (by omega) (by omega)
    omega
  subst e9
  replace h : eT xq_16 _ 154 [some (.inr (.inl (some 12))), some (.inl n), some (.inl i)] [] ω r μ' := h
  replace h := tx_aload_n (p' := 155) h em16_154 rfl rfl
  replace h := tx_iconst (v := 3) (p' := 156) h em16_155 (by decide +kernel) rfl
  obtain ⟨r156, μ156, hE156, h⟩ := tx_invV (na := 2) (mn := 18) (as := [.inr (.inl (some 12)), .inl (3 : Int32)]) (rest := []) (p' := 159) h em16_156 ((congrFun xo_3 63).trans rfl) xm_18 rfl rfl
  have ho := oT_law (by omega) hnm (ex_law hE156 hA0 hAE htv (by omega))
  have er : r156 = none := ex_law_n hE156
  subst er
  have hsf := sF_w (by decide +kernel) (hf_18_0 hE156 (hEn0 (by decide)) hO).2 hO
  have hc := fun (_ : (pTell (cK ω) (cH ω) (cU ω) (cA ω)).2 = 0) (_ : (pLater (cK ω) (cP ω) (cm ω) (cl ω) (cV ω) (cN ω) (cA ω) (cW ω)).1 = 0) S (hC : sC 13 S ω) (_ : kWf S) => And.intro (show sC 13 (kStep (cK ω) (cT ω) (cV ω) lw (cA ω) S) μ156 by
    unfold kStep
    rw [if_neg (by omega), if_neg (by omega), if_neg (by omega), if_neg (by omega), if_neg (by omega)]
    exact sC_law (sF_C hsf hC)) hsf.1
  replace h : eT xq_16 _ 159 [some (.inr (.inl (some 12))), some (.inl n), some (.inl i)] [] μ156 r μ' := h
  replace h := tx_goto (t := 179) h em16_159 (by decide)
  replace h := tx_iinc (v := 1) (p' := 182) h em16_179 (by decide +kernel) rfl rfl
  replace h : eT xq_16 _ 182 [some (.inr (.inl (some 12))), some (.inl n), some (.inl (i + 1))] [] μ156 r μ' := h
  obtain ⟨n2, hn2, h⟩ := tx_gotoS (t := 41) h em16_182 (by decide)
  have hi1 : (i + 1).toInt = i.toInt + 1 := by rw [an_add (by rw [e1i]; omega) (by rw [e1i]; omega), e1i]
  refine ih n2 hn2 _ _ h ?_ ?_
  · rw [hi1]
    exact paI_s hI h0 hk0 ho
  · rw [hi1]
    exact paJ_s hT hI h0 hk0 ho hJ hc
set_option maxRecDepth 10000 in
set_option maxHeartbeats 4000000 in
theorem kpa_num0 {lw : Int → kLw} {U : kSt} {E : Int} {T : Int × Int} {ν μ' : xM} {r : Option zV} {n : Int32} {m : Nat} (hT : T.1 = 0) (ih : ∀ m2, m2 < m → ∀ (i : Int32) (ω : xM), eT xq_16 m2 41 [some (.inr (.inl (some 12))), some (.inl n), some (.inl i)] [] ω r μ' → paI E i.toInt T ν ω → paJ lw i.toInt U ν ω → kpQ U μ') {i : Int32} {ω : xM} (hI : paI E i.toInt T ν ω) (hJ : paJ lw i.toInt U ν ω) (h0 : (ω.1 12 4).toInt = 0) (hk0 : ¬ cK ω (cA ω) = 0) (hkk : cK ω (cA ω) = 134) (h : eT xq_16 m 66 [some (.inr (.inl (some 12))), some (.inl n), some (.inl i)] [.inl (ω.1 24 (cA ω).toNat)] ω r μ') : kpQ U μ' := by
  have e1i : (1 : Int32).toInt = 1 := by decide
  have hA : cA ω ≤ 400 ∧ (0 ≤ cA ω ∧ cA ω ≤ E ∧ nmI E ω ∧ cTV ω E ∧ 0 ≤ i.toInt ∧ i.toInt ≤ cA ω) := by
    obtain ⟨g1, g2, g3⟩ := hI
    rcases g3 with ⟨a1, a2, a3, a4, a5, a6, a7⟩ | ⟨a1, -⟩
    · have := g2.1
      exact ⟨by omega, a3, a4, a2, g2, a5, a6⟩
    · exact absurd h0 a1
  obtain ⟨hA, hA0, hAE, hnm, htv, hi0, hiA⟩ := hA
  have hi9 := hA
  obtain ⟨hO, -⟩ := hJ h0
  have hx : (ω.1 24 (cA ω).toNat).toInt = cK ω (cA ω) := rfl
  obtain ⟨t9, ht9, h⟩ := tx_tsw h em16_66
  have e9 : t9 = 162 := by
    have := tsw_k ht9 (k := 6) (off := 96) rfl (by omega) (by omega)
    omega
  subst e9
  replace h : eT xq_16 _ 162 [some (.inr (.inl (some 12))), some (.inl n), some (.inl i)] [] ω r μ' := h
  replace h := tx_aload_n (p' := 163) h em16_162 rfl rfl
  replace h := tx_aload_n (p' := 164) h em16_163 rfl rfl
  obtain ⟨r164, μ164, hE164, h⟩ := tx_invV (na := 1) (mn := 13) (as := [.inr (.inl (some 12))]) (rest := [.inr (.inl (some 12))]) (p' := 167) h em16_164 ((congrFun xo_3 53).trans rfl) xm_13 rfl rfl
  obtain ⟨rfl, hm164⟩ := ex_next hE164 (by have := hA; omega)
  rw [hm164] at h
  replace h : eT xq_16 _ 167 [some (.inr (.inl (some 12))), some (.inl n), some (.inl i)] [.inl (ω.1 24 (cA ω).toNat), .inr (.inl (some 12))] ω r μ' := h
  obtain ⟨r167, μ167, hE167, h⟩ := tx_invV (na := 2) (mn := 19) (as := [.inr (.inl (some 12)), .inl (ω.1 24 (cA ω).toNat)]) (rest := []) (p' := 170) h em16_167 ((congrFun xo_3 67).trans rfl) xm_19 rfl rfl
  obtain ⟨rfl, ho⟩ := ex_number hE167 hA0 hAE htv hnm rfl (by show 134 ≤ cK ω (cA ω) ∧ cK ω (cA ω) ≤ 136; omega)
  have hc := fun (hs : (pTell (cK ω) (cH ω) (cU ω) (cA ω)).2 = 0) (_ : (pLater (cK ω) (cP ω) (cm ω) (cl ω) (cV ω) (cN ω) (cA ω) (cW ω)).1 = 0) S (hC : sC 13 S ω) (_ : kWf S) => And.intro (kc_number (lw := lw) hE167 hA0 hAE htv hnm hO hs hC rfl (by show 134 ≤ cK ω (cA ω) ∧ cK ω (cA ω) ≤ 136; omega)) ((hf_19_0 hE167 (hEn0 (by decide)) hO).2 hO).1
  replace h : eT xq_16 _ 170 [some (.inr (.inl (some 12))), some (.inl n), some (.inl i)] [] μ167 r μ' := h
  replace h := tx_goto (t := 179) h em16_170 (by decide)
  replace h := tx_iinc (v := 1) (p' := 182) h em16_179 (by decide +kernel) rfl rfl
  replace h : eT xq_16 _ 182 [some (.inr (.inl (some 12))), some (.inl n), some (.inl (i + 1))] [] μ167 r μ' := h
  obtain ⟨n2, hn2, h⟩ := tx_gotoS (t := 41) h em16_182 (by decide)
  have hi1 : (i + 1).toInt = i.toInt + 1 := by rw [an_add (by rw [e1i]; omega) (by rw [e1i]; omega), e1i]
  refine ih n2 hn2 _ _ h ?_ ?_
  · rw [hi1]
    exact paI_s hI h0 hk0 ho
  · rw [hi1]
    exact paJ_s hT hI h0 hk0 ho hJ hc
set_option maxRecDepth 10000 in
set_option maxHeartbeats 4000000 in
theorem kpa_num1 {lw : Int → kLw} {U : kSt} {E : Int} {T : Int × Int} {ν μ' : xM} {r : Option zV} {n : Int32} {m : Nat} (hT : T.1 = 0) (ih : ∀ m2, m2 < m → ∀ (i : Int32) (ω : xM), eT xq_16 m2 41 [some (.inr (.inl (some 12))), some (.inl n), some (.inl i)] [] ω r μ' → paI E i.toInt T ν ω → paJ lw i.toInt U ν ω → kpQ U μ') {i : Int32} {ω : xM} (hI : paI E i.toInt T ν ω) (hJ : paJ lw i.toInt U ν ω) (h0 : (ω.1 12 4).toInt = 0) (hk0 : ¬ cK ω (cA ω) = 0) (hkk : cK ω (cA ω) = 135) (h : eT xq_16 m 66 [some (.inr (.inl (some 12))), some (.inl n), some (.inl i)] [.inl (ω.1 24 (cA ω).toNat)] ω r μ') : kpQ U μ' := by
  have e1i : (1 : Int32).toInt = 1 := by decide
  have hA : cA ω ≤ 400 ∧ (0 ≤ cA ω ∧ cA ω ≤ E ∧ nmI E ω ∧ cTV ω E ∧ 0 ≤ i.toInt ∧ i.toInt ≤ cA ω) := by
    obtain ⟨g1, g2, g3⟩ := hI
    rcases g3 with ⟨a1, a2, a3, a4, a5, a6, a7⟩ | ⟨a1, -⟩
    · have := g2.1
      exact ⟨by omega, a3, a4, a2, g2, a5, a6⟩
    · exact absurd h0 a1
  obtain ⟨hA, hA0, hAE, hnm, htv, hi0, hiA⟩ := hA
  have hi9 := hA
  obtain ⟨hO, -⟩ := hJ h0
  have hx : (ω.1 24 (cA ω).toNat).toInt = cK ω (cA ω) := rfl
  obtain ⟨t9, ht9, h⟩ := tx_tsw h em16_66
  have e9 : t9 = 162 := by
    have := tsw_k ht9 (k := 7) (off := 96) rfl (by omega) (by omega)
    omega
  subst e9
  replace h : eT xq_16 _ 162 [some (.inr (.inl (some 12))), some (.inl n), some (.inl i)] [] ω r μ' := h
  replace h := tx_aload_n (p' := 163) h em16_162 rfl rfl
  replace h := tx_aload_n (p' := 164) h em16_163 rfl rfl
  obtain ⟨r164, μ164, hE164, h⟩ := tx_invV (na := 1) (mn := 13) (as := [.inr (.inl (some 12))]) (rest := [.inr (.inl (some 12))]) (p' := 167) h em16_164 ((congrFun xo_3 53).trans rfl) xm_13 rfl rfl
  obtain ⟨rfl, hm164⟩ := ex_next hE164 (by have := hA; omega)
  rw [hm164] at h
  replace h : eT xq_16 _ 167 [some (.inr (.inl (some 12))), some (.inl n), some (.inl i)] [.inl (ω.1 24 (cA ω).toNat), .inr (.inl (some 12))] ω r μ' := h
  obtain ⟨r167, μ167, hE167, h⟩ := tx_invV (na := 2) (mn := 19) (as := [.inr (.inl (some 12)), .inl (ω.1 24 (cA ω).toNat)]) (rest := []) (p' := 170) h em16_167 ((congrFun xo_3 67).trans rfl) xm_19 rfl rfl
  obtain ⟨rfl, ho⟩ := ex_number hE167 hA0 hAE htv hnm rfl (by show 134 ≤ cK ω (cA ω) ∧ cK ω (cA ω) ≤ 136; omega)
  have hc := fun (hs : (pTell (cK ω) (cH ω) (cU ω) (cA ω)).2 = 0) (_ : (pLater (cK ω) (cP ω) (cm ω) (cl ω) (cV ω) (cN ω) (cA ω) (cW ω)).1 = 0) S (hC : sC 13 S ω) (_ : kWf S) => And.intro (kc_number (lw := lw) hE167 hA0 hAE htv hnm hO hs hC rfl (by show 134 ≤ cK ω (cA ω) ∧ cK ω (cA ω) ≤ 136; omega)) ((hf_19_0 hE167 (hEn0 (by decide)) hO).2 hO).1
  replace h : eT xq_16 _ 170 [some (.inr (.inl (some 12))), some (.inl n), some (.inl i)] [] μ167 r μ' := h
  replace h := tx_goto (t := 179) h em16_170 (by decide)
  replace h := tx_iinc (v := 1) (p' := 182) h em16_179 (by decide +kernel) rfl rfl
  replace h : eT xq_16 _ 182 [some (.inr (.inl (some 12))), some (.inl n), some (.inl (i + 1))] [] μ167 r μ' := h
  obtain ⟨n2, hn2, h⟩ := tx_gotoS (t := 41) h em16_182 (by decide)
  have hi1 : (i + 1).toInt = i.toInt + 1 := by rw [an_add (by rw [e1i]; omega) (by rw [e1i]; omega), e1i]
  refine ih n2 hn2 _ _ h ?_ ?_
  · rw [hi1]
    exact paI_s hI h0 hk0 ho
  · rw [hi1]
    exact paJ_s hT hI h0 hk0 ho hJ hc
set_option maxRecDepth 10000 in
set_option maxHeartbeats 4000000 in
theorem kpa_num2 {lw : Int → kLw} {U : kSt} {E : Int} {T : Int × Int} {ν μ' : xM} {r : Option zV} {n : Int32} {m : Nat} (hT : T.1 = 0) (ih : ∀ m2, m2 < m → ∀ (i : Int32) (ω : xM), eT xq_16 m2 41 [some (.inr (.inl (some 12))), some (.inl n), some (.inl i)] [] ω r μ' → paI E i.toInt T ν ω → paJ lw i.toInt U ν ω → kpQ U μ') {i : Int32} {ω : xM} (hI : paI E i.toInt T ν ω) (hJ : paJ lw i.toInt U ν ω) (h0 : (ω.1 12 4).toInt = 0) (hk0 : ¬ cK ω (cA ω) = 0) (hkk : cK ω (cA ω) = 136) (h : eT xq_16 m 66 [some (.inr (.inl (some 12))), some (.inl n), some (.inl i)] [.inl (ω.1 24 (cA ω).toNat)] ω r μ') : kpQ U μ' := by
  have e1i : (1 : Int32).toInt = 1 := by decide
  have hA : cA ω ≤ 400 ∧ (0 ≤ cA ω ∧ cA ω ≤ E ∧ nmI E ω ∧ cTV ω E ∧ 0 ≤ i.toInt ∧ i.toInt ≤ cA ω) := by
    obtain ⟨g1, g2, g3⟩ := hI
    rcases g3 with ⟨a1, a2, a3, a4, a5, a6, a7⟩ | ⟨a1, -⟩
    · have := g2.1
      exact ⟨by omega, a3, a4, a2, g2, a5, a6⟩
    · exact absurd h0 a1
  obtain ⟨hA, hA0, hAE, hnm, htv, hi0, hiA⟩ := hA
  have hi9 := hA
  obtain ⟨hO, -⟩ := hJ h0
  have hx : (ω.1 24 (cA ω).toNat).toInt = cK ω (cA ω) := rfl
  obtain ⟨t9, ht9, h⟩ := tx_tsw h em16_66
  have e9 : t9 = 162 := by
    have := tsw_k ht9 (k := 8) (off := 96) rfl (by omega) (by omega)
    omega
  subst e9
  replace h : eT xq_16 _ 162 [some (.inr (.inl (some 12))), some (.inl n), some (.inl i)] [] ω r μ' := h
  replace h := tx_aload_n (p' := 163) h em16_162 rfl rfl
  replace h := tx_aload_n (p' := 164) h em16_163 rfl rfl
  obtain ⟨r164, μ164, hE164, h⟩ := tx_invV (na := 1) (mn := 13) (as := [.inr (.inl (some 12))]) (rest := [.inr (.inl (some 12))]) (p' := 167) h em16_164 ((congrFun xo_3 53).trans rfl) xm_13 rfl rfl
  obtain ⟨rfl, hm164⟩ := ex_next hE164 (by have := hA; omega)
  rw [hm164] at h
  replace h : eT xq_16 _ 167 [some (.inr (.inl (some 12))), some (.inl n), some (.inl i)] [.inl (ω.1 24 (cA ω).toNat), .inr (.inl (some 12))] ω r μ' := h
  obtain ⟨r167, μ167, hE167, h⟩ := tx_invV (na := 2) (mn := 19) (as := [.inr (.inl (some 12)), .inl (ω.1 24 (cA ω).toNat)]) (rest := []) (p' := 170) h em16_167 ((congrFun xo_3 67).trans rfl) xm_19 rfl rfl
  obtain ⟨rfl, ho⟩ := ex_number hE167 hA0 hAE htv hnm rfl (by show 134 ≤ cK ω (cA ω) ∧ cK ω (cA ω) ≤ 136; omega)
  have hc := fun (hs : (pTell (cK ω) (cH ω) (cU ω) (cA ω)).2 = 0) (_ : (pLater (cK ω) (cP ω) (cm ω) (cl ω) (cV ω) (cN ω) (cA ω) (cW ω)).1 = 0) S (hC : sC 13 S ω) (_ : kWf S) => And.intro (kc_number (lw := lw) hE167 hA0 hAE htv hnm hO hs hC rfl (by show 134 ≤ cK ω (cA ω) ∧ cK ω (cA ω) ≤ 136; omega)) ((hf_19_0 hE167 (hEn0 (by decide)) hO).2 hO).1
  replace h : eT xq_16 _ 170 [some (.inr (.inl (some 12))), some (.inl n), some (.inl i)] [] μ167 r μ' := h
  replace h := tx_goto (t := 179) h em16_170 (by decide)
  replace h := tx_iinc (v := 1) (p' := 182) h em16_179 (by decide +kernel) rfl rfl
  replace h : eT xq_16 _ 182 [some (.inr (.inl (some 12))), some (.inl n), some (.inl (i + 1))] [] μ167 r μ' := h
  obtain ⟨n2, hn2, h⟩ := tx_gotoS (t := 41) h em16_182 (by decide)
  have hi1 : (i + 1).toInt = i.toInt + 1 := by rw [an_add (by rw [e1i]; omega) (by rw [e1i]; omega), e1i]
  refine ih n2 hn2 _ _ h ?_ ?_
  · rw [hi1]
    exact paI_s hI h0 hk0 ho
  · rw [hi1]
    exact paJ_s hT hI h0 hk0 ho hJ hc
set_option maxRecDepth 10000 in
set_option maxHeartbeats 4000000 in
theorem kpa_else {lw : Int → kLw} {U : kSt} {E : Int} {T : Int × Int} {ν μ' : xM} {r : Option zV} {n : Int32} {m : Nat} (hT : T.1 = 0) (ih : ∀ m2, m2 < m → ∀ (i : Int32) (ω : xM), eT xq_16 m2 41 [some (.inr (.inl (some 12))), some (.inl n), some (.inl i)] [] ω r μ' → paI E i.toInt T ν ω → paJ lw i.toInt U ν ω → kpQ U μ') {i : Int32} {ω : xM} (hI : paI E i.toInt T ν ω) (hJ : paJ lw i.toInt U ν ω) (h0 : (ω.1 12 4).toInt = 0) (hk0 : ¬ cK ω (cA ω) = 0) (hkk : cK ω (cA ω) < 128 ∨ 136 < cK ω (cA ω)) (h : eT xq_16 m 66 [some (.inr (.inl (some 12))), some (.inl n), some (.inl i)] [.inl (ω.1 24 (cA ω).toNat)] ω r μ') : kpQ U μ' := by
  have e1i : (1 : Int32).toInt = 1 := by decide
  have hA : cA ω ≤ 400 ∧ (0 ≤ cA ω ∧ cA ω ≤ E ∧ nmI E ω ∧ cTV ω E ∧ 0 ≤ i.toInt ∧ i.toInt ≤ cA ω) := by
    obtain ⟨g1, g2, g3⟩ := hI
    rcases g3 with ⟨a1, a2, a3, a4, a5, a6, a7⟩ | ⟨a1, -⟩
    · have := g2.1
      exact ⟨by omega, a3, a4, a2, g2, a5, a6⟩
    · exact absurd h0 a1
  obtain ⟨hA, hA0, hAE, hnm, htv, hi0, hiA⟩ := hA
  have hi9 := hA
  obtain ⟨hO, -⟩ := hJ h0
  have hx : (ω.1 24 (cA ω).toNat).toInt = cK ω (cA ω) := rfl
  obtain ⟨t9, ht9, h⟩ := tx_tsw h em16_66
  have e9 : t9 = 173 := by
    have := tsw_d ht9 (by decide) (by omega)
    omega
  subst e9
  replace h : eT xq_16 _ 173 [some (.inr (.inl (some 12))), some (.inl n), some (.inl i)] [] ω r μ' := h
  replace h := tx_aload_n (p' := 174) h em16_173 rfl rfl
  replace h := tx_iconst (v := 1) (p' := 175) h em16_174 (by decide +kernel) rfl
  obtain ⟨r175, μ175, hE175, h⟩ := tx_invV (na := 2) (mn := 10) (as := [.inr (.inl (some 12)), .inl (1 : Int32)]) (rest := []) (p' := 178) h em16_175 ((congrFun xo_3 70).trans rfl) xm_10 rfl rfl
  obtain ⟨rfl, hmf⟩ := ex_fail hE175 hA
  have ho := oT_else (e := E) (μ := ω) (by omega)
  rw [← hmf] at ho
  have hc := fun (hs : (pTell (cK ω) (cH ω) (cU ω) (cA ω)).2 = 0) (_ : (pLater (cK ω) (cP ω) (cm ω) (cl ω) (cV ω) (cN ω) (cA ω) (cW ω)).1 = 0) S (_ : sC 13 S ω) (_ : kWf S) => (absurd hs (by rw [pTell_e hkk]; show ¬ (1 : Int) = 0; decide) : sC 13 (kStep (cK ω) (cT ω) (cV ω) lw (cA ω) S) μ175 ∧ hOK μ175)
  replace h : eT xq_16 _ 178 [some (.inr (.inl (some 12))), some (.inl n), some (.inl i)] [.inl (0 : Int32)] μ175 r μ' := h
  replace h := tx_pop (p' := 179) h em16_178 rfl
  replace h := tx_iinc (v := 1) (p' := 182) h em16_179 (by decide +kernel) rfl rfl
  replace h : eT xq_16 _ 182 [some (.inr (.inl (some 12))), some (.inl n), some (.inl (i + 1))] [] μ175 r μ' := h
  obtain ⟨n2, hn2, h⟩ := tx_gotoS (t := 41) h em16_182 (by decide)
  have hi1 : (i + 1).toInt = i.toInt + 1 := by rw [an_add (by rw [e1i]; omega) (by rw [e1i]; omega), e1i]
  refine ih n2 hn2 _ _ h ?_ ?_
  · rw [hi1]
    exact paI_s hI h0 hk0 ho
  · rw [hi1]
    exact paJ_s hT hI h0 hk0 ho hJ hc
set_option maxRecDepth 10000 in
set_option maxHeartbeats 4000000 in
theorem kpa_loop {lw : Int → kLw} {U : kSt} {E : Int} {T : Int × Int} {ν μ' : xM} {r : Option zV} {n : Int32} (hT : T.1 = 0) : ∀ m : Nat, ∀ (i : Int32) (ω : xM), eT xq_16 m 41 [some (.inr (.inl (some 12))), some (.inl n), some (.inl i)] [] ω r μ' → paI E i.toInt T ν ω → paJ lw i.toInt U ν ω → kpQ U μ' := by
  have e1i : (1 : Int32).toInt = 1 := by decide
  intro m
  induction m using Nat.strongRecOn with
  | ind m ih =>
  intro i ω h hI hJ
  have h185 : eT xq_16 m 185 [some (.inr (.inl (some 12))), some (.inl n), some (.inl i)] [] ω r μ' → (400 < i.toInt ∨ ¬ (ω.1 12 4).toInt = 0 ∨ cK ω (cA ω) = 0) → kpQ U μ' := by
    intro h hx
    replace h := tx_aload_n (p' := 186) h em16_185 rfl rfl
    replace h := tx_getf (c := 2) (j := 4) (p' := 189) h em16_186 ((congrFun xo_3 44).trans rfl) rfl rfl (by decide) rfl
    rcases tx_if (t := 208) (p' := 192) h em16_189 (by decide) rfl with ⟨c189, h⟩ | ⟨c189, h⟩
    · replace c189 : ¬ (ω.1 12 4).toInt = 0 := c189
      replace h := tx_aload_n (p' := 209) h em16_208 rfl rfl
      replace h := tx_getf (c := 2) (j := 4) (p' := 212) h em16_209 ((congrFun xo_3 44).trans rfl) rfl rfl (by decide) rfl
      obtain ⟨rfl, hμ⟩ := tx_ireturn h em16_212
      exfalso
      obtain ⟨g1, g2, g3⟩ := hI
      rcases g3 with ⟨a1, -⟩ | ⟨a1, a2⟩
      · omega
      · rw [a2] at hT; omega
    · replace c189 : ¬ ¬ (ω.1 12 4).toInt = 0 := c189
      replace h := tx_aload_n (p' := 193) h em16_192 rfl rfl
      replace h := tx_aload_n (p' := 194) h em16_193 rfl rfl
      replace h := tx_getf (c := 2) (j := 6) (p' := 197) h em16_194 ((congrFun xo_3 47).trans rfl) rfl rfl (by decide) rfl
      replace h := tx_putf (a := 12) (c := 2) (j := 4) (p' := 200) h em16_197 ((congrFun xo_3 44).trans rfl) rfl
      replace h := tx_aload_n (p' := 201) h em16_200 rfl rfl
      replace h := tx_aload_n (p' := 202) h em16_201 rfl rfl
      replace h := tx_getf (c := 2) (j := 7) (p' := 205) h em16_202 ((congrFun xo_3 74).trans rfl) rfl rfl (by decide) rfl
      replace h : eT xq_16 _ 205 [some (.inr (.inl (some 12))), some (.inl n), some (.inl i)] [.inl (ω.1 12 7), .inr (.inl (some 12))] (xpi ω 12 4 (ω.1 12 6)) r μ' := h
      replace h := tx_putf (a := 12) (c := 2) (j := 5) (p' := 208) h em16_205 ((congrFun xo_3 77).trans rfl) rfl
      replace h := tx_aload_n (p' := 209) h em16_208 rfl rfl
      replace h := tx_getf (c := 2) (j := 4) (p' := 212) h em16_209 ((congrFun xo_3 44).trans rfl) rfl rfl (by decide) rfl
      replace h : eT xq_16 _ 212 [some (.inr (.inl (some 12))), some (.inl n), some (.inl i)] [.inl (ω.1 12 6)] (xpi (xpi ω 12 4 (ω.1 12 6)) 12 5 (ω.1 12 7)) r μ' := h
      obtain ⟨rfl, hμ⟩ := tx_ireturn h em16_212
      rw [hμ]
      obtain ⟨g1, g2, g3⟩ := hI
      rcases g3 with ⟨a1, a2, a3, a4, a5, a6, a7⟩ | ⟨a1, -⟩
      · obtain ⟨hO, S, s1, s2, s3⟩ := hJ a1
        have hw : U = S := by
          rw [s3]
          rcases hx with hx | hx | hx
          · have := g2.1; omega
          · exact absurd a1 hx
          · rw [gE_K g1] at hx
            have := g2.1
            rw [show (401 - i.toInt).toNat = (400 - i.toInt).toNat + 1 by omega]
            show (if cK ν (cA ω) = 0 then S else _) = S
            rw [if_pos hx]
        rw [hw]
        exact ⟨hO, sC_cg (fun k j h1 _ => (xpi_ne (fun q => by omega)).trans (xpi_ne (fun q => by omega))) s1, s2⟩
      · omega
  have h55 : eT xq_16 m 55 [some (.inr (.inl (some 12))), some (.inl n), some (.inl i)] [] ω r μ' → (ω.1 12 4).toInt = 0 → i.toInt ≤ 400 → kpQ U μ' := by
    intro h h0 hi4
    have hA : cA ω ≤ 400 := by
      obtain ⟨g1, g2, g3⟩ := hI
      rcases g3 with ⟨a1, a2, a3, a4, -⟩ | ⟨a1, -⟩
      · have := g2.1; omega
      · exact absurd h0 a1
    replace h := tx_aload_n (p' := 56) h em16_55 rfl rfl
    obtain ⟨r56, μ56, hE56, h⟩ := tx_invV (na := 1) (mn := 13) (as := [.inr (.inl (some 12))]) (rest := []) (p' := 59) h em16_56 ((congrFun xo_3 53).trans rfl) xm_13 rfl rfl
    obtain ⟨rfl, hm56⟩ := ex_next hE56 (by have := hA; omega)
    rw [hm56] at h
    replace h : eT xq_16 _ 59 [some (.inr (.inl (some 12))), some (.inl n), some (.inl i)] [.inl (ω.1 24 (cA ω).toNat)] ω r μ' := h
    rcases tx_if (t := 185) (p' := 62) h em16_59 (by decide) rfl with ⟨c59, h⟩ | ⟨c59, h⟩
    · replace c59 : (ω.1 24 (cA ω).toNat).toInt = 0 := c59
      exact h185 h (Or.inr (Or.inr (by unfold cK; omega)))
    · replace c59 : ¬ (ω.1 24 (cA ω).toNat).toInt = 0 := c59
      replace h := tx_aload_n (p' := 63) h em16_62 rfl rfl
      obtain ⟨r63, μ63, hE63, h⟩ := tx_invV (na := 1) (mn := 13) (as := [.inr (.inl (some 12))]) (rest := []) (p' := 66) h em16_63 ((congrFun xo_3 53).trans rfl) xm_13 rfl rfl
      obtain ⟨rfl, hm63⟩ := ex_next hE63 (by have := hA; omega)
      rw [hm63] at h
      replace h : eT xq_16 _ 66 [some (.inr (.inl (some 12))), some (.inl n), some (.inl i)] [.inl (ω.1 24 (cA ω).toNat)] ω r μ' := h
      have hk0 : ¬ cK ω (cA ω) = 0 := by unfold cK; omega
      have hx : (ω.1 24 (cA ω).toNat).toInt = cK ω (cA ω) := rfl
      by_cases a : 128 ≤ cK ω (cA ω) ∧ cK ω (cA ω) ≤ 136
      · have h7 : cK ω (cA ω) = 128 ∨ cK ω (cA ω) = 129 ∨ cK ω (cA ω) = 130 ∨ cK ω (cA ω) = 131 ∨ cK ω (cA ω) = 132 ∨ cK ω (cA ω) = 133 ∨ cK ω (cA ω) = 134 ∨ cK ω (cA ω) = 135 ∨ cK ω (cA ω) = 136 := by omega
        rcases h7 with e | e | e | e | e | e | e | e | e
        · exact kpa_house hT ih hI hJ h0 hk0 e h
        · exact kpa_verse hT ih hI hJ h0 hk0 e h
        · exact kpa_law0 hT ih hI hJ h0 hk0 e h
        · exact kpa_law1 hT ih hI hJ h0 hk0 e h
        · exact kpa_law2 hT ih hI hJ h0 hk0 e h
        · exact kpa_law3 hT ih hI hJ h0 hk0 e h
        · exact kpa_num0 hT ih hI hJ h0 hk0 e h
        · exact kpa_num1 hT ih hI hJ h0 hk0 e h
        · exact kpa_num2 hT ih hI hJ h0 hk0 e h
      · exact kpa_else hT ih hI hJ h0 hk0 (by omega) h
  replace h := tx_iload_n (p' := 42) h em16_41 rfl rfl
  replace h := tx_sipush (v := 400) (p' := 45) h em16_42 (by decide +kernel) rfl
  rcases tx_icmp (t := 185) (p' := 48) h em16_45 (by decide) rfl with ⟨c45, h⟩ | ⟨c45, h⟩
  · replace c45 : 400 < i.toInt := c45
    exact h185 h (Or.inl (by omega))
  · replace c45 : ¬ 400 < i.toInt := c45
    replace h := tx_aload_n (p' := 49) h em16_48 rfl rfl
    replace h := tx_getf (c := 2) (j := 4) (p' := 52) h em16_49 ((congrFun xo_3 44).trans rfl) rfl rfl (by decide) rfl
    rcases tx_if (t := 185) (p' := 55) h em16_52 (by decide) rfl with ⟨c52, h⟩ | ⟨c52, h⟩
    · replace c52 : ¬ (ω.1 12 4).toInt = 0 := c52
      exact h185 h (Or.inr (Or.inl (by omega)))
    · replace c52 : ¬ ¬ (ω.1 12 4).toInt = 0 := c52
      exact h55 h (by omega) (by omega)
set_option maxRecDepth 10000 in
set_option maxHeartbeats 4000000 in
theorem kx_parse {nn : Int32} {lw : Int → kLw} {μ μ' : xM} {r : Option zV} (h0 : Ex gx xq_16 [.inr (.inl (some 12)), .inl nn] μ r μ') (hn0 : 0 ≤ nn.toInt) (hn1 : nn.toInt ≤ 2000) (hO : hOK μ) : ∃ (x : Int32) (E : Int) (w : Int × Int), r = some (.inl x) ∧ pqE μ μ' ∧ cTV μ' E ∧ tkC (kB μ 1) nn.toInt (cP μ') (cS μ') (cK μ') E ∧ (∀ a, 0 ≤ a → a < E → 2 ≤ cK μ' a) ∧ (E < 400 → cK μ' E ≤ 1) ∧ w.1 = 0 ∧ x.toInt = (cTx μ' 401 0 0 0 [] w).1 ∧ (¬ (cTx μ' 401 0 0 0 [] w).1 = 0 → (μ'.1 12 5).toInt = (cTx μ' 401 0 0 0 [] w).2) ∧ ((cTx μ' 401 0 0 0 [] w).1 = 0 → kpQ (kText (cK μ') (cT μ') (cV μ') lw 401 0 0 0 kS0) μ') := by
  obtain ⟨n, h⟩ := tx_in (L := [some (.inr (.inl (some 12))), some (.inl nn), none]) h0 rfl
  replace h := tx_aload_n (p' := 1) h em16_0 rfl rfl
  replace h := tx_getc (c := 2) (j := 0) (p' := 4) h em16_1 ((congrFun xo_3 12).trans rfl) rfl rfl rfl
  obtain ⟨r4, μ4, hE4, h⟩ := tx_invV (na := 1) (mn := 47) (as := [.inr (.inl (some 13))]) (rest := []) (p' := 7) h em16_4 ((congrFun xo_3 33).trans rfl) xm_47 rfl rfl
  obtain ⟨rfl, hwi, hz0, hz1⟩ := ex_wipe hE4
  obtain ⟨hO4, hC4⟩ := ex_wipe2 hE4 hO
  replace h : eT xq_16 _ 7 [some (.inr (.inl (some 12))), some (.inl nn), none] [] μ4 r μ' := h
  replace h := tx_aload_n (p' := 8) h em16_7 rfl rfl
  replace h := tx_getc (c := 2) (j := 1) (p' := 11) h em16_8 ((congrFun xo_3 21).trans rfl) rfl rfl rfl
  replace h := tx_aload_n (p' := 12) h em16_11 rfl rfl
  replace h := tx_getc (c := 2) (j := 2) (p' := 15) h em16_12 ((congrFun xo_3 29).trans rfl) rfl rfl rfl
  replace h := tx_iload_n (p' := 16) h em16_15 rfl rfl
  obtain ⟨r16, μ16, hE16, h⟩ := tx_invV (na := 3) (mn := 48) (as := [.inr (.inl (some 23)), .inr (.inl (some 1)), .inl nn]) (rest := []) (p' := 19) h em16_16 ((congrFun xo_3 36).trans rfl) xm_48 rfl rfl
  have hS16 := sE_w (μ := μ4) (by decide +kernel) (hf_48_0 hE16 (hEn1 (by decide) (by decide)) hO4).2 hO4
  obtain ⟨rfl, htF, E, htC, htK, htE⟩ := ex_scan hE16 hn0 hn1
  replace h : eT xq_16 _ 19 [some (.inr (.inl (some 12))), some (.inl nn), none] [] μ16 r μ' := h
  replace h := tx_aload_n (p' := 20) h em16_19 rfl rfl
  replace h := tx_iconst (v := 0) (p' := 21) h em16_20 (by decide +kernel) rfl
  replace h := tx_putf (a := 12) (c := 2) (j := 3) (p' := 24) h em16_21 ((congrFun xo_3 40).trans rfl) rfl
  replace h := tx_aload_n (p' := 25) h em16_24 rfl rfl
  replace h := tx_iconst (v := 0) (p' := 26) h em16_25 (by decide +kernel) rfl
  replace h := tx_putf (a := 12) (c := 2) (j := 4) (p' := 29) h em16_26 ((congrFun xo_3 44).trans rfl) rfl
  replace h := tx_aload_n (p' := 30) h em16_29 rfl rfl
  replace h := tx_iconst (v := 0) (p' := 31) h em16_30 (by decide +kernel) rfl
  replace h := tx_putf (a := 12) (c := 2) (j := 6) (p' := 34) h em16_31 ((congrFun xo_3 47).trans rfl) rfl
  replace h := tx_aload_n (p' := 35) h em16_34 rfl rfl
  replace h := tx_iconst (v := 0) (p' := 36) h em16_35 (by decide +kernel) rfl
  replace h := tx_putf (a := 12) (c := 2) (j := 9) (p' := 39) h em16_36 ((congrFun xo_3 50).trans rfl) rfl
  replace h := tx_iconst (v := 0) (p' := 40) h em16_39 (by decide +kernel) rfl
  replace h := tx_istore_n (p' := 41) h em16_40 rfl
  replace h : eT xq_16 _ 41 [some (.inr (.inl (some 12))), some (.inl nn), some (.inl (0 : Int32))] [] (xpi (xpi (xpi (xpi μ16 12 3 (0 : Int32)) 12 4 (0 : Int32)) 12 6 (0 : Int32)) 12 9 (0 : Int32)) r μ' := h
  have hq : pqE μ (xpi (xpi (xpi (xpi μ16 12 3 (0 : Int32)) 12 4 (0 : Int32)) 12 6 (0 : Int32)) 12 9 (0 : Int32)) := ⟨fun k j hk => by rw [xpi_ne (fun q => by omega), xpi_ne (fun q => by omega), xpi_ne (fun q => by omega), xpi_ne (fun q => by omega), htF.1 k j (by omega) (by omega) (by omega), hwi.1 k j (by omega)], htF.2.trans hwi.2⟩
  have eB : kB μ4 1 = kB μ 1 := by funext i; unfold kB; rw [hwi.1 1 _ (by decide)]
  rw [eB] at htC
  have e3 : cK (xpi (xpi (xpi (xpi μ16 12 3 (0 : Int32)) 12 4 (0 : Int32)) 12 6 (0 : Int32)) 12 9 (0 : Int32)) = cK μ16 ∧ cP (xpi (xpi (xpi (xpi μ16 12 3 (0 : Int32)) 12 4 (0 : Int32)) 12 6 (0 : Int32)) 12 9 (0 : Int32)) = cP μ16 ∧ cS (xpi (xpi (xpi (xpi μ16 12 3 (0 : Int32)) 12 4 (0 : Int32)) 12 6 (0 : Int32)) 12 9 (0 : Int32)) = cS μ16 := ⟨by rw [cK_p.1, cK_p.1, cK_p.1, cK_p.1], by rw [cK_p.2.1, cK_p.2.1, cK_p.2.1, cK_p.2.1], by rw [cK_p.2.2, cK_p.2.2, cK_p.2.2, cK_p.2.2]⟩
  have htv0 : cTV (xpi (xpi (xpi (xpi μ16 12 3 (0 : Int32)) 12 4 (0 : Int32)) 12 6 (0 : Int32)) 12 9 (0 : Int32)) E := by
    refine cTV_of (n := nn.toInt) (μ := μ) hn1 (by rw [e3.1, e3.2.1, e3.2.2]; exact htC) (by rw [e3.1]; exact htE) (fun j => hq.1 1 j (by decide))
  have z13 : ∀ j, (xpi (xpi (xpi (xpi μ16 12 3 (0 : Int32)) 12 4 (0 : Int32)) 12 6 (0 : Int32)) 12 9 (0 : Int32)).1 13 j = μ4.1 13 j := fun j => (htF.1 13 j (by decide) (by decide) (by decide))
  have eH : cH (xpi (xpi (xpi (xpi μ16 12 3 (0 : Int32)) 12 4 (0 : Int32)) 12 6 (0 : Int32)) 12 9 (0 : Int32)) = 0 := by unfold cH; rw [z13 0, hz0]; decide
  have eU : cU (xpi (xpi (xpi (xpi μ16 12 3 (0 : Int32)) 12 4 (0 : Int32)) 12 6 (0 : Int32)) 12 9 (0 : Int32)) = 0 := by unfold cU; rw [z13 1, hz1]; decide
  have e9 : ((xpi (xpi (xpi (xpi μ16 12 3 (0 : Int32)) 12 4 (0 : Int32)) 12 6 (0 : Int32)) 12 9 (0 : Int32)).1 12 9).toInt = 0 := by rw [xpi_at]; decide
  have eN : cN (xpi (xpi (xpi (xpi μ16 12 3 (0 : Int32)) 12 4 (0 : Int32)) 12 6 (0 : Int32)) 12 9 (0 : Int32)) = [] := by unfold cN cNn; rw [e9]; rfl
  have eA : cA (xpi (xpi (xpi (xpi μ16 12 3 (0 : Int32)) 12 4 (0 : Int32)) 12 6 (0 : Int32)) 12 9 (0 : Int32)) = 0 := by unfold cA; rfl
  have hI : paI E (0 : Int32).toInt (cTx (xpi (xpi (xpi (xpi μ16 12 3 (0 : Int32)) 12 4 (0 : Int32)) 12 6 (0 : Int32)) 12 9 (0 : Int32)) 401 0 0 0 [] (cW (xpi (xpi (xpi (xpi μ16 12 3 (0 : Int32)) 12 4 (0 : Int32)) 12 6 (0 : Int32)) 12 9 (0 : Int32)))) (xpi (xpi (xpi (xpi μ16 12 3 (0 : Int32)) 12 4 (0 : Int32)) 12 6 (0 : Int32)) 12 9 (0 : Int32)) (xpi (xpi (xpi (xpi μ16 12 3 (0 : Int32)) 12 4 (0 : Int32)) 12 6 (0 : Int32)) 12 9 (0 : Int32)) := by
    refine ⟨gE_rf, htv0, Or.inl ⟨rfl, ⟨by rw [eH]; omega, by rw [eU]; omega, by rw [e9, eH, eU]; decide, fun i hi => ?_⟩, by rw [eA]; omega, by rw [eA]; exact htC.1.1, by decide, by rw [eA]; decide, by rw [eA, eH, eU, eN]; rfl⟩⟩
    exfalso
    unfold cNn at hi
    rw [e9] at hi
    exact absurd (show i < 0 from hi) (Nat.not_lt_zero i)
  obtain ⟨l1, x, l2, l3, l4⟩ := pa_loop _ _ _ h hI
  refine ⟨x, E, cW (xpi (xpi (xpi (xpi μ16 12 3 (0 : Int32)) 12 4 (0 : Int32)) 12 6 (0 : Int32)) 12 9 (0 : Int32)), l2, ⟨fun k j hk => (l1.1 k j (by omega) (by omega)).trans (hq.1 k j hk), l1.2.trans hq.2⟩, gE_TV l1 htv0, ?_, ?_, ?_, by unfold cW; rfl, ?_, ?_, fun hz => ?_⟩
  · rw [gE_K l1, gE_P l1, gE_S l1, e3.1, e3.2.1, e3.2.2]; exact htC
  · rw [gE_K l1, e3.1]; exact htK
  · rw [gE_K l1, e3.1]; exact htE
  · rw [gE_cTx l1]; exact l3
  · rw [gE_cTx l1]; exact l4
  · rw [gE_cTx l1] at hz
    rw [gE_K l1, gE_cT l1, gE_V l1]
    refine kpa_loop hz _ _ _ h hI (fun _ => ⟨hS16.1, kS0, ?_, kWf_0, by rw [eA, eH, eU]; rfl⟩)
    exact sC_cg (fun k j a b => (xpi_ne (fun q => by omega)).trans ((xpi_ne (fun q => by omega)).trans ((xpi_ne (fun q => by omega)).trans (xpi_ne (fun q => by omega))))) (sE_C hS16 hC4)
