/-! ===== two texts of the same bytes tell the same laws ===== -/
theorem ysF_cg {E : Int} {K K' vl vl' : Int → Int} (hK : ∀ a, 0 ≤ a → a ≤ E → K' a = K a) (hv : ∀ a, 0 ≤ a → a ≤ E → K a = 3 → vl' a = vl a) (h1 : E < 400 → K E ≤ 1) (h4 : E ≤ 400) : ∀ (n : Nat) (a d : Int) (m : Bool) (w : List Int), 0 ≤ a → a ≤ E → ysF K' vl' n a d m w = ysF K vl n a d m w
  | 0, _, _, _, _, _, _ => by unfold ysF; rfl
  | n + 1, a, d, false, w, h0, hE => by
    have e := hK a h0 hE
    have on : ¬ a = 400 → 2 ≤ K a → a + 1 ≤ E := fun h5 h2 => by
      by_cases q : a = E
      · subst q; have := h1 (by omega); omega
      · omega
    show (if K' a = 40 then _ else if K' a = 3 then _ else if 140 ≤ K' a then _ else _) = (if K a = 40 then _ else if K a = 3 then _ else if 140 ≤ K a then _ else _)
    rw [e]
    by_cases c1 : K a = 40
    · rw [if_pos c1, if_pos c1]
      by_cases q : d = 6 ∨ a = 400
      · rw [if_pos q, if_pos q]
      · rw [if_neg q, if_neg q]
        exact ysF_cg hK hv h1 h4 n _ _ _ _ (by omega) (on (by omega) (by omega))
    · rw [if_neg c1, if_neg c1]
      by_cases c2 : K a = 3
      · rw [if_pos c2, if_pos c2, hv a h0 hE c2]
        by_cases q : a = 400
        · rw [if_pos q, if_pos q]
        · rw [if_neg q, if_neg q, ysF_cg hK hv h1 h4 n _ _ _ _ (by omega) (on q (by omega))]
      · rw [if_neg c2, if_neg c2]
        by_cases c3 : 140 ≤ K a
        · rw [if_pos c3, if_pos c3]
          by_cases q : a = 400
          · rw [if_pos q, if_pos q]
          · rw [if_neg q, if_neg q, ysF_cg hK hv h1 h4 n _ _ _ _ (by omega) (on q (by omega))]
        · rw [if_neg c3, if_neg c3]
  | n + 1, a, d, true, w, h0, hE => by
    have e := hK a h0 hE
    have on : ¬ a = 400 → 2 ≤ K a → a + 1 ≤ E := fun h5 h2 => by
      by_cases q : a = E
      · subst q; have := h1 (by omega); omega
      · omega
    show (if K' a = 41 ∧ 0 < d then _ else if K' a = 43 ∨ K' a = 45 ∨ K' a = 42 ∨ K' a = 47 then _ else _) = (if K a = 41 ∧ 0 < d then _ else if K a = 43 ∨ K a = 45 ∨ K a = 42 ∨ K a = 47 then _ else _)
    rw [e]
    by_cases c1 : K a = 41 ∧ 0 < d
    · rw [if_pos c1, if_pos c1]
      by_cases q : a = 400
      · rw [if_pos q, if_pos q]
      · rw [if_neg q, if_neg q, ysF_cg hK hv h1 h4 n _ _ _ _ (by omega) (on q (by omega))]
    · rw [if_neg c1, if_neg c1]
      by_cases c2 : K a = 43 ∨ K a = 45 ∨ K a = 42 ∨ K a = 47
      · rw [if_pos c2, if_pos c2]
        by_cases q : a = 400
        · rw [if_pos q, if_pos q]
        · rw [if_neg q, if_neg q, ysF_cg hK hv h1 h4 n _ _ _ _ (by omega) (on q (by omega))]
      · rw [if_neg c2, if_neg c2]
theorem ys_cg {E : Int} {K K' vl vl' : Int → Int} (hK : ∀ a, 0 ≤ a → a ≤ E → K' a = K a) (hv : ∀ a, 0 ≤ a → a ≤ E → K a = 3 → vl' a = vl a) (h1 : E < 400 → K E ≤ 1) (h4 : E ≤ 400) {a d : Int} {m : Bool} {w : List Int} (h0 : 0 ≤ a) (hE : a ≤ E) : ys K' vl' a d m w = ys K vl a d m w := ysF_cg hK hv h1 h4 _ _ _ _ _ h0 hE
theorem acc_E {E : Int} {K : Int → Int} (h1 : E < 400 → K E ≤ 1) (h4 : E ≤ 400) {k a : Int} (hk : 2 ≤ k) (h0 : 0 ≤ a) (hE : a ≤ E) (h : (pAcc K k a).2 = 0) : K a = k ∧ (pAcc K k a).1 = a + 1 ∧ a + 1 ≤ E := by
  obtain ⟨e1, e2⟩ := pAcc_0 h
  have := (cg_acc (K := K) (K' := K) (fun _ _ _ => rfl) h1 h4 hk a h0 hE).2.2
  exact ⟨e1, e2, by omega⟩
theorem kLF_cg {E : Int} {K K' vl vl' : Int → Int} (hK : ∀ a, 0 ≤ a → a ≤ E → K' a = K a) (hv : ∀ a, 0 ≤ a → a ≤ E → K a = 3 → vl' a = vl a) (h1 : E < 400 → K E ≤ 1) (h4 : E ≤ 400) : ∀ (n : Nat) (a : Int), 0 ≤ a → a ≤ E → (wLaw K n a).2 = 0 → kLF K' vl' n a = kLF K vl n a
  | 0, a, h0, hE, _ => by
    show (([], ys K' vl' a 0 false []) : kLw) = ([], ys K vl a 0 false [])
    rw [ys_cg hK hv h1 h4 h0 hE]
  | n + 1, a, h0, hE, h => by
    by_cases c : K a = 137
    · rw [wLaw_if c] at h
      obtain ⟨g1, h, -⟩ := pSeq_0 h
      obtain ⟨-, a1, b1⟩ := acc_E h1 h4 (by decide) h0 hE g1
      rw [a1] at h
      obtain ⟨g2, h, -⟩ := pSeq_0 h
      have x2 := cg_ex hK h1 h4 (a + 1) (by omega) b1
      obtain ⟨g3, h, -⟩ := pSeq_0 h
      obtain ⟨-, a3, b3⟩ := acc_E h1 h4 (by decide) (by omega) x2.2.2 g3
      rw [a3] at h
      obtain ⟨g4, h, -⟩ := pSeq_0 h
      have x4 := cg_ex hK h1 h4 _ (by omega) b3
      obtain ⟨g5, h, -⟩ := pSeq_0 h
      obtain ⟨-, a5, b5⟩ := acc_E h1 h4 (by decide) (by omega) x4.2.2 g5
      rw [a5] at h
      obtain ⟨g6, h, -⟩ := pSeq_0 h
      have x6 := cg_ex hK h1 h4 _ (by omega) b5
      obtain ⟨g7, h, -⟩ := pSeq_0 h
      obtain ⟨-, a7, b7⟩ := acc_E h1 h4 (by decide) (by omega) x6.2.2 g7
      rw [a7] at h
      have c' : K' a = 137 := by rw [hK a h0 hE]; exact c
      have p2 : pEx K (a + 1) = ((pEx K (a + 1)).1, 0) := Prod.ext rfl g2
      have p4 : pEx K ((pEx K (a + 1)).1 + 1) = ((pEx K ((pEx K (a + 1)).1 + 1)).1, 0) := Prod.ext rfl g4
      have p6 : pEx K ((pEx K ((pEx K (a + 1)).1 + 1)).1 + 1) = ((pEx K ((pEx K ((pEx K (a + 1)).1 + 1)).1 + 1)).1, 0) := Prod.ext rfl g6
      rw [kLF_if c p2 p4 p6, kLF_if c' (x2.1.trans p2) (x4.1.trans p4) (x6.1.trans p6), ys_cg hK hv h1 h4 (by omega) b1, ys_cg hK hv h1 h4 (by omega) b3, ys_cg hK hv h1 h4 (by omega) b5, kLF_cg hK hv h1 h4 n _ (by omega) b7 h]
    · have c' : ¬ K' a = 137 := by rw [hK a h0 hE]; exact c
      rw [kLF_end c, kLF_end c', ys_cg hK hv h1 h4 h0 hE]
/-- a law told: both sides print the same -/
theorem kLF_same {E h v : Int} {K K' vl vl' : Int → Int} (hK : ∀ a, 0 ≤ a → a ≤ E → K' a = K a) (hv : ∀ a, 0 ≤ a → a ≤ E → K a = 3 → vl' a = vl a) (h1 : E < 400 → K E ≤ 1) (h4 : E ≤ 400) {a : Int} (h0 : 0 ≤ a) (hE : a ≤ E) (hk : 130 ≤ K a ∧ K a ≤ 133) (hs : (pTell K h v a).2 = 0) : kLF K' vl' 4 (a + 2) = kLF K vl 4 (a + 2) := by
  rw [pTell_l hk] at hs
  obtain ⟨g1, hs, -⟩ := pSeq_0 hs
  obtain ⟨-, a1, b1⟩ := acc_E h1 h4 (by omega) h0 hE g1
  rw [a1] at hs
  obtain ⟨g2, hs, -⟩ := pSeq_0 hs
  obtain ⟨-, a2, b2⟩ := acc_E h1 h4 (by decide) (by omega) b1 g2
  rw [a2, show a + 1 + 1 = a + 2 by omega] at hs
  exact kLF_cg hK hv h1 h4 4 (a + 2) (by omega) (by omega) hs
/-- a script over another: its laws -/
theorem bcQ_L {F : Nat → Option kLw} {μ μ' : xM} (h : bcQ μ μ') (hs : lC 13 F μ) : lC 2 F μ' := by
  obtain ⟨-, q1, -, -, -, q5, q6⟩ := h
  obtain ⟨⟨a1, a2⟩, b⟩ := hs
  have e14 : μ'.1 2 14 = μ.1 13 14 := q1 14 (Or.inr rfl)
  refine ⟨by rw [e14]; exact ⟨a1, a2⟩, fun k hk => ?_⟩
  obtain ⟨b1, s, b2, b3, b4⟩ := b k hk
  refine ⟨b1, s, ?_, by rw [e14]; exact b3, fun i hi => ?_⟩
  · show (μ'.1 9 k).toInt = _
    rw [q5 k hk]; exact b2
  · have q := q6 (s + i) (by omega)
    show (μ'.1 10 (s + i)).toInt = _ ∧ (μ'.1 11 (s + i)).toInt = _
    rw [q.1, q.2]
    exact b4 i hi
theorem same_tok {μ ν ν' : xM} {B S' : Int → Int} {n E m : Int} (hB : ∀ i, 0 ≤ i → i < n → B i = kB μ 1 i) (hν : ∀ j, ν.1 1 j = μ.1 1 j) (h : tkC (kB μ 1) n (cP ν) (cS ν) (cK ν) E) (h2 : ∀ a, 0 ≤ a → a < E → 2 ≤ cK ν a) (h1 : E < 400 → cK ν E ≤ 1) (g : tkC B n (rP ν') S' (rK ν') m) (g0 : m < 400 → rK ν' m = 0) (gv : rkV B S' ν' (m + 1)) : (∀ a, 0 ≤ a → a ≤ E → rK ν' a = cK ν a) ∧ ∀ a, 0 ≤ a → a ≤ E → cK ν a = 3 → rVl ν' a = cV ν a := by
  have hC := tkC_cg hB h
  have hs := tk_same hC h2 g g0
  have eB : kB ν 1 = kB μ 1 := by funext i; unfold kB; rw [hν]
  have at_ : ∀ a : Int, 0 ≤ a → a ≤ E → a ≤ m ∧ rP ν' a = cP ν a ∧ rK ν' a = cK ν a ∧ (¬ cK ν a = 0 → S' a = cS ν a) := fun a a0 a1 => by
    have := hs a.toNat (by omega)
    rw [show ((a.toNat : Nat) : Int) = a by omega] at this
    exact this
  -- a name
  have nm : ∀ a : Int, 0 ≤ a → a ≤ E → cK ν a = 2 → (0 ≤ cP ν a ∧ 1 ≤ cS ν a ∧ cS ν a ≤ 8 ∧ cP ν a + cS ν a ≤ n) ∧ (∀ k : Nat, k < (cS ν a).toNat → tkLo (kB μ 1 (cP ν a + k))) ∧ rNm ν' a = qzR (tkEs (kB μ 1) (cP ν a) (cS ν a).toNat) := fun a a0 a1 hk => by
    obtain ⟨q1, q2, q3, q4⟩ := at_ a a0 a1
    have q4 := q4 (by omega)
    rcases tkC_at h a0 a1 with ⟨-, -, z⟩ | ⟨z1, z2, z3, z4, z5⟩
    · omega
    · rw [hk] at z4
      obtain ⟨d1, d2⟩ := tkKd_2 z4
      have hz := z3.1
      refine ⟨⟨z1, hz.1, d2, hz.2⟩, fun k hk2 => tkSz_l z3 d1 _ (by omega) (by omega), ?_⟩
      have hv := (gv a a0 (by omega)).2 (by rw [q3, hk]; decide)
      rw [q2, q4] at hv
      rw [hv (by rw [hB _ z1 z2]; exact d1) d2]
      congr 1
      exact tkEs_cg (fun k hk2 => hB _ (by omega) (by omega))
  refine ⟨fun a a0 a1 => (at_ a a0 a1).2.2.1, fun a a0 a1 ka => ?_⟩
  obtain ⟨q1, q2, q3, q4⟩ := at_ a a0 a1
  have q4 := q4 (by omega)
  rcases tkC_at h a0 a1 with ⟨-, -, z⟩ | ⟨z1, z2, z3, z4, z5⟩
  · omega
  · have hz := z3.1
    rw [(gv a a0 (by omega)).1 (by rw [q3, ka]), q2, q4]
    unfold cV
    rw [cDg_d z1, eB]
    exact dgv_cg (fun j hj => hB _ (by omega) (by omega))
set_option maxRecDepth 10000 in
set_option maxHeartbeats 4000000 in
theorem kz_cread {μ μ' : xM} {r : Option zV} (h0 : Ex gx xq_98 [.inr (.inl (some 0))] μ r μ') (hn : 0 ≤ (μ.1 0 6).toInt ∧ (μ.1 0 6).toInt ≤ 2000) (hO : hOK μ) : ∃ (x : Int32) (ν : xM) (E : Int) (w : Int × Int), r = some (.inl x) ∧ cTV ν E ∧ tkC (kB μ 1) (μ.1 0 6).toInt (cP ν) (cS ν) (cK ν) E ∧ (∀ a, 0 ≤ a → a < E → 2 ≤ cK ν a) ∧ (E < 400 → cK ν E ≤ 1) ∧ w.1 = 0 ∧ x.toInt = (cTx ν 401 0 0 0 [] w).1 ∧ (∀ j, ν.1 1 j = μ.1 1 j) ∧ hOK μ' ∧ (¬ x.toInt = 0 → ∀ k j, 2 ≤ k → k ≤ 11 → μ'.1 k j = μ.1 k j) ∧ (x.toInt = 0 → (sC 2 (kText (cK ν) (cT ν) (cV ν) (kLF (cK ν) (cV ν) 4) 401 0 0 0 kS0) μ' ∧ lC 2 (kText (cK ν) (cT ν) (cV ν) (kLF (cK ν) (cV ν) 4) 401 0 0 0 kS0).2.2.2 μ') ∧ kWf (kText (cK ν) (cT ν) (cV ν) (kLF (cK ν) (cV ν) 4) 401 0 0 0 kS0)) := by
  obtain ⟨n, h⟩ := tx_in (L := [some (.inr (.inl (some 0))), none]) h0 rfl
  replace h := tx_aload_n (p' := 1) h em98_0 rfl rfl
  replace h := tx_getc (c := 11) (j := 10) (p' := 4) h em98_1 ((congrFun xo_0 32).trans rfl) rfl rfl rfl
  replace h := tx_aload_n (p' := 5) h em98_4 rfl rfl
  replace h := tx_getf (c := 11) (j := 6) (p' := 8) h em98_5 ((congrFun xo_0 13).trans rfl) rfl rfl (by decide) rfl
  obtain ⟨r8, μ8, hE8, h⟩ := tx_invV (na := 2) (mn := 16) (as := [.inr (.inl (some 12)), .inl (μ.1 0 6)]) (rest := []) (p' := 11) h em98_8 ((congrFun xo_0 113).trans rfl) xm_16 rfl rfl
  have hc8 := cE_w (μ := μ) (by decide +kernel) (hf_16_0 hE8 (hEn0 (by decide)) hO).2 hO
  obtain ⟨x, E, w, rfl, hpq, htv, htC, htK, htE, hw0, hx1, hx2, hx3⟩ := kz_parse hE8 hn.1 hn.2 hO
  replace h : eT xq_98 _ 11 [some (.inr (.inl (some 0))), none] [.inl x] μ8 r μ' := h
  replace h := tx_istore_n (p' := 12) h em98_11 rfl
  replace h : eT xq_98 _ 12 [some (.inr (.inl (some 0))), some (.inl x)] [] μ8 r μ' := h
  replace h := tx_aload_n (p' := 13) h em98_12 rfl rfl
  replace h := tx_iconst (v := 0) (p' := 14) h em98_13 (by decide +kernel) rfl
  replace h := tx_putf (a := 0) (c := 11) (j := 6) (p' := 17) h em98_14 ((congrFun xo_0 13).trans rfl) rfl
  replace h := tx_aload_n (p' := 18) h em98_17 rfl rfl
  replace h := tx_iload_n (p' := 19) h em98_18 rfl rfl
  rcases tx_if (t := 26) (p' := 22) h em98_19 (by decide) rfl with ⟨c19, h⟩ | ⟨c19, h⟩
  · replace c19 : ¬ x.toInt = 0 := c19
    replace h := tx_aload_n (p' := 27) h em98_26 rfl rfl
    replace h := tx_getc (c := 11) (j := 10) (p' := 30) h em98_27 ((congrFun xo_0 32).trans rfl) rfl rfl rfl
    replace h := tx_getf (c := 2) (j := 5) (p' := 33) h em98_30 ((congrFun xo_0 117).trans rfl) rfl rfl (by decide) rfl
    replace h : eT xq_98 _ 33 [some (.inr (.inl (some 0))), some (.inl x)] [.inl (μ8.1 12 5), .inr (.inl (some 0))] (xpi μ8 0 6 (0 : Int32)) r μ' := h
    replace h := tx_putf (a := 0) (c := 11) (j := 9) (p' := 36) h em98_33 ((congrFun xo_0 17).trans rfl) rfl
    replace h := tx_iload_n (p' := 37) h em98_36 rfl rfl
    rcases tx_if (t := 58) (p' := 40) h em98_37 (by decide) rfl with ⟨c37, h⟩ | ⟨c37, h⟩
    · replace c37 : ¬ x.toInt = 0 := c37
      replace h := tx_iload_n (p' := 59) h em98_58 rfl rfl
      obtain ⟨rfl, hμ⟩ := tx_ireturn h em98_59
      rw [hμ]
      refine ⟨x, μ8, E, w, rfl, htv, htC, htK, htE, hw0, hx1, fun j => hpq.1 1 j (by decide), hc8.1, fun _ k j a b => (xpi_ne (fun q => by omega)).trans ((xpi_ne (fun q => by omega)).trans (hc8.2 k j a b)), fun q => ?_⟩
      exfalso
      omega
    · replace c37 : ¬ ¬ x.toInt = 0 := c37
      replace h := tx_aload_n (p' := 41) h em98_40 rfl rfl
      replace h := tx_getc (c := 11) (j := 0) (p' := 44) h em98_41 ((congrFun xo_0 23).trans rfl) rfl rfl rfl
      replace h := tx_aload_n (p' := 45) h em98_44 rfl rfl
      replace h := tx_getc (c := 11) (j := 10) (p' := 48) h em98_45 ((congrFun xo_0 32).trans rfl) rfl rfl rfl
      replace h := tx_getc (c := 2) (j := 0) (p' := 51) h em98_48 ((congrFun xo_0 120).trans rfl) rfl rfl rfl
      obtain ⟨r51, μ51, hE51, h⟩ := tx_invV (na := 2) (mn := 44) (as := [.inr (.inl (some 2)), .inr (.inl (some 13))]) (rest := []) (p' := 54) h em98_51 ((congrFun xo_0 121).trans rfl) xm_44 rfl rfl
      have hbc := kb_become hE51
      have er51 := ex_void [0, 1, 2, 5, 8, 9, 10, 13, 16, 17, 18, 21, 24, 25, 26, 29, 32, 33, 34, 37, 40, 41, 42, 45, 48, 49, 52, 53, 54, 57, 58, 60, 63, 64, 67, 68, 69, 72, 73, 75, 78, 79, 82, 83, 84, 87, 88, 90, 93, 94, 97, 98, 99, 102, 103, 105, 108, 109, 112, 113, 114, 117, 118, 120, 123, 124, 127, 128, 129, 132, 133, 135, 138, 139, 142, 143, 144, 147, 148, 149, 152, 153, 156, 157, 158, 161, 162, 165, 168, 169, 172, 173, 174, 177, 178, 181, 184, 185] (by decide +kernel) hE51
      subst er51
      replace h : eT xq_98 _ 54 [some (.inr (.inl (some 0))), some (.inl x)] [] μ51 r μ' := h
      replace h := tx_aload_n (p' := 55) h em98_54 rfl rfl
      obtain ⟨r55, μ55, hE55, h⟩ := tx_invV (na := 1) (mn := 74) (as := [.inr (.inl (some 0))]) (rest := []) (p' := 58) h em98_55 ((congrFun xo_0 124).trans rfl) xm_74 rfl rfl
      have hO51 : hOK μ51 := hOK_2 (hbc.1.trans rfl) hc8.1
      have hc55 := cE_w (μ := μ51) (by decide +kernel) (hf_74_0 hE55 (hEn0 (by decide)) hO51).2 hO51
      have er55 := ex_void [0, 1, 4, 5, 8, 11, 12, 15, 16, 19, 20, 23, 24, 27, 28, 29, 30, 31, 34, 35, 38, 39, 40, 41, 44, 47, 48] (by decide +kernel) hE55
      subst er55
      replace h : eT xq_98 _ 58 [some (.inr (.inl (some 0))), some (.inl x)] [] μ55 r μ' := h
      replace h := tx_iload_n (p' := 59) h em98_58 rfl rfl
      obtain ⟨rfl, hμ⟩ := tx_ireturn h em98_59
      rw [hμ]
      refine ⟨x, μ8, E, w, rfl, htv, htC, htK, htE, hw0, hx1, fun j => hpq.1 1 j (by decide), hc55.1, fun q => ?_, fun q => ?_⟩
      · first
          | exact absurd (show x.toInt = 0 by omega) q
          | (exfalso; omega)
      · obtain ⟨k1, k2, k3⟩ := hx3 (hx1.symm.trans q)
        exact ⟨⟨sC_cg (fun k j a b => hc55.2 k j a (by omega)) (bcQ_C k3 hbc (sC_cg (fun k j a b => (xpi_ne (fun q => by omega)).trans (xpi_ne (fun q => by omega))) k2.1)), lC_cg (bcQ_L hbc (lC_cg k2.2 (fun k j a b => (xpi_ne (fun q => by omega)).trans (xpi_ne (fun q => by omega))) ((xpi_ne (fun q => absurd q.1 (by decide))).trans (xpi_ne (fun q => absurd q.1 (by decide)))))) (fun k j a b => hc55.2 k j (by omega) (by omega)) (hc55.2 2 14 (by decide) (by decide))⟩, k3⟩
  · replace c19 : ¬ ¬ x.toInt = 0 := c19
    replace h := tx_iconst (v := (-1)) (p' := 23) h em98_22 (by decide +kernel) rfl
    replace h := tx_goto (t := 33) h em98_23 (by decide)
    replace h := tx_putf (a := 0) (c := 11) (j := 9) (p' := 36) h em98_33 ((congrFun xo_0 17).trans rfl) rfl
    replace h := tx_iload_n (p' := 37) h em98_36 rfl rfl
    rcases tx_if (t := 58) (p' := 40) h em98_37 (by decide) rfl with ⟨c37_1, h⟩ | ⟨c37_1, h⟩
    · replace c37_1 : ¬ x.toInt = 0 := c37_1
      replace h := tx_iload_n (p' := 59) h em98_58 rfl rfl
      obtain ⟨rfl, hμ⟩ := tx_ireturn h em98_59
      rw [hμ]
      refine ⟨x, μ8, E, w, rfl, htv, htC, htK, htE, hw0, hx1, fun j => hpq.1 1 j (by decide), hc8.1, fun _ k j a b => (xpi_ne (fun q => by omega)).trans ((xpi_ne (fun q => by omega)).trans (hc8.2 k j a b)), fun q => ?_⟩
      exfalso
      omega
    · replace c37_1 : ¬ ¬ x.toInt = 0 := c37_1
      replace h := tx_aload_n (p' := 41) h em98_40 rfl rfl
      replace h := tx_getc (c := 11) (j := 0) (p' := 44) h em98_41 ((congrFun xo_0 23).trans rfl) rfl rfl rfl
      replace h := tx_aload_n (p' := 45) h em98_44 rfl rfl
      replace h := tx_getc (c := 11) (j := 10) (p' := 48) h em98_45 ((congrFun xo_0 32).trans rfl) rfl rfl rfl
      replace h := tx_getc (c := 2) (j := 0) (p' := 51) h em98_48 ((congrFun xo_0 120).trans rfl) rfl rfl rfl
      obtain ⟨r51_1, μ51_1, hE51_1, h⟩ := tx_invV (na := 2) (mn := 44) (as := [.inr (.inl (some 2)), .inr (.inl (some 13))]) (rest := []) (p' := 54) h em98_51 ((congrFun xo_0 121).trans rfl) xm_44 rfl rfl
      have hbc := kb_become hE51_1
      have er51_1 := ex_void [0, 1, 2, 5, 8, 9, 10, 13, 16, 17, 18, 21, 24, 25, 26, 29, 32, 33, 34, 37, 40, 41, 42, 45, 48, 49, 52, 53, 54, 57, 58, 60, 63, 64, 67, 68, 69, 72, 73, 75, 78, 79, 82, 83, 84, 87, 88, 90, 93, 94, 97, 98, 99, 102, 103, 105, 108, 109, 112, 113, 114, 117, 118, 120, 123, 124, 127, 128, 129, 132, 133, 135, 138, 139, 142, 143, 144, 147, 148, 149, 152, 153, 156, 157, 158, 161, 162, 165, 168, 169, 172, 173, 174, 177, 178, 181, 184, 185] (by decide +kernel) hE51_1
      subst er51_1
      replace h : eT xq_98 _ 54 [some (.inr (.inl (some 0))), some (.inl x)] [] μ51_1 r μ' := h
      replace h := tx_aload_n (p' := 55) h em98_54 rfl rfl
      obtain ⟨r55_1, μ55_1, hE55_1, h⟩ := tx_invV (na := 1) (mn := 74) (as := [.inr (.inl (some 0))]) (rest := []) (p' := 58) h em98_55 ((congrFun xo_0 124).trans rfl) xm_74 rfl rfl
      have hO51 : hOK μ51_1 := hOK_2 (hbc.1.trans rfl) hc8.1
      have hc55 := cE_w (μ := μ51_1) (by decide +kernel) (hf_74_0 hE55_1 (hEn0 (by decide)) hO51).2 hO51
      have er55_1 := ex_void [0, 1, 4, 5, 8, 11, 12, 15, 16, 19, 20, 23, 24, 27, 28, 29, 30, 31, 34, 35, 38, 39, 40, 41, 44, 47, 48] (by decide +kernel) hE55_1
      subst er55_1
      replace h : eT xq_98 _ 58 [some (.inr (.inl (some 0))), some (.inl x)] [] μ55_1 r μ' := h
      replace h := tx_iload_n (p' := 59) h em98_58 rfl rfl
      obtain ⟨rfl, hμ⟩ := tx_ireturn h em98_59
      rw [hμ]
      refine ⟨x, μ8, E, w, rfl, htv, htC, htK, htE, hw0, hx1, fun j => hpq.1 1 j (by decide), hc55.1, fun q => ?_, fun q => ?_⟩
      · first
          | exact absurd (show x.toInt = 0 by omega) q
          | (exfalso; omega)
      · obtain ⟨k1, k2, k3⟩ := hx3 (hx1.symm.trans q)
        exact ⟨⟨sC_cg (fun k j a b => hc55.2 k j a (by omega)) (bcQ_C k3 hbc (sC_cg (fun k j a b => (xpi_ne (fun q => by omega)).trans (xpi_ne (fun q => by omega))) k2.1)), lC_cg (bcQ_L hbc (lC_cg k2.2 (fun k j a b => (xpi_ne (fun q => by omega)).trans (xpi_ne (fun q => by omega))) ((xpi_ne (fun q => absurd q.1 (by decide))).trans (xpi_ne (fun q => absurd q.1 (by decide)))))) (fun k j a b => hc55.2 k j (by omega) (by omega)) (hc55.2 2 14 (by decide) (by decide))⟩, k3⟩
