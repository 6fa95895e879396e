theorem kmp_h {x : Int} (h : 128 ≤ kmp x) : kmp x = 108 + x ∧ 20 ≤ x ∧ x ≤ 40 := by
  unfold kmp at *
  repeat' split at h
  all_goals (first | omega | skip)
  all_goals (repeat' split)
  all_goals omega
theorem kmp_l {x : Int} (h : 20 ≤ x ∧ x ≤ 40) : kmp x = 108 + x := by
  unfold kmp
  repeat' split
  all_goals omega
theorem kmp_p {x : Int} (h : 0 ≤ kmp x) : 0 ≤ x ∧ x ≤ 40 := by
  unfold kmp at h
  repeat' split at h
  all_goals omega
theorem rOT_x {m : Int} {ns : List Int} {F : pP} {N : Int → Int × Int → Int × Int} {μ μ' : xM} (hf : rF μ = 0) (h : qzN m F N μ μ') (hF : pTell (rK μ) (rH μ) (rU μ) (rT μ) = F (rT μ)) (hz : ¬ rF μ' = 0) : rOT m ns μ μ' := by
  obtain ⟨b1, b2, b3, b4⟩ := h
  exact ⟨qzG_s b1, b4.2.1, by rw [hF]; exact (b3 hf).1, fun q => absurd q hz⟩
theorem rOT_e {m : Int} {ns : List Int} {d : Nat} {F : pP} {N : Int → Int × Int → Int × Int} {μ ν ω μ' : xM} (hf : rF μ = 0) (hR : rI ns μ) (h1 : qzS μ ν) (ht : rT ν = rT μ + 1) (h : qzN m F N μ ω) (hz : rF ω = 0) (he : μ' = qzEnd ω ν d (rT ν)) (hF : pTell (rK μ) (rH μ) (rU μ) (rT μ) = F (rT μ)) (hN : N (rT μ) (rW μ) = pLater (rK μ) (rP μ) (rm μ) (rl μ) (rVl μ) ns (rT μ) (rW μ)) (hd : (d = 84 ∧ rK μ (rT μ) = 128 ∧ rH μ ≤ 4) ∨ (d = 86 ∧ rK μ (rT μ) = 129 ∧ rU μ ≤ 6)) : rOT m ns μ μ' := by
  obtain ⟨b1, b2, b3, b4, b5, b6⟩ := h
  obtain ⟨c1, c2⟩ := b3 hf
  obtain ⟨c3, c4⟩ := c2 hz
  obtain ⟨b61, b62, b63, b64⟩ := b6 hz
  obtain ⟨⟨n1, n2⟩, ⟨H1, H2⟩, ⟨U1, U2⟩, ⟨S1, S2⟩, HU⟩ := hR
  obtain ⟨e1, e2, e3⟩ := qzS_H b1
  have e1i : (1 : Int32).toInt = 1 := by decide
  have f33 : ν.1 75 33 = μ.1 75 33 := h1.2.1 33 (by decide) (by decide) (by decide) (by decide) (by decide)
  have f32 : rSd ν = rSd μ := (qzS_H h1).2.2
  have w32 : rSd ω = rSd μ := e3
  have fd : ν.1 d (rSd ν).toNat = μ.1 d (rSd μ).toNat := by
    rw [f32]
    rcases hd with ⟨rfl, -⟩ | ⟨rfl, -⟩
    · exact h1.1 84 _ (by decide) (by decide)
    · exact h1.1 86 _ (by decide) (by decide)
  have hd75 : ¬ (75 : Nat) = d := by omega
  have hm75 : ∀ j, j ≠ 33 → μ'.1 75 j = ω.1 75 j := fun j hj => by
    rw [he]
    unfold qzEnd
    rw [xpi_ne (fun q => hd75 q.1), xpi_ne (fun q => hj q.2)]
    rfl
  have hmk : ∀ k j, k ≠ 75 → k ≠ d → μ'.1 k j = ω.1 k j := fun k j hk hk2 => by
    rw [he]
    unfold qzEnd
    rw [xpi_ne (fun q => hk2 q.1), xpi_ne (fun q => hk q.1)]
    rfl
  have hml : ∀ k j, k ≠ 83 → μ'.2.1 k j = ω.2.1 k j := fun k j hk => by
    rw [he]
    show (if k = 83 ∧ j = _ then _ else ω.2.1 k j) = _
    rw [if_neg (fun q => hk q.1)]
  have hn83 : ∀ j, μ'.2.1 83 j = if j = (ν.1 75 33).toInt.toNat then ν.2.1 81 (rT ν).toNat else ω.2.1 83 j := fun j => by
    rw [he]
    show (if 83 = 83 ∧ j = _ then _ else ω.2.1 83 j) = _
    by_cases q : j = (ν.1 75 33).toInt.toNat
    · rw [if_pos ⟨rfl, q⟩, if_pos q]
    · rw [if_neg (fun x => q x.2), if_neg q]
  have h33 : (μ'.1 75 33).toInt = ns.length + 1 := by
    rw [he]
    unfold qzEnd
    rw [xpi_ne (fun q => hd75 q.1), xpi_at, an_add (by rw [f33, e1i]; omega) (by rw [f33, e1i]; omega), f33, e1i]
    omega
  have hG : qzG ω μ' := ⟨fun k j a b => hmk k j a (by omega), fun j a b _ _ _ _ => hm75 j b, hml, by rw [he]; rfl⟩
  have hG2 := qzG_tr (qzG_s b1) hG
  have hT : rT μ' = rT ω := by unfold rT; rw [hm75 25 (by decide)]
  have hQ : rQ μ' = rQ ω := by unfold rQ; rw [hm75 26 (by decide)]
  have hFF : rF μ' = rF ω := by unfold rF; rw [hm75 27 (by decide)]
  have hV : rV μ' = rV ω := by unfold rV; rw [hm75 28 (by decide)]
  have hW : rW μ' = rW ω := by unfold rW; rw [hm75 29 (by decide), hm75 30 (by decide)]
  have hS : rSd μ' = rSd μ := by rw [← w32]; unfold rSd; rw [hm75 32 (by decide)]
  have hdd : (μ'.1 d (rSd μ).toNat).toInt = (μ.1 d (rSd μ).toNat).toInt + 1 := by
    rw [he]
    unfold qzEnd
    have fd2 := fd
    rw [f32] at fd2
    have hq : 0 ≤ (μ.1 d (rSd μ).toNat).toInt ∧ (μ.1 d (rSd μ).toNat).toInt ≤ 7 := by
      rcases hd with ⟨rfl, -, q⟩ | ⟨rfl, -, q⟩
      · exact ⟨H1, by have : rH μ ≤ 7 := (by omega); exact this⟩
      · exact ⟨U1, U2⟩
    rw [f32, xpi_at]
    rw [fd2, an_add (by rw [e1i]; omega) (by rw [e1i]; omega), e1i]
  have hHU : rH μ' = (if rK μ (rT μ) = 128 then rH μ + 1 else rH μ) ∧ rU μ' = (if rK μ (rT μ) = 129 then rU μ + 1 else rU μ) := by
    rcases hd with ⟨rfl, q, -⟩ | ⟨rfl, q, -⟩
    · rw [if_pos q, if_neg (by omega)]
      refine ⟨?_, ?_⟩
      · unfold rH; rw [hS]; exact hdd
      · unfold rU; rw [hS, hmk 86 _ (by decide) (by decide), b1.1 86 _ (by decide) (by decide)]
    · rw [if_neg (by omega), if_pos q]
      refine ⟨?_, ?_⟩
      · unfold rH; rw [hS, hmk 84 _ (by decide) (by decide), b1.1 84 _ (by decide) (by decide)]
      · unfold rU; rw [hS]; exact hdd
  have hKK : rK μ (rT μ) = 128 ∨ rK μ (rT μ) = 129 := by
    rcases hd with ⟨-, q, -⟩ | ⟨-, q, -⟩
    · exact Or.inl q
    · exact Or.inr q
  refine ⟨hG2, by omega, ?_, fun _ => ⟨⟨qzG_T hG b4, by omega, fun _ => ?_⟩, by omega, ?_, by rw [hW, c4, hN], hHU⟩⟩
  · rw [hF]
    rcases c1 with ⟨d1, d2, d3⟩ | ⟨d1, d2, d3⟩
    · exact Or.inl ⟨d1, by omega, by omega⟩
    · exact absurd hz (by omega)
  · rw [hT, hQ, hW, qzG_P hG]
    exact ⟨b61, b62, b63, b64⟩
  · rw [if_pos hKK]
    refine ⟨⟨by rw [h33, List.length_append]; rfl, fun k hk => ?_⟩, ?_, ?_, by rw [hS]; exact ⟨S1, S2⟩, ?_⟩
    · rw [hn83, qzG_N hG2]
      rw [List.length_append] at hk
      have hk : k < ns.length + 1 := hk
      by_cases q : k = (ν.1 75 33).toInt.toNat
      · rw [if_pos q, h1.2.2, ht]
        have q2 : k = ns.length := by rw [q, f33]; omega
        rw [List.getD_eq_getElem?_getD, q2, List.getElem?_append_right (Nat.le_refl _), Nat.sub_self]
        rfl
      · rw [if_neg q, b1.2.2]
        have q2 : k < ns.length := by rw [f33] at q; omega
        rw [n2 k q2, List.getD_eq_getElem?_getD, List.getD_eq_getElem?_getD, List.getElem?_append_left q2]
    · rw [hHU.1]; split
      · rcases hd with ⟨-, q, q2⟩ | ⟨-, q, q2⟩ <;> omega
      · omega
    · rw [hHU.2]; split
      · rcases hd with ⟨-, q, q2⟩ | ⟨-, q, q2⟩ <;> omega
      · omega
    · rw [hHU.1, hHU.2, List.length_append]
      show _ = ((ns.length + 1 : Nat) : Int)
      rcases hd with ⟨-, q, q2⟩ | ⟨-, q, q2⟩
      · rw [if_pos q, if_neg (by omega)]; omega
      · rw [if_neg (by omega), if_pos q]; omega
/-- the notes of names, said of the list -/
theorem nM_any {ns : List Int} {μ : xM} {a : Int} {w : Int × Int} (hR : rI ns μ) : nM μ a w = pNote 3 (rP μ a) (ns.any (fun i => rm μ i a)) w := by
  obtain ⟨⟨n1, n2⟩, -⟩ := hR
  unfold nM
  have e : bl2 (∃ k : Nat, (k : Int) < (μ.1 75 33).toInt ∧ (μ.2.1 83 k).toInt = rNm μ a) = ns.any (fun i => rm μ i a) := by
    refine bl2_e ?_
    rw [List.any_eq_true]
    constructor
    · intro ⟨k, h1, h2⟩
      have h3 : k < ns.length := by omega
      refine ⟨ns.getD k 0, ?_, decide_eq_true (by rw [← n2 k h3]; exact h2)⟩
      rw [List.getD_eq_getElem?_getD, List.getElem?_eq_getElem h3]
      exact List.getElem_mem h3
    · intro ⟨x, h1, h2⟩
      obtain ⟨k, hk, rfl⟩ := List.getElem_of_mem h1
      refine ⟨k, by omega, ?_⟩
      rw [n2 k hk, List.getD_eq_getElem?_getD, List.getElem?_eq_getElem hk]
      exact of_decide_eq_true h2
  rw [e]
theorem nB_0 {m : Int} {μ : xM} {hi a : Int} {w : Int × Int} (hT : qzT μ m) (h0 : 0 ≤ a) (h1 : a ≤ m) (hk : rK μ a = 3) : nB μ 0 hi a w = pNote 5 (rP μ a) (decide (hi < rVl μ a)) w := by
  have hv := (hT.2.2.2.2 a h0 h1).1 hk
  unfold nB
  rw [show decide (rVl μ a < 0 ∨ hi < rVl μ a) = decide (hi < rVl μ a) from decide_eq_decide.mpr ⟨fun q => q.elim (fun q => by omega) id, Or.inr⟩]
theorem pSeq_z {F G : pP} {a : Int} (h : (pSeq F G a).2 = 0) : (F a).2 = 0 ∧ (G (F a).1).2 = 0 := by
  unfold pSeq at h
  by_cases q : (F a).2 = 0
  · rw [if_pos q] at h
    exact ⟨q, h⟩
  · rw [if_neg q] at h
    exact absurd h q
theorem pAcc_z {K : Int → Int} {k a : Int} (h : (pAcc K k a).2 = 0) : K a = k ∧ pAcc K k a = (a + 1, 0) := by
  have h1 : pAcc K k a = ((pAcc K k a).1, 0) := Prod.ext rfl h
  have h2 := pAcc_v h1
  exact ⟨h2.1, by rw [h1, h2.2]⟩
theorem pSeq_y' {F G : pP} {a b : Int} (h : F a = (b, 0)) : pSeq F G a = G b := pSeq_y h
set_option maxRecDepth 10000 in
set_option maxHeartbeats 4000000 in
theorem tell_house {m : Int} {ns : List Int} {μ μ' : xM} {r : Option zV} (h0 : Ex gx xq_219 [.inr (.inl (some 75))] μ r μ') (hI : qzI m μ) (hf : rF μ = 0) (hR : rI ns μ) (hk : rK μ (rT μ) = 128) : r = none ∧ rOT m ns μ μ' := by
  obtain ⟨n, h⟩ := tx_in (L := [some (.inr (.inl (some 75))), none]) h0 rfl
  have hx : (μ.1 78 (μ.1 75 25).toInt.toNat).toInt = 20 := by have h8 := kmp_h (x := (μ.1 78 (μ.1 75 25).toInt.toNat).toInt) (by show 128 ≤ rK μ (rT μ); omega); have h9 : kmp (μ.1 78 (μ.1 75 25).toInt.toNat).toInt = 128 := hk; omega
  have hC : ∀ n ν, eT xq_219 n 81 [some (.inr (.inl (some 75))), none] [] ν r μ' → qzN m pOn nN μ ν → rF ν = 0 → ¬ (μ.1 84 (μ.1 75 32).toInt.toNat).toInt = (5 : Int32).toInt → r = none ∧ rOT m ns μ μ' := by
    intro n ν h hqr hf2 hab
    replace h := tx_aload_n (p' := 82) h em219_81 rfl rfl
    obtain ⟨r82, μ82, hE82, h⟩ := tx_invV (na := 1) (mn := 224) (as := [.inr (.inl (some 75))]) (rest := []) (p' := 85) h em219_82 ((congrFun xo_12 265).trans rfl) xm_224 rfl rfl
    obtain ⟨rfl, ω, hq9, hend⟩ := qz_house hE82 hqr.2.2.2
    replace h : eT xq_219 _ 85 [some (.inr (.inl (some 75))), none] [] μ82 r μ' := h
    replace h := tx_goto (t := 228) h em219_85 (by decide)
    obtain ⟨rfl, hμ⟩ := tx_return h em219_228
    rw [hμ]
    have hpT : pTell (rK μ) (rH μ) (rU μ) (rT μ) = pSeq pOn (pSeq (pAcc (rK μ) 2) (pSeq (pAcc (rK μ) 2) (pAcc (rK μ) 59))) (rT μ) := by
      rw [pTell_h hk (by have h5 := hR.2.1; have e5 : (5 : Int32).toInt = 5 := (by decide); have h6 : ¬ rH μ = (5 : Int32).toInt := hab; omega)]
      exact (pSeq_on hk).symm
    have hst := qz_rf0 hI hqr hf2
    have hone : rT ν = rT μ + 1 ∧ pOn (rT μ) = (rT μ + 1, 0) := by
      by_cases q4 : rT μ = 400
      · exfalso
        have q5 := hst.2.1
        rw [pOn_n q4] at q5
        exact absurd (show (2 : Int) = 0 from q5) (by decide)
      · have q5 := pOn_y q4
        exact ⟨by rw [hst.2.2.1, q5], q5⟩
    rw [qzS_K hqr.1, qzS_nL hqr.1, qzS_nM hqr.1] at hq9
    have hseq := qz_seq hqr hq9
    rcases hend with ⟨hd1, hd2⟩ | ⟨hd1, hd2⟩
    · exact ⟨rfl, by rw [hd2]; exact rOT_x hf hseq hpT (by omega)⟩
    · refine ⟨rfl, rOT_e hf hR hqr.1 hone.1 hseq hd1 hd2 hpT ?_ (Or.inl ⟨rfl, hk, by have h5 := hR.2.1; unfold rH rSd at *; have : ¬ (μ.1 84 (μ.1 75 32).toInt.toNat).toInt = 5 := fun q => hab (q.trans (by decide)); omega⟩)⟩
      have hz := (qz_rf0 hqr.2.2.2 hq9 hd1).2.1
      rw [hone.1] at hz
      obtain ⟨hz1, hz2⟩ := pSeq_z hz
      obtain ⟨k1, hz1⟩ := pAcc_z hz1
      rw [hz1] at hz2
      obtain ⟨hz3, hz4⟩ := pSeq_z hz2
      obtain ⟨k2, hz3⟩ := pAcc_z hz3
      show nL μ (pAcc (rK μ) 2 (pOn (rT μ)).1).1 (nM μ (pOn (rT μ)).1 (nN (rT μ) (rW μ))) = _
      rw [hone.2]
      show nL μ (pAcc (rK μ) 2 (rT μ + 1)).1 (nM μ (rT μ + 1) (rW μ)) = _
      rw [hz1, nM_any hR]
      unfold pLater
      rw [if_pos hk, show rT μ + 2 = rT μ + 1 + 1 by omega]
      rfl
  replace h := tx_aload_n (p' := 1) h em219_0 rfl rfl
  replace h := tx_getc (c := 12) (j := 19) (p' := 4) h em219_1 ((congrFun xo_12 20).trans rfl) rfl rfl rfl
  replace h := tx_aload_n (p' := 5) h em219_4 rfl rfl
  replace h := tx_getf (c := 12) (j := 25) (p' := 8) h em219_5 ((congrFun xo_12 203).trans rfl) rfl rfl (by decide) rfl
  obtain ⟨hb8, h⟩ := tx_iald (len := 403) (p' := 9) h em219_8 rfl rfl
  replace hb8 : 0 ≤ (μ.1 75 25).toInt ∧ (μ.1 75 25).toInt < 403 := hb8
  obtain ⟨t9, ht9, h⟩ := tx_tsw h em219_9
  have e9 : t9 = 60 := by
    have := tsw_k ht9 (k := 0) (off := 51) rfl (by omega) (by omega)
    omega
  subst e9
  replace h : eT xq_219 _ 60 [some (.inr (.inl (some 75))), none] [] μ r μ' := h
  replace h := tx_aload_n (p' := 61) h em219_60 rfl rfl
  replace h := tx_aload_n (p' := 62) h em219_61 rfl rfl
  replace h := tx_getc (c := 12) (j := 3) (p' := 65) h em219_62 ((congrFun xo_12 43).trans rfl) rfl rfl rfl
  replace h := tx_aload_n (p' := 66) h em219_65 rfl rfl
  replace h := tx_getf (c := 12) (j := 32) (p' := 69) h em219_66 ((congrFun xo_12 233).trans rfl) rfl rfl (by decide) rfl
  obtain ⟨hb69, h⟩ := tx_iald (len := 2) (p' := 70) h em219_69 rfl rfl
  replace hb69 : 0 ≤ (μ.1 75 32).toInt ∧ (μ.1 75 32).toInt < 2 := hb69
  replace h := tx_iconst (v := 5) (p' := 71) h em219_70 (by decide +kernel) rfl
  obtain ⟨r71, μ71, hE71, h⟩ := tx_invV (na := 3) (mn := 183) (as := [.inr (.inl (some 75)), .inl (μ.1 84 (μ.1 75 32).toInt.toNat), .inl (5 : Int32)]) (rest := []) (p' := 74) h em219_71 ((congrFun xo_12 261).trans rfl) xm_183 rfl rfl
  obtain ⟨rfl, ⟨hab, hqr⟩ | ⟨hab, hqr⟩⟩ := qz_roomFor hE71 hI hf (by omega)
  · replace h : eT xq_219 _ 74 [some (.inr (.inl (some 75))), none] [] μ71 r μ' := h
    replace h := tx_aload_n (p' := 75) h em219_74 rfl rfl
    replace h := tx_getf (c := 12) (j := 27) (p' := 78) h em219_75 ((congrFun xo_12 200).trans rfl) rfl rfl (by decide) rfl
    rcases tx_if (t := 228) (p' := 81) h em219_78 (by decide) rfl with ⟨c78, h⟩ | ⟨c78, h⟩
    · replace c78 : ¬ (μ71.1 75 27).toInt = 0 := c78
      obtain ⟨rfl, hμ⟩ := tx_return h em219_228
      rw [hμ]
      exact ⟨rfl, rOT_x hf hqr (pTell_hf hk (by show 5 ≤ (μ.1 84 (μ.1 75 32).toInt.toNat).toInt; rw [hab]; decide)) (by unfold rF; omega)⟩
    · replace c78 : ¬ ¬ (μ71.1 75 27).toInt = 0 := c78
      exfalso
      rcases (hqr.2.2.1 hf).1 with ⟨k1, -⟩ | ⟨-, k2, -⟩
      · exact absurd (show (2 : Int) = 0 from k1) (by decide)
      · have k2 : rF μ71 = 2 := k2
        unfold rF at k2
        omega
  · replace h : eT xq_219 _ 74 [some (.inr (.inl (some 75))), none] [] μ71 r μ' := h
    replace h := tx_aload_n (p' := 75) h em219_74 rfl rfl
    replace h := tx_getf (c := 12) (j := 27) (p' := 78) h em219_75 ((congrFun xo_12 200).trans rfl) rfl rfl (by decide) rfl
    rcases tx_if (t := 228) (p' := 81) h em219_78 (by decide) rfl with ⟨c78_1, h⟩ | ⟨c78_1, h⟩
    · replace c78_1 : ¬ (μ71.1 75 27).toInt = 0 := c78_1
      obtain ⟨rfl, hμ⟩ := tx_return h em219_228
      rw [hμ]
      refine ⟨rfl, rOT_x hf (qz_seq hqr (qz_skip (F := (pSeq (pAcc (rK μ) 2) (pSeq (pAcc (rK μ) 2) (pAcc (rK μ) 59)))) (N := nN) hqr.2.2.2 (by have := hqr.2.2.2.2.1; unfold rF at *; omega))) ?_ (by unfold rF; omega)⟩
      rw [pTell_h hk (by have h5 := hR.2.1; have e5 : (5 : Int32).toInt = 5 := (by decide); have h6 : ¬ rH μ = (5 : Int32).toInt := hab; omega)]
      exact (pSeq_on hk).symm
    · replace c78_1 : ¬ ¬ (μ71.1 75 27).toInt = 0 := c78_1
      exact hC _ _ h hqr (by unfold rF; omega) hab
set_option maxRecDepth 10000 in
set_option maxHeartbeats 4000000 in
theorem tell_verse {m : Int} {ns : List Int} {μ μ' : xM} {r : Option zV} (h0 : Ex gx xq_219 [.inr (.inl (some 75))] μ r μ') (hI : qzI m μ) (hf : rF μ = 0) (hR : rI ns μ) (hk : rK μ (rT μ) = 129) : r = none ∧ rOT m ns μ μ' := by
  obtain ⟨n, h⟩ := tx_in (L := [some (.inr (.inl (some 75))), none]) h0 rfl
  have hx : (μ.1 78 (μ.1 75 25).toInt.toNat).toInt = 21 := by have h8 := kmp_h (x := (μ.1 78 (μ.1 75 25).toInt.toNat).toInt) (by show 128 ≤ rK μ (rT μ); omega); have h9 : kmp (μ.1 78 (μ.1 75 25).toInt.toNat).toInt = 129 := hk; omega
  have hC : ∀ n ν, eT xq_219 n 110 [some (.inr (.inl (some 75))), none] [] ν r μ' → qzN m pOn nN μ ν → rF ν = 0 → ¬ (μ.1 86 (μ.1 75 32).toInt.toNat).toInt = (7 : Int32).toInt → r = none ∧ rOT m ns μ μ' := by
    intro n ν h hqr hf2 hab
    replace h := tx_aload_n (p' := 111) h em219_110 rfl rfl
    obtain ⟨r111, μ111, hE111, h⟩ := tx_invV (na := 1) (mn := 225) (as := [.inr (.inl (some 75))]) (rest := []) (p' := 114) h em219_111 ((congrFun xo_12 268).trans rfl) xm_225 rfl rfl
    obtain ⟨rfl, ω, hq9, hend⟩ := qz_verse hE111 hqr.2.2.2
    replace h : eT xq_219 _ 114 [some (.inr (.inl (some 75))), none] [] μ111 r μ' := h
    replace h := tx_goto (t := 228) h em219_114 (by decide)
    obtain ⟨rfl, hμ⟩ := tx_return h em219_228
    rw [hμ]
    have hpT : pTell (rK μ) (rH μ) (rU μ) (rT μ) = pSeq pOn (pSeq (pAcc (rK μ) 2) (pSeq (pAcc (rK μ) 2) (pSeq (pAcc (rK μ) 3) (pSeq (pAcc (rK μ) 3) (pAcc (rK μ) 59))))) (rT μ) := by
      rw [pTell_v hk (by have h5 := hR.2.2.1; have e5 : (7 : Int32).toInt = 7 := (by decide); have h6 : ¬ rU μ = (7 : Int32).toInt := hab; omega)]
      exact (pSeq_on hk).symm
    have hst := qz_rf0 hI hqr hf2
    have hone : rT ν = rT μ + 1 ∧ pOn (rT μ) = (rT μ + 1, 0) := by
      by_cases q4 : rT μ = 400
      · exfalso
        have q5 := hst.2.1
        rw [pOn_n q4] at q5
        exact absurd (show (2 : Int) = 0 from q5) (by decide)
      · have q5 := pOn_y q4
        exact ⟨by rw [hst.2.2.1, q5], q5⟩
    rw [qzS_K hqr.1, qzS_nL hqr.1, qzS_nM hqr.1, qzS_nB hqr.1] at hq9
    have hseq := qz_seq hqr hq9
    rcases hend with ⟨hd1, hd2⟩ | ⟨hd1, hd2⟩
    · exact ⟨rfl, by rw [hd2]; exact rOT_x hf hseq hpT (by omega)⟩
    · refine ⟨rfl, rOT_e hf hR hqr.1 hone.1 hseq hd1 hd2 hpT ?_ (Or.inr ⟨rfl, hk, by have h5 := hR.2.2.1; unfold rU rSd at *; have : ¬ (μ.1 86 (μ.1 75 32).toInt.toNat).toInt = 7 := fun q => hab (q.trans (by decide)); omega⟩)⟩
      have hz := (qz_rf0 hqr.2.2.2 hq9 hd1).2.1
      rw [hone.1] at hz
      obtain ⟨hz1, hz2⟩ := pSeq_z hz
      obtain ⟨k1, hz1⟩ := pAcc_z hz1
      rw [hz1] at hz2
      obtain ⟨hz3, hz4⟩ := pSeq_z hz2
      obtain ⟨k2, hz3⟩ := pAcc_z hz3
      rw [hz3] at hz4
      obtain ⟨hz5, hz6⟩ := pSeq_z hz4
      obtain ⟨k3, hz5⟩ := pAcc_z hz5
      rw [hz5] at hz6
      obtain ⟨hz7, hz8⟩ := pSeq_z hz6
      obtain ⟨k4, hz7⟩ := pAcc_z hz7
      show nB μ 0 99 (pAcc (rK μ) 3 (pAcc (rK μ) 2 (pAcc (rK μ) 2 (pOn (rT μ)).1).1).1).1 (nB μ 0 99 (pAcc (rK μ) 2 (pAcc (rK μ) 2 (pOn (rT μ)).1).1).1 (nL μ (pAcc (rK μ) 2 (pOn (rT μ)).1).1 (nM μ (pOn (rT μ)).1 (nN (rT μ) (rW μ))))) = _
      rw [hone.2]
      show nB μ 0 99 (pAcc (rK μ) 3 (pAcc (rK μ) 2 (pAcc (rK μ) 2 (rT μ + 1)).1).1).1 (nB μ 0 99 (pAcc (rK μ) 2 (pAcc (rK μ) 2 (rT μ + 1)).1).1 (nL μ (pAcc (rK μ) 2 (rT μ + 1)).1 (nM μ (rT μ + 1) (rW μ)))) = _
      rw [hz1]
      show nB μ 0 99 (pAcc (rK μ) 3 (pAcc (rK μ) 2 (rT μ + 1 + 1)).1).1 (nB μ 0 99 (pAcc (rK μ) 2 (rT μ + 1 + 1)).1 (nL μ (rT μ + 1 + 1) (nM μ (rT μ + 1) (rW μ)))) = _
      rw [hz3]
      show nB μ 0 99 (pAcc (rK μ) 3 (rT μ + 1 + 1 + 1)).1 (nB μ 0 99 (rT μ + 1 + 1 + 1) (nL μ (rT μ + 1 + 1) (nM μ (rT μ + 1) (rW μ)))) = _
      rw [hz5]
      show nB μ 0 99 (rT μ + 1 + 1 + 1 + 1) (nB μ 0 99 (rT μ + 1 + 1 + 1) (nL μ (rT μ + 1 + 1) (nM μ (rT μ + 1) (rW μ)))) = _
      have hb := hI.2.2 hf
      have hTm : rT μ + 1 + 1 + 1 + 1 ≤ m := by
        have q1 := (qz_rf0 hqr.2.2.2 hq9 hd1)
        have q2 := (hq9.2.2.2.2.2 hd1).2.1
        have q4 := q1.2.2.1
        rw [hone.1, pSeq_y' hz1, pSeq_y' hz3, pSeq_y' hz5, pSeq_y' hz7] at q4
        rw [hz7] at hz8
        have hz8 : (pAcc (rK μ) 59 (rT μ + 1 + 1 + 1 + 1 + 1)).2 = 0 := hz8
        have q4 : rT ω = (pAcc (rK μ) 59 (rT μ + 1 + 1 + 1 + 1 + 1)).1 := q4
        rw [(pAcc_z hz8).2] at q4
        have q4 : rT ω = rT μ + 1 + 1 + 1 + 1 + 1 + 1 := q4
        omega
      rw [nB_0 hI.1 (by omega) hTm k4, nB_0 hI.1 (by omega) (by omega) k3, nM_any hR]
      unfold pLater
      rw [if_neg (by omega), if_pos hk, show rT μ + 4 = rT μ + 1 + 1 + 1 + 1 by omega, show rT μ + 3 = rT μ + 1 + 1 + 1 by omega, show rT μ + 2 = rT μ + 1 + 1 by omega]
      rfl
  replace h := tx_aload_n (p' := 1) h em219_0 rfl rfl
  replace h := tx_getc (c := 12) (j := 19) (p' := 4) h em219_1 ((congrFun xo_12 20).trans rfl) rfl rfl rfl
  replace h := tx_aload_n (p' := 5) h em219_4 rfl rfl
  replace h := tx_getf (c := 12) (j := 25) (p' := 8) h em219_5 ((congrFun xo_12 203).trans rfl) rfl rfl (by decide) rfl
  obtain ⟨hb8, h⟩ := tx_iald (len := 403) (p' := 9) h em219_8 rfl rfl
  replace hb8 : 0 ≤ (μ.1 75 25).toInt ∧ (μ.1 75 25).toInt < 403 := hb8
  obtain ⟨t9, ht9, h⟩ := tx_tsw h em219_9
  have e9 : t9 = 88 := by
    have := tsw_k ht9 (k := 1) (off := 79) rfl (by omega) (by omega)
    omega
  subst e9
  replace h : eT xq_219 _ 88 [some (.inr (.inl (some 75))), none] [] μ r μ' := h
  replace h := tx_aload_n (p' := 89) h em219_88 rfl rfl
  replace h := tx_aload_n (p' := 90) h em219_89 rfl rfl
  replace h := tx_getc (c := 12) (j := 4) (p' := 93) h em219_90 ((congrFun xo_12 49).trans rfl) rfl rfl rfl
  replace h := tx_aload_n (p' := 94) h em219_93 rfl rfl
  replace h := tx_getf (c := 12) (j := 32) (p' := 97) h em219_94 ((congrFun xo_12 233).trans rfl) rfl rfl (by decide) rfl
  obtain ⟨hb97, h⟩ := tx_iald (len := 2) (p' := 98) h em219_97 rfl rfl
  replace hb97 : 0 ≤ (μ.1 75 32).toInt ∧ (μ.1 75 32).toInt < 2 := hb97
  replace h := tx_bipush (v := 7) (p' := 100) h em219_98 (by decide +kernel) rfl
  obtain ⟨r100, μ100, hE100, h⟩ := tx_invV (na := 3) (mn := 183) (as := [.inr (.inl (some 75)), .inl (μ.1 86 (μ.1 75 32).toInt.toNat), .inl (7 : Int32)]) (rest := []) (p' := 103) h em219_100 ((congrFun xo_12 261).trans rfl) xm_183 rfl rfl
  obtain ⟨rfl, ⟨hab, hqr⟩ | ⟨hab, hqr⟩⟩ := qz_roomFor hE100 hI hf (by omega)
  · replace h : eT xq_219 _ 103 [some (.inr (.inl (some 75))), none] [] μ100 r μ' := h
    replace h := tx_aload_n (p' := 104) h em219_103 rfl rfl
    replace h := tx_getf (c := 12) (j := 27) (p' := 107) h em219_104 ((congrFun xo_12 200).trans rfl) rfl rfl (by decide) rfl
    rcases tx_if (t := 228) (p' := 110) h em219_107 (by decide) rfl with ⟨c107, h⟩ | ⟨c107, h⟩
    · replace c107 : ¬ (μ100.1 75 27).toInt = 0 := c107
      obtain ⟨rfl, hμ⟩ := tx_return h em219_228
      rw [hμ]
      exact ⟨rfl, rOT_x hf hqr (pTell_vf hk (by show 7 ≤ (μ.1 86 (μ.1 75 32).toInt.toNat).toInt; rw [hab]; decide)) (by unfold rF; omega)⟩
    · replace c107 : ¬ ¬ (μ100.1 75 27).toInt = 0 := c107
      exfalso
      rcases (hqr.2.2.1 hf).1 with ⟨k1, -⟩ | ⟨-, k2, -⟩
      · exact absurd (show (2 : Int) = 0 from k1) (by decide)
      · have k2 : rF μ100 = 2 := k2
        unfold rF at k2
        omega
  · replace h : eT xq_219 _ 103 [some (.inr (.inl (some 75))), none] [] μ100 r μ' := h
    replace h := tx_aload_n (p' := 104) h em219_103 rfl rfl
    replace h := tx_getf (c := 12) (j := 27) (p' := 107) h em219_104 ((congrFun xo_12 200).trans rfl) rfl rfl (by decide) rfl
    rcases tx_if (t := 228) (p' := 110) h em219_107 (by decide) rfl with ⟨c107_1, h⟩ | ⟨c107_1, h⟩
    · replace c107_1 : ¬ (μ100.1 75 27).toInt = 0 := c107_1
      obtain ⟨rfl, hμ⟩ := tx_return h em219_228
      rw [hμ]
      refine ⟨rfl, rOT_x hf (qz_seq hqr (qz_skip (F := (pSeq (pAcc (rK μ) 2) (pSeq (pAcc (rK μ) 2) (pSeq (pAcc (rK μ) 3) (pSeq (pAcc (rK μ) 3) (pAcc (rK μ) 59)))))) (N := nN) hqr.2.2.2 (by have := hqr.2.2.2.2.1; unfold rF at *; omega))) ?_ (by unfold rF; omega)⟩
      rw [pTell_v hk (by have h5 := hR.2.2.1; have e5 : (7 : Int32).toInt = 7 := (by decide); have h6 : ¬ rU μ = (7 : Int32).toInt := hab; omega)]
      exact (pSeq_on hk).symm
    · replace c107_1 : ¬ ¬ (μ100.1 75 27).toInt = 0 := c107_1
      exact hC _ _ h hqr (by unfold rF; omega) hab
set_option maxRecDepth 10000 in
set_option maxHeartbeats 4000000 in
theorem tell_spoils {m : Int} {ns : List Int} {μ μ' : xM} {r : Option zV} (h0 : Ex gx xq_219 [.inr (.inl (some 75))] μ r μ') (hI : qzI m μ) (hf : rF μ = 0) (hR : rI ns μ) (hk : rK μ (rT μ) = 134) : r = none ∧ rOT m ns μ μ' := by
  obtain ⟨n, h⟩ := tx_in (L := [some (.inr (.inl (some 75))), none]) h0 rfl
  have hx : (μ.1 78 (μ.1 75 25).toInt.toNat).toInt = 26 := by have h8 := kmp_h (x := (μ.1 78 (μ.1 75 25).toInt.toNat).toInt) (by show 128 ≤ rK μ (rT μ); omega); have h9 : kmp (μ.1 78 (μ.1 75 25).toInt.toNat).toInt = 134 := hk; omega
  replace h := tx_aload_n (p' := 1) h em219_0 rfl rfl
  replace h := tx_getc (c := 12) (j := 19) (p' := 4) h em219_1 ((congrFun xo_12 20).trans rfl) rfl rfl rfl
  replace h := tx_aload_n (p' := 5) h em219_4 rfl rfl
  replace h := tx_getf (c := 12) (j := 25) (p' := 8) h em219_5 ((congrFun xo_12 203).trans rfl) rfl rfl (by decide) rfl
  obtain ⟨hb8, h⟩ := tx_iald (len := 403) (p' := 9) h em219_8 rfl rfl
  replace hb8 : 0 ≤ (μ.1 75 25).toInt ∧ (μ.1 75 25).toInt < 403 := hb8
  obtain ⟨t9, ht9, h⟩ := tx_tsw h em219_9
  have e9 : t9 = 117 := by
    have := tsw_k ht9 (k := 6) (off := 108) rfl (by omega) (by omega)
    omega
  subst e9
  replace h : eT xq_219 _ 117 [some (.inr (.inl (some 75))), none] [] μ r μ' := h
  replace h := tx_aload_n (p' := 118) h em219_117 rfl rfl
  replace h := tx_getc (c := 12) (j := 40) (p' := 121) h em219_118 ((congrFun xo_12 64).trans rfl) rfl rfl rfl
  replace h := tx_aload_n (p' := 122) h em219_121 rfl rfl
  replace h := tx_getf (c := 12) (j := 32) (p' := 125) h em219_122 ((congrFun xo_12 233).trans rfl) rfl rfl (by decide) rfl
  replace h := tx_aload_n (p' := 126) h em219_125 rfl rfl
  replace h := tx_iconst (v := 1) (p' := 127) h em219_126 (by decide +kernel) rfl
  replace h := tx_bipush (v := 99) (p' := 129) h em219_127 (by decide +kernel) rfl
  obtain ⟨r129, μ129, hE129, h⟩ := tx_invV (na := 3) (mn := 192) (as := [.inr (.inl (some 75)), .inl (1 : Int32), .inl (99 : Int32)]) (rest := [.inl (μ.1 75 32), .inr (.inl (some 91))]) (p' := 132) h em219_129 ((congrFun xo_12 271).trans rfl) xm_192 rfl rfl
  obtain ⟨v, rfl, hq⟩ := qz_toldInt hE129 hI (fun _ => by omega)
  replace h : eT xq_219 _ 132 [some (.inr (.inl (some 75))), none] [.inl v, .inl (μ.1 75 32), .inr (.inl (some 91))] μ129 r μ' := h
  obtain ⟨hb132, h⟩ := tx_iast (len := 2) (p' := 133) h em219_132 rfl rfl
  replace hb132 : 0 ≤ (μ.1 75 32).toInt ∧ (μ.1 75 32).toInt < 2 := hb132
  replace h := tx_goto (t := 228) h em219_133 (by decide)
  obtain ⟨rfl, hμ⟩ := tx_return h em219_228
  rw [hμ]
  have hpT : pTell (rK μ) (rH μ) (rU μ) (rT μ) = pSeq pOn (pSeq (pAcc (rK μ) 3) (pAcc (rK μ) 59)) (rT μ) := by
    rw [pTell_n (by omega)]
    exact (pSeq_on rfl).symm
  refine ⟨rfl, rOT_n hI hf hR (qz_right hq (qzU_c qzU_rf (by decide))) hpT (by omega) (fun hz => ?_)⟩
  obtain ⟨hz1, hz2⟩ := pSeq_z hz
  have hone : pOn (rT μ) = (rT μ + 1, 0) := by
    by_cases q4 : rT μ = 400
    · exfalso
      rw [pOn_n q4] at hz1
      exact absurd (show (2 : Int) = 0 from hz1) (by decide)
    · exact pOn_y q4
  rw [hone] at hz2
  obtain ⟨hz3, hz4⟩ := pSeq_z hz2
  obtain ⟨k1, hz3⟩ := pAcc_z hz3
  have k1 : rK μ (rT μ + 1) = 3 := k1
  have hb := hI.2.2 hf
  have hTm : rT μ + 1 ≤ m := by
    have := pAcc_m (K := rK μ) (k := rK μ (rT μ)) (a := rT μ) (by omega) hI.1.1.2 hb.2.1 hI.1.2.1
    rw [pOn_A, hone] at this
    exact (this.2 rfl).2
  show nB μ 1 99 (pOn (rT μ)).1 (rW μ) = _
  rw [hone]
  show nB μ 1 99 (rT μ + 1) (rW μ) = _
  unfold pLater
  rw [if_neg (by omega), if_neg (by omega), if_pos hk]
  rfl
set_option maxRecDepth 10000 in
set_option maxHeartbeats 4000000 in
theorem tell_thieves {m : Int} {ns : List Int} {μ μ' : xM} {r : Option zV} (h0 : Ex gx xq_219 [.inr (.inl (some 75))] μ r μ') (hI : qzI m μ) (hf : rF μ = 0) (hR : rI ns μ) (hk : rK μ (rT μ) = 135) : r = none ∧ rOT m ns μ μ' := by
  obtain ⟨n, h⟩ := tx_in (L := [some (.inr (.inl (some 75))), none]) h0 rfl
  have hx : (μ.1 78 (μ.1 75 25).toInt.toNat).toInt = 27 := by have h8 := kmp_h (x := (μ.1 78 (μ.1 75 25).toInt.toNat).toInt) (by show 128 ≤ rK μ (rT μ); omega); have h9 : kmp (μ.1 78 (μ.1 75 25).toInt.toNat).toInt = 135 := hk; omega
  replace h := tx_aload_n (p' := 1) h em219_0 rfl rfl
  replace h := tx_getc (c := 12) (j := 19) (p' := 4) h em219_1 ((congrFun xo_12 20).trans rfl) rfl rfl rfl
  replace h := tx_aload_n (p' := 5) h em219_4 rfl rfl
  replace h := tx_getf (c := 12) (j := 25) (p' := 8) h em219_5 ((congrFun xo_12 203).trans rfl) rfl rfl (by decide) rfl
  obtain ⟨hb8, h⟩ := tx_iald (len := 403) (p' := 9) h em219_8 rfl rfl
  replace hb8 : 0 ≤ (μ.1 75 25).toInt ∧ (μ.1 75 25).toInt < 403 := hb8
  obtain ⟨t9, ht9, h⟩ := tx_tsw h em219_9
  have e9 : t9 = 136 := by
    have := tsw_k ht9 (k := 7) (off := 127) rfl (by omega) (by omega)
    omega
  subst e9
  replace h : eT xq_219 _ 136 [some (.inr (.inl (some 75))), none] [] μ r μ' := h
  replace h := tx_aload_n (p' := 137) h em219_136 rfl rfl
  replace h := tx_getc (c := 12) (j := 9) (p' := 140) h em219_137 ((congrFun xo_12 67).trans rfl) rfl rfl rfl
  replace h := tx_aload_n (p' := 141) h em219_140 rfl rfl
  replace h := tx_getf (c := 12) (j := 32) (p' := 144) h em219_141 ((congrFun xo_12 233).trans rfl) rfl rfl (by decide) rfl
  replace h := tx_aload_n (p' := 145) h em219_144 rfl rfl
  replace h := tx_iconst (v := 0) (p' := 146) h em219_145 (by decide +kernel) rfl
  replace h := tx_bipush (v := 100) (p' := 148) h em219_146 (by decide +kernel) rfl
  obtain ⟨r148, μ148, hE148, h⟩ := tx_invV (na := 3) (mn := 192) (as := [.inr (.inl (some 75)), .inl (0 : Int32), .inl (100 : Int32)]) (rest := [.inl (μ.1 75 32), .inr (.inl (some 92))]) (p' := 151) h em219_148 ((congrFun xo_12 271).trans rfl) xm_192 rfl rfl
  obtain ⟨v, rfl, hq⟩ := qz_toldInt hE148 hI (fun _ => by omega)
  replace h : eT xq_219 _ 151 [some (.inr (.inl (some 75))), none] [.inl v, .inl (μ.1 75 32), .inr (.inl (some 92))] μ148 r μ' := h
  obtain ⟨hb151, h⟩ := tx_iast (len := 2) (p' := 152) h em219_151 rfl rfl
  replace hb151 : 0 ≤ (μ.1 75 32).toInt ∧ (μ.1 75 32).toInt < 2 := hb151
  replace h := tx_goto (t := 228) h em219_152 (by decide)
  obtain ⟨rfl, hμ⟩ := tx_return h em219_228
  rw [hμ]
  have hpT : pTell (rK μ) (rH μ) (rU μ) (rT μ) = pSeq pOn (pSeq (pAcc (rK μ) 3) (pAcc (rK μ) 59)) (rT μ) := by
    rw [pTell_n (by omega)]
    exact (pSeq_on rfl).symm
  refine ⟨rfl, rOT_n hI hf hR (qz_right hq (qzU_c qzU_rf (by decide))) hpT (by omega) (fun hz => ?_)⟩
  obtain ⟨hz1, hz2⟩ := pSeq_z hz
  have hone : pOn (rT μ) = (rT μ + 1, 0) := by
    by_cases q4 : rT μ = 400
    · exfalso
      rw [pOn_n q4] at hz1
      exact absurd (show (2 : Int) = 0 from hz1) (by decide)
    · exact pOn_y q4
  rw [hone] at hz2
  obtain ⟨hz3, hz4⟩ := pSeq_z hz2
  obtain ⟨k1, hz3⟩ := pAcc_z hz3
  have k1 : rK μ (rT μ + 1) = 3 := k1
  have hb := hI.2.2 hf
  have hTm : rT μ + 1 ≤ m := by
    have := pAcc_m (K := rK μ) (k := rK μ (rT μ)) (a := rT μ) (by omega) hI.1.1.2 hb.2.1 hI.1.2.1
    rw [pOn_A, hone] at this
    exact (this.2 rfl).2
  show nB μ 0 100 (pOn (rT μ)).1 (rW μ) = _
  rw [hone]
  show nB μ 0 100 (rT μ + 1) (rW μ) = _
  rw [nB_0 hI.1 (by omega) hTm k1]
  unfold pLater
  rw [if_neg (by omega), if_neg (by omega), if_neg (by omega), if_pos hk]
set_option maxRecDepth 10000 in
set_option maxHeartbeats 4000000 in
theorem tell_seed {m : Int} {ns : List Int} {μ μ' : xM} {r : Option zV} (h0 : Ex gx xq_219 [.inr (.inl (some 75))] μ r μ') (hI : qzI m μ) (hf : rF μ = 0) (hR : rI ns μ) (hk : rK μ (rT μ) = 136) : r = none ∧ rOT m ns μ μ' := by
  obtain ⟨n, h⟩ := tx_in (L := [some (.inr (.inl (some 75))), none]) h0 rfl
  have hx : (μ.1 78 (μ.1 75 25).toInt.toNat).toInt = 28 := by have h8 := kmp_h (x := (μ.1 78 (μ.1 75 25).toInt.toNat).toInt) (by show 128 ≤ rK μ (rT μ); omega); have h9 : kmp (μ.1 78 (μ.1 75 25).toInt.toNat).toInt = 136 := hk; omega
  replace h := tx_aload_n (p' := 1) h em219_0 rfl rfl
  replace h := tx_getc (c := 12) (j := 19) (p' := 4) h em219_1 ((congrFun xo_12 20).trans rfl) rfl rfl rfl
  replace h := tx_aload_n (p' := 5) h em219_4 rfl rfl
  replace h := tx_getf (c := 12) (j := 25) (p' := 8) h em219_5 ((congrFun xo_12 203).trans rfl) rfl rfl (by decide) rfl
  obtain ⟨hb8, h⟩ := tx_iald (len := 403) (p' := 9) h em219_8 rfl rfl
  replace hb8 : 0 ≤ (μ.1 75 25).toInt ∧ (μ.1 75 25).toInt < 403 := hb8
  obtain ⟨t9, ht9, h⟩ := tx_tsw h em219_9
  have e9 : t9 = 155 := by
    have := tsw_k ht9 (k := 8) (off := 146) rfl (by omega) (by omega)
    omega
  subst e9
  replace h : eT xq_219 _ 155 [some (.inr (.inl (some 75))), none] [] μ r μ' := h
  replace h := tx_aload_n (p' := 156) h em219_155 rfl rfl
  replace h := tx_getc (c := 12) (j := 5) (p' := 159) h em219_156 ((congrFun xo_12 70).trans rfl) rfl rfl rfl
  replace h := tx_aload_n (p' := 160) h em219_159 rfl rfl
  replace h := tx_getf (c := 12) (j := 32) (p' := 163) h em219_160 ((congrFun xo_12 233).trans rfl) rfl rfl (by decide) rfl
  replace h := tx_aload_n (p' := 164) h em219_163 rfl rfl
  replace h := tx_iconst (v := 0) (p' := 165) h em219_164 (by decide +kernel) rfl
  replace h := tx_sipush (v := 9999) (p' := 168) h em219_165 (by decide +kernel) rfl
  obtain ⟨r168, μ168, hE168, h⟩ := tx_invV (na := 3) (mn := 192) (as := [.inr (.inl (some 75)), .inl (0 : Int32), .inl (9999 : Int32)]) (rest := [.inl (μ.1 75 32), .inr (.inl (some 93))]) (p' := 171) h em219_168 ((congrFun xo_12 271).trans rfl) xm_192 rfl rfl
  obtain ⟨v, rfl, hq⟩ := qz_toldInt hE168 hI (fun _ => by omega)
  replace h : eT xq_219 _ 171 [some (.inr (.inl (some 75))), none] [.inl v, .inl (μ.1 75 32), .inr (.inl (some 93))] μ168 r μ' := h
  obtain ⟨hb171, h⟩ := tx_iast (len := 2) (p' := 172) h em219_171 rfl rfl
  replace hb171 : 0 ≤ (μ.1 75 32).toInt ∧ (μ.1 75 32).toInt < 2 := hb171
  replace h := tx_goto (t := 228) h em219_172 (by decide)
  obtain ⟨rfl, hμ⟩ := tx_return h em219_228
  rw [hμ]
  have hpT : pTell (rK μ) (rH μ) (rU μ) (rT μ) = pSeq pOn (pSeq (pAcc (rK μ) 3) (pAcc (rK μ) 59)) (rT μ) := by
    rw [pTell_n (by omega)]
    exact (pSeq_on rfl).symm
  refine ⟨rfl, rOT_n hI hf hR (qz_right hq (qzU_c qzU_rf (by decide))) hpT (by omega) (fun hz => ?_)⟩
  obtain ⟨hz1, hz2⟩ := pSeq_z hz
  have hone : pOn (rT μ) = (rT μ + 1, 0) := by
    by_cases q4 : rT μ = 400
    · exfalso
      rw [pOn_n q4] at hz1
      exact absurd (show (2 : Int) = 0 from hz1) (by decide)
    · exact pOn_y q4
  rw [hone] at hz2
  obtain ⟨hz3, hz4⟩ := pSeq_z hz2
  obtain ⟨k1, hz3⟩ := pAcc_z hz3
  have k1 : rK μ (rT μ + 1) = 3 := k1
  have hb := hI.2.2 hf
  have hTm : rT μ + 1 ≤ m := by
    have := pAcc_m (K := rK μ) (k := rK μ (rT μ)) (a := rT μ) (by omega) hI.1.1.2 hb.2.1 hI.1.2.1
    rw [pOn_A, hone] at this
    exact (this.2 rfl).2
  show nB μ 0 9999 (pOn (rT μ)).1 (rW μ) = _
  rw [hone]
  show nB μ 0 9999 (rT μ + 1) (rW μ) = _
  rw [nB_0 hI.1 (by omega) hTm k1]
  have en : pNote 5 (rP μ (rT μ + 1)) (decide (9999 < rVl μ (rT μ + 1))) (rW μ) = rW μ := by
    unfold pNote
    rw [if_neg (fun q => by have q1 := of_decide_eq_true q.1; have q2 := (hI.1.2.2.2.2 _ (by omega) hTm).1 k1; omega)]
  rw [en]
  unfold pLater
  rw [if_neg (by omega), if_neg (by omega), if_neg (by omega), if_neg (by omega)]
set_option maxRecDepth 10000 in
set_option maxHeartbeats 4000000 in
theorem tell_else {m : Int} {ns : List Int} {μ μ' : xM} {r : Option zV} (h0 : Ex gx xq_219 [.inr (.inl (some 75))] μ r μ') (hI : qzI m μ) (hf : rF μ = 0) (hR : rI ns μ) (hk : ¬ (rK μ (rT μ) = 128 ∨ rK μ (rT μ) = 129 ∨ (134 ≤ rK μ (rT μ) ∧ rK μ (rT μ) ≤ 136))) (hx : (μ.1 78 (μ.1 75 25).toInt.toNat).toInt < 20 ∨ 28 < (μ.1 78 (μ.1 75 25).toInt.toNat).toInt) (hx0 : 0 ≤ (μ.1 78 (μ.1 75 25).toInt.toNat).toInt) : r = none ∧ rOT m ns μ μ' := by
  obtain ⟨n, h⟩ := tx_in (L := [some (.inr (.inl (some 75))), none]) h0 rfl
  have hkE : rK μ (rT μ) < 128 ∨ 136 < rK μ (rT μ) := by
    by_cases q : 128 ≤ rK μ (rT μ)
    · have h8 := kmp_h (x := (μ.1 78 (μ.1 75 25).toInt.toNat).toInt) q
      have h9 : rK μ (rT μ) = kmp (μ.1 78 (μ.1 75 25).toInt.toNat).toInt := rfl
      omega
    · omega
  replace h := tx_aload_n (p' := 1) h em219_0 rfl rfl
  replace h := tx_getc (c := 12) (j := 19) (p' := 4) h em219_1 ((congrFun xo_12 20).trans rfl) rfl rfl rfl
  replace h := tx_aload_n (p' := 5) h em219_4 rfl rfl
  replace h := tx_getf (c := 12) (j := 25) (p' := 8) h em219_5 ((congrFun xo_12 203).trans rfl) rfl rfl (by decide) rfl
  obtain ⟨hb8, h⟩ := tx_iald (len := 403) (p' := 9) h em219_8 rfl rfl
  replace hb8 : 0 ≤ (μ.1 75 25).toInt ∧ (μ.1 75 25).toInt < 403 := hb8
  obtain ⟨t9, ht9, h⟩ := tx_tsw h em219_9
  have e9 : t9 = 175 := by
    have := tsw_d ht9 (by decide) (by omega)
    omega
  subst e9
  replace h : eT xq_219 _ 175 [some (.inr (.inl (some 75))), none] [] μ r μ' := h
  replace h := tx_aload_n (p' := 176) h em219_175 rfl rfl
  replace h := tx_getc (c := 12) (j := 19) (p' := 179) h em219_176 ((congrFun xo_12 20).trans rfl) rfl rfl rfl
  replace h := tx_aload_n (p' := 180) h em219_179 rfl rfl
  replace h := tx_getf (c := 12) (j := 25) (p' := 183) h em219_180 ((congrFun xo_12 203).trans rfl) rfl rfl (by decide) rfl
  obtain ⟨hb183, h⟩ := tx_iald (len := 403) (p' := 184) h em219_183 rfl rfl
  replace hb183 : 0 ≤ (μ.1 75 25).toInt ∧ (μ.1 75 25).toInt < 403 := hb183
  replace h := tx_bipush (v := 22) (p' := 186) h em219_184 (by decide +kernel) rfl
  replace h := tx_isub (p' := 187) h em219_186 rfl
  replace h := tx_istore_n (p' := 188) h em219_187 rfl
  replace h : eT xq_219 _ 188 [some (.inr (.inl (some 75))), some (.inl ((μ.1 78 (μ.1 75 25).toInt.toNat) - (22 : Int32)))] [] μ r μ' := h
  replace h := tx_iload_n (p' := 189) h em219_188 rfl rfl
  rcases tx_if (t := 206) (p' := 192) h em219_189 (by decide) rfl with ⟨c189, h⟩ | ⟨c189, h⟩
  · replace c189 : ((μ.1 78 (μ.1 75 25).toInt.toNat) - (22 : Int32)).toInt < 0 := c189
    replace h := tx_aload_n (p' := 207) h em219_206 rfl rfl
    replace h := tx_iconst (v := 1) (p' := 208) h em219_207 (by decide +kernel) rfl
    obtain ⟨r208, μ208, hE208, h⟩ := tx_invV (na := 2) (mn := 133) (as := [.inr (.inl (some 75)), .inl (1 : Int32)]) (rest := []) (p' := 211) h em219_208 ((congrFun xo_12 215).trans rfl) xm_133 rfl rfl
    obtain ⟨rfl, hs⟩ := qz_fl (f0 := 1) hE208 hI (by decide) (by decide)
    replace h : eT xq_219 _ 211 [some (.inr (.inl (some 75))), some (.inl ((μ.1 78 (μ.1 75 25).toInt.toNat) - (22 : Int32)))] [] μ208 r μ' := h
    replace h := tx_aload_n (p' := 212) h em219_211 rfl rfl
    replace h := tx_getf (c := 12) (j := 27) (p' := 215) h em219_212 ((congrFun xo_12 200).trans rfl) rfl rfl (by decide) rfl
    rcases tx_if (t := 219) (p' := 218) h em219_215 (by decide) rfl with ⟨c215, h⟩ | ⟨c215, h⟩
    · replace c215 : (μ208.1 75 27).toInt ≤ 0 := c215
      exfalso
      rcases (hs.2.2.1 hf).1 with ⟨k1, -⟩ | ⟨-, k2, -⟩
      · exact absurd (show (1 : Int) = 0 from k1) (by decide)
      · have k2 : rF μ208 = 1 := k2
        unfold rF at k2
        omega
    · replace c215 : ¬ (μ208.1 75 27).toInt ≤ 0 := c215
      obtain ⟨rfl, hμ⟩ := tx_return h em219_218
      rw [hμ]
      exact ⟨rfl, rOT_x hf hs (pTell_e hkE) (by unfold rF; omega)⟩
  · replace c189 : ¬ ((μ.1 78 (μ.1 75 25).toInt.toNat) - (22 : Int32)).toInt < 0 := c189
    replace h := tx_aload_n (p' := 193) h em219_192 rfl rfl
    replace h := tx_getc (c := 12) (j := 19) (p' := 196) h em219_193 ((congrFun xo_12 20).trans rfl) rfl rfl rfl
    replace h := tx_aload_n (p' := 197) h em219_196 rfl rfl
    replace h := tx_getf (c := 12) (j := 25) (p' := 200) h em219_197 ((congrFun xo_12 203).trans rfl) rfl rfl (by decide) rfl
    obtain ⟨hb200, h⟩ := tx_iald (len := 403) (p' := 201) h em219_200 rfl rfl
    replace hb200 : 0 ≤ (μ.1 75 25).toInt ∧ (μ.1 75 25).toInt < 403 := hb200
    replace h := tx_bipush (v := 25) (p' := 203) h em219_201 (by decide +kernel) rfl
    rcases tx_icmp (t := 211) (p' := 206) h em219_203 (by decide) rfl with ⟨c203, h⟩ | ⟨c203, h⟩
    · replace c203 : (μ.1 78 (μ.1 75 25).toInt.toNat).toInt ≤ 25 := c203
      replace h := tx_aload_n (p' := 212) h em219_211 rfl rfl
      replace h := tx_getf (c := 12) (j := 27) (p' := 215) h em219_212 ((congrFun xo_12 200).trans rfl) rfl rfl (by decide) rfl
      rcases tx_if (t := 219) (p' := 218) h em219_215 (by decide) rfl with ⟨c215_1, h⟩ | ⟨c215_1, h⟩
      · replace c215_1 : (μ.1 75 27).toInt ≤ 0 := c215_1
        exfalso
        have e22 : (22 : Int32).toInt = 22 := by decide
        have h7 := an_sub (x := μ.1 78 (μ.1 75 25).toInt.toNat) (y := 22) (by omega) (by omega)
        omega
      · replace c215_1 : ¬ (μ.1 75 27).toInt ≤ 0 := c215_1
        obtain ⟨rfl, hμ⟩ := tx_return h em219_218
        exfalso
        unfold rF at hf
        omega
    · replace c203 : ¬ (μ.1 78 (μ.1 75 25).toInt.toNat).toInt ≤ 25 := c203
      replace h := tx_aload_n (p' := 207) h em219_206 rfl rfl
      replace h := tx_iconst (v := 1) (p' := 208) h em219_207 (by decide +kernel) rfl
      obtain ⟨r208_1, μ208_1, hE208_1, h⟩ := tx_invV (na := 2) (mn := 133) (as := [.inr (.inl (some 75)), .inl (1 : Int32)]) (rest := []) (p' := 211) h em219_208 ((congrFun xo_12 215).trans rfl) xm_133 rfl rfl
      obtain ⟨rfl, hs⟩ := qz_fl (f0 := 1) hE208_1 hI (by decide) (by decide)
      replace h : eT xq_219 _ 211 [some (.inr (.inl (some 75))), some (.inl ((μ.1 78 (μ.1 75 25).toInt.toNat) - (22 : Int32)))] [] μ208_1 r μ' := h
      replace h := tx_aload_n (p' := 212) h em219_211 rfl rfl
      replace h := tx_getf (c := 12) (j := 27) (p' := 215) h em219_212 ((congrFun xo_12 200).trans rfl) rfl rfl (by decide) rfl
      rcases tx_if (t := 219) (p' := 218) h em219_215 (by decide) rfl with ⟨c215_2, h⟩ | ⟨c215_2, h⟩
      · replace c215_2 : (μ208_1.1 75 27).toInt ≤ 0 := c215_2
        exfalso
        rcases (hs.2.2.1 hf).1 with ⟨k1, -⟩ | ⟨-, k2, -⟩
        · exact absurd (show (1 : Int) = 0 from k1) (by decide)
        · have k2 : rF μ208_1 = 1 := k2
          unfold rF at k2
          omega
      · replace c215_2 : ¬ (μ208_1.1 75 27).toInt ≤ 0 := c215_2
        obtain ⟨rfl, hμ⟩ := tx_return h em219_218
        rw [hμ]
        exact ⟨rfl, rOT_x hf hs (pTell_e hkE) (by unfold rF; omega)⟩
set_option maxRecDepth 10000 in
set_option maxHeartbeats 4000000 in
theorem tell_law2 {m : Int} {ns : List Int} {μ μ' : xM} {r : Option zV} (h0 : Ex gx xq_219 [.inr (.inl (some 75))] μ r μ') (hI : qzI m μ) (hf : rF μ = 0) (hR : rI ns μ) (hx : (μ.1 78 (μ.1 75 25).toInt.toNat).toInt = 22) : r = none ∧ rOT m ns μ μ' := by
  obtain ⟨n, h⟩ := tx_in (L := [some (.inr (.inl (some 75))), none]) h0 rfl
  have hC : ∀ n k, eT xq_219 n 219 [some (.inr (.inl (some 75))), some (.inl k)] [] μ r μ' → (130 ≤ rK μ (rT μ) ∧ rK μ (rT μ) ≤ 133) → r = none ∧ rOT m ns μ μ' := by
    intro n k h hk
    replace h := tx_aload_n (p' := 220) h em219_219 rfl rfl
    obtain ⟨r220, μ220, hE220, h⟩ := tx_invV (na := 1) (mn := 144) (as := [.inr (.inl (some 75))]) (rest := []) (p' := 223) h em219_220 ((congrFun xo_12 221).trans rfl) xm_144 rfl rfl
    obtain ⟨rfl, hq1⟩ := qz_on hE220 hI (fun _ => by omega)
    replace h : eT xq_219 _ 223 [some (.inr (.inl (some 75))), some (.inl k)] [] μ220 r μ' := h
    replace h := tx_aload_n (p' := 224) h em219_223 rfl rfl
    replace h := tx_iload_n (p' := 225) h em219_224 rfl rfl
    obtain ⟨r225, μ225, hE225, h⟩ := tx_invV (na := 2) (mn := 226) (as := [.inr (.inl (some 75)), .inl k]) (rest := []) (p' := 228) h em219_225 ((congrFun xo_12 274).trans rfl) xm_226 rfl rfl
    obtain ⟨rfl, hq2⟩ := qz_law hE225 hq1.2.2.2
    rw [qzS_K hq1.1] at hq2
    replace h : eT xq_219 _ 228 [some (.inr (.inl (some 75))), some (.inl k)] [] μ225 r μ' := h
    obtain ⟨rfl, hμ⟩ := tx_return h em219_228
    rw [hμ]
    have hpT : pTell (rK μ) (rH μ) (rU μ) (rT μ) = pSeq pOn (pSeq (pAcc (rK μ) 61) (wLaw (rK μ) 4)) (rT μ) := by
      rw [pTell_l (by omega)]
      exact (pSeq_on rfl).symm
    refine ⟨rfl, rOT_n hI hf hR (qz_seq0 hq1 hq2) hpT (by omega) (fun _ => ?_)⟩
    unfold pLater
    rw [if_neg (by omega), if_neg (by omega), if_neg (by omega), if_neg (by omega)]
    rfl
  have hkE : 130 ≤ rK μ (rT μ) ∧ rK μ (rT μ) ≤ 133 := by
    have h8 := kmp_l (x := (μ.1 78 (μ.1 75 25).toInt.toNat).toInt) (by omega)
    have h9 : rK μ (rT μ) = kmp (μ.1 78 (μ.1 75 25).toInt.toNat).toInt := rfl
    omega
  replace h := tx_aload_n (p' := 1) h em219_0 rfl rfl
  replace h := tx_getc (c := 12) (j := 19) (p' := 4) h em219_1 ((congrFun xo_12 20).trans rfl) rfl rfl rfl
  replace h := tx_aload_n (p' := 5) h em219_4 rfl rfl
  replace h := tx_getf (c := 12) (j := 25) (p' := 8) h em219_5 ((congrFun xo_12 203).trans rfl) rfl rfl (by decide) rfl
  obtain ⟨hb8, h⟩ := tx_iald (len := 403) (p' := 9) h em219_8 rfl rfl
  replace hb8 : 0 ≤ (μ.1 75 25).toInt ∧ (μ.1 75 25).toInt < 403 := hb8
  obtain ⟨t9, ht9, h⟩ := tx_tsw h em219_9
  have e9 : t9 = 175 := by
    have := tsw_k ht9 (k := 2) (off := 166) rfl (by omega) (by omega)
    omega
  subst e9
  replace h : eT xq_219 _ 175 [some (.inr (.inl (some 75))), none] [] μ r μ' := h
  replace h := tx_aload_n (p' := 176) h em219_175 rfl rfl
  replace h := tx_getc (c := 12) (j := 19) (p' := 179) h em219_176 ((congrFun xo_12 20).trans rfl) rfl rfl rfl
  replace h := tx_aload_n (p' := 180) h em219_179 rfl rfl
  replace h := tx_getf (c := 12) (j := 25) (p' := 183) h em219_180 ((congrFun xo_12 203).trans rfl) rfl rfl (by decide) rfl
  obtain ⟨hb183, h⟩ := tx_iald (len := 403) (p' := 184) h em219_183 rfl rfl
  replace hb183 : 0 ≤ (μ.1 75 25).toInt ∧ (μ.1 75 25).toInt < 403 := hb183
  replace h := tx_bipush (v := 22) (p' := 186) h em219_184 (by decide +kernel) rfl
  replace h := tx_isub (p' := 187) h em219_186 rfl
  replace h := tx_istore_n (p' := 188) h em219_187 rfl
  replace h : eT xq_219 _ 188 [some (.inr (.inl (some 75))), some (.inl ((μ.1 78 (μ.1 75 25).toInt.toNat) - (22 : Int32)))] [] μ r μ' := h
  replace h := tx_iload_n (p' := 189) h em219_188 rfl rfl
  rcases tx_if (t := 206) (p' := 192) h em219_189 (by decide) rfl with ⟨c189, h⟩ | ⟨c189, h⟩
  · replace c189 : ((μ.1 78 (μ.1 75 25).toInt.toNat) - (22 : Int32)).toInt < 0 := c189
    exfalso
    have e22 : (22 : Int32).toInt = 22 := by decide
    have h7 := an_sub (x := μ.1 78 (μ.1 75 25).toInt.toNat) (y := 22) (by omega) (by omega)
    omega
  · replace c189 : ¬ ((μ.1 78 (μ.1 75 25).toInt.toNat) - (22 : Int32)).toInt < 0 := c189
    replace h := tx_aload_n (p' := 193) h em219_192 rfl rfl
    replace h := tx_getc (c := 12) (j := 19) (p' := 196) h em219_193 ((congrFun xo_12 20).trans rfl) rfl rfl rfl
    replace h := tx_aload_n (p' := 197) h em219_196 rfl rfl
    replace h := tx_getf (c := 12) (j := 25) (p' := 200) h em219_197 ((congrFun xo_12 203).trans rfl) rfl rfl (by decide) rfl
    obtain ⟨hb200, h⟩ := tx_iald (len := 403) (p' := 201) h em219_200 rfl rfl
    replace hb200 : 0 ≤ (μ.1 75 25).toInt ∧ (μ.1 75 25).toInt < 403 := hb200
    replace h := tx_bipush (v := 25) (p' := 203) h em219_201 (by decide +kernel) rfl
    rcases tx_icmp (t := 211) (p' := 206) h em219_203 (by decide) rfl with ⟨c203, h⟩ | ⟨c203, h⟩
    · replace c203 : (μ.1 78 (μ.1 75 25).toInt.toNat).toInt ≤ 25 := c203
      replace h := tx_aload_n (p' := 212) h em219_211 rfl rfl
      replace h := tx_getf (c := 12) (j := 27) (p' := 215) h em219_212 ((congrFun xo_12 200).trans rfl) rfl rfl (by decide) rfl
      rcases tx_if (t := 219) (p' := 218) h em219_215 (by decide) rfl with ⟨c215, h⟩ | ⟨c215, h⟩
      · replace c215 : (μ.1 75 27).toInt ≤ 0 := c215
        exact hC _ _ h hkE
      · replace c215 : ¬ (μ.1 75 27).toInt ≤ 0 := c215
        obtain ⟨rfl, hμ⟩ := tx_return h em219_218
        exfalso
        unfold rF at hf
        omega
    · replace c203 : ¬ (μ.1 78 (μ.1 75 25).toInt.toNat).toInt ≤ 25 := c203
      exfalso
      have e22 : (22 : Int32).toInt = 22 := by decide
      have h7 := an_sub (x := μ.1 78 (μ.1 75 25).toInt.toNat) (y := 22) (by omega) (by omega)
      omega
set_option maxRecDepth 10000 in
set_option maxHeartbeats 4000000 in
theorem tell_law3 {m : Int} {ns : List Int} {μ μ' : xM} {r : Option zV} (h0 : Ex gx xq_219 [.inr (.inl (some 75))] μ r μ') (hI : qzI m μ) (hf : rF μ = 0) (hR : rI ns μ) (hx : (μ.1 78 (μ.1 75 25).toInt.toNat).toInt = 23) : r = none ∧ rOT m ns μ μ' := by
  obtain ⟨n, h⟩ := tx_in (L := [some (.inr (.inl (some 75))), none]) h0 rfl
  have hC : ∀ n k, eT xq_219 n 219 [some (.inr (.inl (some 75))), some (.inl k)] [] μ r μ' → (130 ≤ rK μ (rT μ) ∧ rK μ (rT μ) ≤ 133) → r = none ∧ rOT m ns μ μ' := by
    intro n k h hk
    replace h := tx_aload_n (p' := 220) h em219_219 rfl rfl
    obtain ⟨r220, μ220, hE220, h⟩ := tx_invV (na := 1) (mn := 144) (as := [.inr (.inl (some 75))]) (rest := []) (p' := 223) h em219_220 ((congrFun xo_12 221).trans rfl) xm_144 rfl rfl
    obtain ⟨rfl, hq1⟩ := qz_on hE220 hI (fun _ => by omega)
    replace h : eT xq_219 _ 223 [some (.inr (.inl (some 75))), some (.inl k)] [] μ220 r μ' := h
    replace h := tx_aload_n (p' := 224) h em219_223 rfl rfl
    replace h := tx_iload_n (p' := 225) h em219_224 rfl rfl
    obtain ⟨r225, μ225, hE225, h⟩ := tx_invV (na := 2) (mn := 226) (as := [.inr (.inl (some 75)), .inl k]) (rest := []) (p' := 228) h em219_225 ((congrFun xo_12 274).trans rfl) xm_226 rfl rfl
    obtain ⟨rfl, hq2⟩ := qz_law hE225 hq1.2.2.2
    rw [qzS_K hq1.1] at hq2
    replace h : eT xq_219 _ 228 [some (.inr (.inl (some 75))), some (.inl k)] [] μ225 r μ' := h
    obtain ⟨rfl, hμ⟩ := tx_return h em219_228
    rw [hμ]
    have hpT : pTell (rK μ) (rH μ) (rU μ) (rT μ) = pSeq pOn (pSeq (pAcc (rK μ) 61) (wLaw (rK μ) 4)) (rT μ) := by
      rw [pTell_l (by omega)]
      exact (pSeq_on rfl).symm
    refine ⟨rfl, rOT_n hI hf hR (qz_seq0 hq1 hq2) hpT (by omega) (fun _ => ?_)⟩
    unfold pLater
    rw [if_neg (by omega), if_neg (by omega), if_neg (by omega), if_neg (by omega)]
    rfl
  have hkE : 130 ≤ rK μ (rT μ) ∧ rK μ (rT μ) ≤ 133 := by
    have h8 := kmp_l (x := (μ.1 78 (μ.1 75 25).toInt.toNat).toInt) (by omega)
    have h9 : rK μ (rT μ) = kmp (μ.1 78 (μ.1 75 25).toInt.toNat).toInt := rfl
    omega
  replace h := tx_aload_n (p' := 1) h em219_0 rfl rfl
  replace h := tx_getc (c := 12) (j := 19) (p' := 4) h em219_1 ((congrFun xo_12 20).trans rfl) rfl rfl rfl
  replace h := tx_aload_n (p' := 5) h em219_4 rfl rfl
  replace h := tx_getf (c := 12) (j := 25) (p' := 8) h em219_5 ((congrFun xo_12 203).trans rfl) rfl rfl (by decide) rfl
  obtain ⟨hb8, h⟩ := tx_iald (len := 403) (p' := 9) h em219_8 rfl rfl
  replace hb8 : 0 ≤ (μ.1 75 25).toInt ∧ (μ.1 75 25).toInt < 403 := hb8
  obtain ⟨t9, ht9, h⟩ := tx_tsw h em219_9
  have e9 : t9 = 175 := by
    have := tsw_k ht9 (k := 3) (off := 166) rfl (by omega) (by omega)
    omega
  subst e9
  replace h : eT xq_219 _ 175 [some (.inr (.inl (some 75))), none] [] μ r μ' := h
  replace h := tx_aload_n (p' := 176) h em219_175 rfl rfl
  replace h := tx_getc (c := 12) (j := 19) (p' := 179) h em219_176 ((congrFun xo_12 20).trans rfl) rfl rfl rfl
  replace h := tx_aload_n (p' := 180) h em219_179 rfl rfl
  replace h := tx_getf (c := 12) (j := 25) (p' := 183) h em219_180 ((congrFun xo_12 203).trans rfl) rfl rfl (by decide) rfl
  obtain ⟨hb183, h⟩ := tx_iald (len := 403) (p' := 184) h em219_183 rfl rfl
  replace hb183 : 0 ≤ (μ.1 75 25).toInt ∧ (μ.1 75 25).toInt < 403 := hb183
  replace h := tx_bipush (v := 22) (p' := 186) h em219_184 (by decide +kernel) rfl
  replace h := tx_isub (p' := 187) h em219_186 rfl
  replace h := tx_istore_n (p' := 188) h em219_187 rfl
  replace h : eT xq_219 _ 188 [some (.inr (.inl (some 75))), some (.inl ((μ.1 78 (μ.1 75 25).toInt.toNat) - (22 : Int32)))] [] μ r μ' := h
  replace h := tx_iload_n (p' := 189) h em219_188 rfl rfl
  rcases tx_if (t := 206) (p' := 192) h em219_189 (by decide) rfl with ⟨c189, h⟩ | ⟨c189, h⟩
  · replace c189 : ((μ.1 78 (μ.1 75 25).toInt.toNat) - (22 : Int32)).toInt < 0 := c189
    exfalso
    have e22 : (22 : Int32).toInt = 22 := by decide
    have h7 := an_sub (x := μ.1 78 (μ.1 75 25).toInt.toNat) (y := 22) (by omega) (by omega)
    omega
  · replace c189 : ¬ ((μ.1 78 (μ.1 75 25).toInt.toNat) - (22 : Int32)).toInt < 0 := c189
    replace h := tx_aload_n (p' := 193) h em219_192 rfl rfl
    replace h := tx_getc (c := 12) (j := 19) (p' := 196) h em219_193 ((congrFun xo_12 20).trans rfl) rfl rfl rfl
    replace h := tx_aload_n (p' := 197) h em219_196 rfl rfl
    replace h := tx_getf (c := 12) (j := 25) (p' := 200) h em219_197 ((congrFun xo_12 203).trans rfl) rfl rfl (by decide) rfl
    obtain ⟨hb200, h⟩ := tx_iald (len := 403) (p' := 201) h em219_200 rfl rfl
    replace hb200 : 0 ≤ (μ.1 75 25).toInt ∧ (μ.1 75 25).toInt < 403 := hb200
    replace h := tx_bipush (v := 25) (p' := 203) h em219_201 (by decide +kernel) rfl
    rcases tx_icmp (t := 211) (p' := 206) h em219_203 (by decide) rfl with ⟨c203, h⟩ | ⟨c203, h⟩
    · replace c203 : (μ.1 78 (μ.1 75 25).toInt.toNat).toInt ≤ 25 := c203
      replace h := tx_aload_n (p' := 212) h em219_211 rfl rfl
      replace h := tx_getf (c := 12) (j := 27) (p' := 215) h em219_212 ((congrFun xo_12 200).trans rfl) rfl rfl (by decide) rfl
      rcases tx_if (t := 219) (p' := 218) h em219_215 (by decide) rfl with ⟨c215, h⟩ | ⟨c215, h⟩
      · replace c215 : (μ.1 75 27).toInt ≤ 0 := c215
        exact hC _ _ h hkE
      · replace c215 : ¬ (μ.1 75 27).toInt ≤ 0 := c215
        obtain ⟨rfl, hμ⟩ := tx_return h em219_218
        exfalso
        unfold rF at hf
        omega
    · replace c203 : ¬ (μ.1 78 (μ.1 75 25).toInt.toNat).toInt ≤ 25 := c203
      exfalso
      have e22 : (22 : Int32).toInt = 22 := by decide
      have h7 := an_sub (x := μ.1 78 (μ.1 75 25).toInt.toNat) (y := 22) (by omega) (by omega)
      omega
set_option maxRecDepth 10000 in
set_option maxHeartbeats 4000000 in
theorem tell_law4 {m : Int} {ns : List Int} {μ μ' : xM} {r : Option zV} (h0 : Ex gx xq_219 [.inr (.inl (some 75))] μ r μ') (hI : qzI m μ) (hf : rF μ = 0) (hR : rI ns μ) (hx : (μ.1 78 (μ.1 75 25).toInt.toNat).toInt = 24) : r = none ∧ rOT m ns μ μ' := by
  obtain ⟨n, h⟩ := tx_in (L := [some (.inr (.inl (some 75))), none]) h0 rfl
  have hC : ∀ n k, eT xq_219 n 219 [some (.inr (.inl (some 75))), some (.inl k)] [] μ r μ' → (130 ≤ rK μ (rT μ) ∧ rK μ (rT μ) ≤ 133) → r = none ∧ rOT m ns μ μ' := by
    intro n k h hk
    replace h := tx_aload_n (p' := 220) h em219_219 rfl rfl
    obtain ⟨r220, μ220, hE220, h⟩ := tx_invV (na := 1) (mn := 144) (as := [.inr (.inl (some 75))]) (rest := []) (p' := 223) h em219_220 ((congrFun xo_12 221).trans rfl) xm_144 rfl rfl
    obtain ⟨rfl, hq1⟩ := qz_on hE220 hI (fun _ => by omega)
    replace h : eT xq_219 _ 223 [some (.inr (.inl (some 75))), some (.inl k)] [] μ220 r μ' := h
    replace h := tx_aload_n (p' := 224) h em219_223 rfl rfl
    replace h := tx_iload_n (p' := 225) h em219_224 rfl rfl
    obtain ⟨r225, μ225, hE225, h⟩ := tx_invV (na := 2) (mn := 226) (as := [.inr (.inl (some 75)), .inl k]) (rest := []) (p' := 228) h em219_225 ((congrFun xo_12 274).trans rfl) xm_226 rfl rfl
    obtain ⟨rfl, hq2⟩ := qz_law hE225 hq1.2.2.2
    rw [qzS_K hq1.1] at hq2
    replace h : eT xq_219 _ 228 [some (.inr (.inl (some 75))), some (.inl k)] [] μ225 r μ' := h
    obtain ⟨rfl, hμ⟩ := tx_return h em219_228
    rw [hμ]
    have hpT : pTell (rK μ) (rH μ) (rU μ) (rT μ) = pSeq pOn (pSeq (pAcc (rK μ) 61) (wLaw (rK μ) 4)) (rT μ) := by
      rw [pTell_l (by omega)]
      exact (pSeq_on rfl).symm
    refine ⟨rfl, rOT_n hI hf hR (qz_seq0 hq1 hq2) hpT (by omega) (fun _ => ?_)⟩
    unfold pLater
    rw [if_neg (by omega), if_neg (by omega), if_neg (by omega), if_neg (by omega)]
    rfl
  have hkE : 130 ≤ rK μ (rT μ) ∧ rK μ (rT μ) ≤ 133 := by
    have h8 := kmp_l (x := (μ.1 78 (μ.1 75 25).toInt.toNat).toInt) (by omega)
    have h9 : rK μ (rT μ) = kmp (μ.1 78 (μ.1 75 25).toInt.toNat).toInt := rfl
    omega
  replace h := tx_aload_n (p' := 1) h em219_0 rfl rfl
  replace h := tx_getc (c := 12) (j := 19) (p' := 4) h em219_1 ((congrFun xo_12 20).trans rfl) rfl rfl rfl
  replace h := tx_aload_n (p' := 5) h em219_4 rfl rfl
  replace h := tx_getf (c := 12) (j := 25) (p' := 8) h em219_5 ((congrFun xo_12 203).trans rfl) rfl rfl (by decide) rfl
  obtain ⟨hb8, h⟩ := tx_iald (len := 403) (p' := 9) h em219_8 rfl rfl
  replace hb8 : 0 ≤ (μ.1 75 25).toInt ∧ (μ.1 75 25).toInt < 403 := hb8
  obtain ⟨t9, ht9, h⟩ := tx_tsw h em219_9
  have e9 : t9 = 175 := by
    have := tsw_k ht9 (k := 4) (off := 166) rfl (by omega) (by omega)
    omega
  subst e9
  replace h : eT xq_219 _ 175 [some (.inr (.inl (some 75))), none] [] μ r μ' := h
  replace h := tx_aload_n (p' := 176) h em219_175 rfl rfl
  replace h := tx_getc (c := 12) (j := 19) (p' := 179) h em219_176 ((congrFun xo_12 20).trans rfl) rfl rfl rfl
  replace h := tx_aload_n (p' := 180) h em219_179 rfl rfl
  replace h := tx_getf (c := 12) (j := 25) (p' := 183) h em219_180 ((congrFun xo_12 203).trans rfl) rfl rfl (by decide) rfl
  obtain ⟨hb183, h⟩ := tx_iald (len := 403) (p' := 184) h em219_183 rfl rfl
  replace hb183 : 0 ≤ (μ.1 75 25).toInt ∧ (μ.1 75 25).toInt < 403 := hb183
  replace h := tx_bipush (v := 22) (p' := 186) h em219_184 (by decide +kernel) rfl
  replace h := tx_isub (p' := 187) h em219_186 rfl
  replace h := tx_istore_n (p' := 188) h em219_187 rfl
  replace h : eT xq_219 _ 188 [some (.inr (.inl (some 75))), some (.inl ((μ.1 78 (μ.1 75 25).toInt.toNat) - (22 : Int32)))] [] μ r μ' := h
  replace h := tx_iload_n (p' := 189) h em219_188 rfl rfl
  rcases tx_if (t := 206) (p' := 192) h em219_189 (by decide) rfl with ⟨c189, h⟩ | ⟨c189, h⟩
  · replace c189 : ((μ.1 78 (μ.1 75 25).toInt.toNat) - (22 : Int32)).toInt < 0 := c189
    exfalso
    have e22 : (22 : Int32).toInt = 22 := by decide
    have h7 := an_sub (x := μ.1 78 (μ.1 75 25).toInt.toNat) (y := 22) (by omega) (by omega)
    omega
  · replace c189 : ¬ ((μ.1 78 (μ.1 75 25).toInt.toNat) - (22 : Int32)).toInt < 0 := c189
    replace h := tx_aload_n (p' := 193) h em219_192 rfl rfl
    replace h := tx_getc (c := 12) (j := 19) (p' := 196) h em219_193 ((congrFun xo_12 20).trans rfl) rfl rfl rfl
    replace h := tx_aload_n (p' := 197) h em219_196 rfl rfl
    replace h := tx_getf (c := 12) (j := 25) (p' := 200) h em219_197 ((congrFun xo_12 203).trans rfl) rfl rfl (by decide) rfl
    obtain ⟨hb200, h⟩ := tx_iald (len := 403) (p' := 201) h em219_200 rfl rfl
    replace hb200 : 0 ≤ (μ.1 75 25).toInt ∧ (μ.1 75 25).toInt < 403 := hb200
    replace h := tx_bipush (v := 25) (p' := 203) h em219_201 (by decide +kernel) rfl
    rcases tx_icmp (t := 211) (p' := 206) h em219_203 (by decide) rfl with ⟨c203, h⟩ | ⟨c203, h⟩
    · replace c203 : (μ.1 78 (μ.1 75 25).toInt.toNat).toInt ≤ 25 := c203
      replace h := tx_aload_n (p' := 212) h em219_211 rfl rfl
      replace h := tx_getf (c := 12) (j := 27) (p' := 215) h em219_212 ((congrFun xo_12 200).trans rfl) rfl rfl (by decide) rfl
      rcases tx_if (t := 219) (p' := 218) h em219_215 (by decide) rfl with ⟨c215, h⟩ | ⟨c215, h⟩
      · replace c215 : (μ.1 75 27).toInt ≤ 0 := c215
        exact hC _ _ h hkE
      · replace c215 : ¬ (μ.1 75 27).toInt ≤ 0 := c215
        obtain ⟨rfl, hμ⟩ := tx_return h em219_218
        exfalso
        unfold rF at hf
        omega
    · replace c203 : ¬ (μ.1 78 (μ.1 75 25).toInt.toNat).toInt ≤ 25 := c203
      exfalso
      have e22 : (22 : Int32).toInt = 22 := by decide
      have h7 := an_sub (x := μ.1 78 (μ.1 75 25).toInt.toNat) (y := 22) (by omega) (by omega)
      omega
set_option maxRecDepth 10000 in
set_option maxHeartbeats 4000000 in
theorem tell_law5 {m : Int} {ns : List Int} {μ μ' : xM} {r : Option zV} (h0 : Ex gx xq_219 [.inr (.inl (some 75))] μ r μ') (hI : qzI m μ) (hf : rF μ = 0) (hR : rI ns μ) (hx : (μ.1 78 (μ.1 75 25).toInt.toNat).toInt = 25) : r = none ∧ rOT m ns μ μ' := by
  obtain ⟨n, h⟩ := tx_in (L := [some (.inr (.inl (some 75))), none]) h0 rfl
  have hC : ∀ n k, eT xq_219 n 219 [some (.inr (.inl (some 75))), some (.inl k)] [] μ r μ' → (130 ≤ rK μ (rT μ) ∧ rK μ (rT μ) ≤ 133) → r = none ∧ rOT m ns μ μ' := by
    intro n k h hk
    replace h := tx_aload_n (p' := 220) h em219_219 rfl rfl
    obtain ⟨r220, μ220, hE220, h⟩ := tx_invV (na := 1) (mn := 144) (as := [.inr (.inl (some 75))]) (rest := []) (p' := 223) h em219_220 ((congrFun xo_12 221).trans rfl) xm_144 rfl rfl
    obtain ⟨rfl, hq1⟩ := qz_on hE220 hI (fun _ => by omega)
    replace h : eT xq_219 _ 223 [some (.inr (.inl (some 75))), some (.inl k)] [] μ220 r μ' := h
    replace h := tx_aload_n (p' := 224) h em219_223 rfl rfl
    replace h := tx_iload_n (p' := 225) h em219_224 rfl rfl
    obtain ⟨r225, μ225, hE225, h⟩ := tx_invV (na := 2) (mn := 226) (as := [.inr (.inl (some 75)), .inl k]) (rest := []) (p' := 228) h em219_225 ((congrFun xo_12 274).trans rfl) xm_226 rfl rfl
    obtain ⟨rfl, hq2⟩ := qz_law hE225 hq1.2.2.2
    rw [qzS_K hq1.1] at hq2
    replace h : eT xq_219 _ 228 [some (.inr (.inl (some 75))), some (.inl k)] [] μ225 r μ' := h
    obtain ⟨rfl, hμ⟩ := tx_return h em219_228
    rw [hμ]
    have hpT : pTell (rK μ) (rH μ) (rU μ) (rT μ) = pSeq pOn (pSeq (pAcc (rK μ) 61) (wLaw (rK μ) 4)) (rT μ) := by
      rw [pTell_l (by omega)]
      exact (pSeq_on rfl).symm
    refine ⟨rfl, rOT_n hI hf hR (qz_seq0 hq1 hq2) hpT (by omega) (fun _ => ?_)⟩
    unfold pLater
    rw [if_neg (by omega), if_neg (by omega), if_neg (by omega), if_neg (by omega)]
    rfl
  have hkE : 130 ≤ rK μ (rT μ) ∧ rK μ (rT μ) ≤ 133 := by
    have h8 := kmp_l (x := (μ.1 78 (μ.1 75 25).toInt.toNat).toInt) (by omega)
    have h9 : rK μ (rT μ) = kmp (μ.1 78 (μ.1 75 25).toInt.toNat).toInt := rfl
    omega
  replace h := tx_aload_n (p' := 1) h em219_0 rfl rfl
  replace h := tx_getc (c := 12) (j := 19) (p' := 4) h em219_1 ((congrFun xo_12 20).trans rfl) rfl rfl rfl
  replace h := tx_aload_n (p' := 5) h em219_4 rfl rfl
  replace h := tx_getf (c := 12) (j := 25) (p' := 8) h em219_5 ((congrFun xo_12 203).trans rfl) rfl rfl (by decide) rfl
  obtain ⟨hb8, h⟩ := tx_iald (len := 403) (p' := 9) h em219_8 rfl rfl
  replace hb8 : 0 ≤ (μ.1 75 25).toInt ∧ (μ.1 75 25).toInt < 403 := hb8
  obtain ⟨t9, ht9, h⟩ := tx_tsw h em219_9
  have e9 : t9 = 175 := by
    have := tsw_k ht9 (k := 5) (off := 166) rfl (by omega) (by omega)
    omega
  subst e9
  replace h : eT xq_219 _ 175 [some (.inr (.inl (some 75))), none] [] μ r μ' := h
  replace h := tx_aload_n (p' := 176) h em219_175 rfl rfl
  replace h := tx_getc (c := 12) (j := 19) (p' := 179) h em219_176 ((congrFun xo_12 20).trans rfl) rfl rfl rfl
  replace h := tx_aload_n (p' := 180) h em219_179 rfl rfl
  replace h := tx_getf (c := 12) (j := 25) (p' := 183) h em219_180 ((congrFun xo_12 203).trans rfl) rfl rfl (by decide) rfl
  obtain ⟨hb183, h⟩ := tx_iald (len := 403) (p' := 184) h em219_183 rfl rfl
  replace hb183 : 0 ≤ (μ.1 75 25).toInt ∧ (μ.1 75 25).toInt < 403 := hb183
  replace h := tx_bipush (v := 22) (p' := 186) h em219_184 (by decide +kernel) rfl
  replace h := tx_isub (p' := 187) h em219_186 rfl
  replace h := tx_istore_n (p' := 188) h em219_187 rfl
  replace h : eT xq_219 _ 188 [some (.inr (.inl (some 75))), some (.inl ((μ.1 78 (μ.1 75 25).toInt.toNat) - (22 : Int32)))] [] μ r μ' := h
  replace h := tx_iload_n (p' := 189) h em219_188 rfl rfl
  rcases tx_if (t := 206) (p' := 192) h em219_189 (by decide) rfl with ⟨c189, h⟩ | ⟨c189, h⟩
  · replace c189 : ((μ.1 78 (μ.1 75 25).toInt.toNat) - (22 : Int32)).toInt < 0 := c189
    exfalso
    have e22 : (22 : Int32).toInt = 22 := by decide
    have h7 := an_sub (x := μ.1 78 (μ.1 75 25).toInt.toNat) (y := 22) (by omega) (by omega)
    omega
  · replace c189 : ¬ ((μ.1 78 (μ.1 75 25).toInt.toNat) - (22 : Int32)).toInt < 0 := c189
    replace h := tx_aload_n (p' := 193) h em219_192 rfl rfl
    replace h := tx_getc (c := 12) (j := 19) (p' := 196) h em219_193 ((congrFun xo_12 20).trans rfl) rfl rfl rfl
    replace h := tx_aload_n (p' := 197) h em219_196 rfl rfl
    replace h := tx_getf (c := 12) (j := 25) (p' := 200) h em219_197 ((congrFun xo_12 203).trans rfl) rfl rfl (by decide) rfl
    obtain ⟨hb200, h⟩ := tx_iald (len := 403) (p' := 201) h em219_200 rfl rfl
    replace hb200 : 0 ≤ (μ.1 75 25).toInt ∧ (μ.1 75 25).toInt < 403 := hb200
    replace h := tx_bipush (v := 25) (p' := 203) h em219_201 (by decide +kernel) rfl
    rcases tx_icmp (t := 211) (p' := 206) h em219_203 (by decide) rfl with ⟨c203, h⟩ | ⟨c203, h⟩
    · replace c203 : (μ.1 78 (μ.1 75 25).toInt.toNat).toInt ≤ 25 := c203
      replace h := tx_aload_n (p' := 212) h em219_211 rfl rfl
      replace h := tx_getf (c := 12) (j := 27) (p' := 215) h em219_212 ((congrFun xo_12 200).trans rfl) rfl rfl (by decide) rfl
      rcases tx_if (t := 219) (p' := 218) h em219_215 (by decide) rfl with ⟨c215, h⟩ | ⟨c215, h⟩
      · replace c215 : (μ.1 75 27).toInt ≤ 0 := c215
        exact hC _ _ h hkE
      · replace c215 : ¬ (μ.1 75 27).toInt ≤ 0 := c215
        obtain ⟨rfl, hμ⟩ := tx_return h em219_218
        exfalso
        unfold rF at hf
        omega
    · replace c203 : ¬ (μ.1 78 (μ.1 75 25).toInt.toNat).toInt ≤ 25 := c203
      exfalso
      have e22 : (22 : Int32).toInt = 22 := by decide
      have h7 := an_sub (x := μ.1 78 (μ.1 75 25).toInt.toNat) (y := 22) (by omega) (by omega)
      omega
/-- a telling of the reference -/
theorem tell_one {m : Int} {ns : List Int} {μ μ' : xM} {r : Option zV} (h0 : Ex gx xq_219 [.inr (.inl (some 75))] μ r μ') (hI : qzI m μ) (hf : rF μ = 0) (hR : rI ns μ) (hk0 : 0 ≤ rK μ (rT μ)) : r = none ∧ rOT m ns μ μ' := by
  have h9 : rK μ (rT μ) = kmp (μ.1 78 (μ.1 75 25).toInt.toNat).toInt := rfl
  by_cases a : 20 ≤ (μ.1 78 (μ.1 75 25).toInt.toNat).toInt ∧ (μ.1 78 (μ.1 75 25).toInt.toNat).toInt ≤ 28
  · have h8 := kmp_l (x := (μ.1 78 (μ.1 75 25).toInt.toNat).toInt) (by omega)
    have h7 : (μ.1 78 (μ.1 75 25).toInt.toNat).toInt = 20 ∨ (μ.1 78 (μ.1 75 25).toInt.toNat).toInt = 21 ∨ (μ.1 78 (μ.1 75 25).toInt.toNat).toInt = 22 ∨ (μ.1 78 (μ.1 75 25).toInt.toNat).toInt = 23 ∨ (μ.1 78 (μ.1 75 25).toInt.toNat).toInt = 24 ∨ (μ.1 78 (μ.1 75 25).toInt.toNat).toInt = 25 ∨ (μ.1 78 (μ.1 75 25).toInt.toNat).toInt = 26 ∨ (μ.1 78 (μ.1 75 25).toInt.toNat).toInt = 27 ∨ (μ.1 78 (μ.1 75 25).toInt.toNat).toInt = 28 := by omega
    rcases h7 with e | e | e | e | e | e | e | e | e
    · exact tell_house h0 hI hf hR (by omega)
    · exact tell_verse h0 hI hf hR (by omega)
    · exact tell_law2 h0 hI hf hR e
    · exact tell_law3 h0 hI hf hR e
    · exact tell_law4 h0 hI hf hR e
    · exact tell_law5 h0 hI hf hR e
    · exact tell_spoils h0 hI hf hR (by omega)
    · exact tell_thieves h0 hI hf hR (by omega)
    · exact tell_seed h0 hI hf hR (by omega)
  · refine tell_else h0 hI hf hR (fun q => ?_) (by omega) (kmp_p (x := (μ.1 78 (μ.1 75 25).toInt.toNat).toInt) hk0).1
    have h8 := kmp_h (x := (μ.1 78 (μ.1 75 25).toInt.toNat).toInt) (by omega)
    omega
