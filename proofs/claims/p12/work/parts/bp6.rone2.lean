/-! ===== a telling of the reference: what it tells ===== -/
/-- the reference's side s, but for its laws -/
def sM (s : Nat) (S : kSt) (μ : xM) : Prop :=
  ((μ.1 84 s).toInt = S.1.length ∧ (μ.1 86 s).toInt = S.2.1.length ∧ (μ.1 91 s).toInt = S.2.2.1.1 ∧ (μ.1 92 s).toInt = S.2.2.1.2.1 ∧ (μ.1 93 s).toInt = S.2.2.1.2.2) ∧
  (∀ h l : Nat, h < S.1.length → l < 8 → (μ.1 85 (40 * s + 8 * h + l)).toInt = kCt (S.1.getD h []) l) ∧
  ∀ v : Nat, v < S.2.1.length → (μ.1 87 (7 * s + v)).toInt = (kV S v).1.length ∧ (∀ i : Nat, i < (kV S v).1.length → (μ.1 88 (8 * (7 * s + v) + i)).toInt = (kV S v).1.getD i 0) ∧ (μ.1 89 (7 * s + v)).toInt = (kV S v).2.1 ∧ (μ.1 90 (7 * s + v)).toInt = (kV S v).2.2
/-- the other side stands -/
def oE (s : Nat) (μ μ' : xM) : Prop := (∀ k j, (k = 84 ∨ k = 86 ∨ k = 91 ∨ k = 92 ∨ k = 93) → ¬ j = s → μ'.1 k j = μ.1 k j) ∧ (∀ j, (j < 40 * s ∨ 40 * s + 40 ≤ j) → μ'.1 85 j = μ.1 85 j) ∧ (∀ k j, (k = 87 ∨ k = 89 ∨ k = 90) → (j < 7 * s ∨ 7 * s + 7 ≤ j) → μ'.1 k j = μ.1 k j) ∧ ∀ j, (j < 56 * s ∨ 56 * s + 56 ≤ j) → μ'.1 88 j = μ.1 88 j
theorem oE_rf {s : Nat} {μ : xM} : oE s μ μ := ⟨fun _ _ _ _ => rfl, fun _ _ => rfl, fun _ _ _ _ => rfl, fun _ _ => rfl⟩
theorem oE_tr {s : Nat} {μ ν ω : xM} (h1 : oE s μ ν) (h2 : oE s ν ω) : oE s μ ω := ⟨fun k j a b => (h2.1 k j a b).trans (h1.1 k j a b), fun j a => (h2.2.1 j a).trans (h1.2.1 j a), fun k j a b => (h2.2.2.1 k j a b).trans (h1.2.2.1 k j a b), fun j a => (h2.2.2.2 j a).trans (h1.2.2.2 j a)⟩
theorem oE_m {s : Nat} {μ ν : xM} (h : mE μ ν) : oE s μ ν := ⟨fun k j a _ => h.2 k j (by omega) (by omega), fun j _ => h.2 85 j (by decide) (by decide), fun k j a _ => h.2 k j (by omega) (by omega), fun j _ => h.2 88 j (by decide) (by decide)⟩
theorem oE_h {s H : Nat} {l : List Int} {μ ν : xM} (hs : (μ.1 75 32).toInt.toNat = s) (hH : H ≤ 4) (h : mHq (40 * s + 8 * H) l μ ν) : oE s μ ν := by
  obtain ⟨q1, q2, q3, q4, q5, q6⟩ := h
  rw [hs] at q5
  refine ⟨fun k j a b => ?_, fun j a => q3 j (by omega), fun k j a _ => q6 k j (by omega) (by omega) (by omega) (by omega), fun j _ => q6 88 j (by decide) (by decide) (by decide) (by decide)⟩
  by_cases e : k = 84
  · rw [e]; exact q5 j b
  · exact q6 k j (by omega) (by omega) (by omega) e
theorem oE_v {s U : Nat} {l : List Int} {v d : Int} {μ ν : xM} (hs : (μ.1 75 32).toInt.toNat = s) (hU : U ≤ 6) (h : mVq (7 * s + U) l v d μ ν) : oE s μ ν := by
  obtain ⟨q1, q2, ⟨q3, q3b⟩, q4, q5, q6⟩ := h
  rw [hs] at q5
  refine ⟨fun k j a b => ?_, fun j a => q6 85 j (by decide) (by decide) (by decide) (by decide) (by decide) (by decide) (by decide), fun k j a b => ?_, fun j a => q3b j (by omega)⟩
  · by_cases e : k = 86
    · rw [e]; exact q5 j b
    · exact q6 k j (by omega) (by omega) e (by omega) (by omega) (by omega) (by omega)
  · have q := q3 j (by omega)
    rcases a with rfl | rfl | rfl
    · exact q.1
    · exact q.2.1
    · exact q.2.2
theorem oE_n {s k : Nat} {v : Int32} {μ ν : xM} (hk : k = 91 ∨ k = 92 ∨ k = 93) (h : mE μ ν) : oE s μ (xpi ν k s v) := ⟨fun c j a b => (xpi_ne (fun q => b q.2)).trans (h.2 c j (by omega) (by omega)), fun j _ => (xpi_ne (fun q => by omega)).trans (h.2 85 j (by decide) (by decide)), fun c j a _ => (xpi_ne (fun q => by omega)).trans (h.2 c j (by omega) (by omega)), fun j _ => (xpi_ne (fun q => by omega)).trans (h.2 88 j (by decide) (by decide))⟩
theorem sM_cg {s : Nat} {S : kSt} {μ ν : xM} (h : ∀ k j, 84 ≤ k → k ≤ 93 → ν.1 k j = μ.1 k j) (hs : sM s S μ) : sM s S ν := by
  unfold sM
  simp only [h 84 _ (by decide) (by decide), h 85 _ (by decide) (by decide), h 86 _ (by decide) (by decide), h 87 _ (by decide) (by decide), h 88 _ (by decide) (by decide), h 89 _ (by decide) (by decide), h 90 _ (by decide) (by decide), h 91 _ (by decide) (by decide), h 92 _ (by decide) (by decide), h 93 _ (by decide) (by decide)]
  exact hs
/-- the side that was not read stands -/
theorem sM_o {s t : Nat} {S : kSt} {μ ν : xM} (hst : (s = 0 ∧ t = 1) ∨ (s = 1 ∧ t = 0)) (hW : kWf S) (h : oE s μ ν) (hs : sM t S μ) : sM t S ν := by
  obtain ⟨⟨a1, a2, a3, a4, a5⟩, b, d⟩ := hs
  obtain ⟨h1, h2, h3, h4⟩ := h
  refine ⟨⟨?_, ?_, ?_, ?_, ?_⟩, fun h l x y => ?_, fun v hv => ?_⟩
  · rw [h1 84 t (by decide) (by omega)]; exact a1
  · rw [h1 86 t (by decide) (by omega)]; exact a2
  · rw [h1 91 t (by decide) (by omega)]; exact a3
  · rw [h1 92 t (by decide) (by omega)]; exact a4
  · rw [h1 93 t (by decide) (by omega)]; exact a5
  · rw [h2 _ (by have := hW.1; omega)]; exact b h l x y
  · have hv7 := hW.2.1
    obtain ⟨d1, d2, d3, d4⟩ := d v hv
    have h8 := (kWf_V hW v).1
    rw [h3 87 _ (by decide) (by omega), h3 89 _ (by decide) (by omega), h3 90 _ (by decide) (by omega)]
    exact ⟨d1, fun i hi => by rw [h4 _ (by omega)]; exact d2 i hi, d3, d4⟩
theorem sM_house {s : Nat} {l : List Int} {S : kSt} {μ ν : xM} (hs : (μ.1 75 32).toInt.toNat = s) (hS : sM s S μ) (hz : rF ν = 0) (h : mHq (40 * s + 8 * S.1.length) l μ ν) : sM s (S.1 ++ [l], S.2) ν := by
  obtain ⟨⟨a1, a2, a3, a4, a5⟩, b, d⟩ := hS
  obtain ⟨q1, q2, q3, q4, q5, q6⟩ := h
  rw [hs] at q4 q5
  have g : ∀ k j, 84 ≤ k → k ≤ 93 → k ≠ 85 → k ≠ 84 → ν.1 k j = μ.1 k j := q6
  refine ⟨⟨?_, ?_, ?_, ?_, ?_⟩, fun h x hh hx => ?_, fun v hv => ?_⟩
  · rw [q4 hz, a1]; show _ = (((S.1 ++ [l]).length : Nat) : Int); rw [List.length_append]; rfl
  · rw [g 86 s (by decide) (by decide) (by decide) (by decide)]; exact a2
  · rw [g 91 s (by decide) (by decide) (by decide) (by decide)]; exact a3
  · rw [g 92 s (by decide) (by decide) (by decide) (by decide)]; exact a4
  · rw [g 93 s (by decide) (by decide) (by decide) (by decide)]; exact a5
  · have hh2 : h < S.1.length + 1 := by
      have : h < (S.1 ++ [l]).length := hh
      rw [List.length_append] at this
      exact this
    show _ = kCt ((S.1 ++ [l]).getD h []) x
    rw [kGd]
    by_cases e : h < S.1.length
    · rw [if_pos e, q3 _ (by omega)]; exact b h x e hx
    · have e2 : h = S.1.length := by omega
      rw [if_neg e, if_pos e2, e2]; exact q2 x hx
  · obtain ⟨d1, d2, d3, d4⟩ := d v hv
    rw [g 87 _ (by decide) (by decide) (by decide) (by decide), g 89 _ (by decide) (by decide) (by decide) (by decide), g 90 _ (by decide) (by decide) (by decide) (by decide)]
    exact ⟨d1, fun i hi => by rw [g 88 _ (by decide) (by decide) (by decide) (by decide)]; exact d2 i hi, d3, d4⟩
theorem sM_verse {s : Nat} {l : List Int} {v d : Int} {S : kSt} {μ ν : xM} (hs : (μ.1 75 32).toInt.toNat = s) (hW : kWf S) (hS : sM s S μ) (hz : rF ν = 0) (h : mVq (7 * s + S.2.1.length) l v d μ ν) : sM s (S.1, S.2.1 ++ [(l, v, d)], S.2.2) ν := by
  obtain ⟨⟨a1, a2, a3, a4, a5⟩, b, dd⟩ := hS
  obtain ⟨q1, q2, ⟨q3, q3b⟩, q4, q5, q6⟩ := h
  obtain ⟨p1, p2, p3, p4⟩ := q2 hz
  rw [hs] at q4 q5
  have g : ∀ k j, 84 ≤ k → k ≤ 93 → k ≠ 86 → k ≠ 87 → k ≠ 88 → k ≠ 89 → k ≠ 90 → ν.1 k j = μ.1 k j := q6
  refine ⟨⟨?_, ?_, ?_, ?_, ?_⟩, fun h x hh hx => ?_, fun w hw => ?_⟩
  · rw [g 84 s (by decide) (by decide) (by decide) (by decide) (by decide) (by decide) (by decide)]; exact a1
  · rw [q4 hz, a2]; show _ = (((S.2.1 ++ [(l, v, d)]).length : Nat) : Int); rw [List.length_append]; rfl
  · rw [g 91 s (by decide) (by decide) (by decide) (by decide) (by decide) (by decide) (by decide)]; exact a3
  · rw [g 92 s (by decide) (by decide) (by decide) (by decide) (by decide) (by decide) (by decide)]; exact a4
  · rw [g 93 s (by decide) (by decide) (by decide) (by decide) (by decide) (by decide) (by decide)]; exact a5
  · rw [g 85 _ (by decide) (by decide) (by decide) (by decide) (by decide) (by decide) (by decide)]; exact b h x hh hx
  · have hw2 : w < S.2.1.length + 1 := by
      have : w < (S.2.1 ++ [(l, v, d)]).length := hw
      rw [List.length_append] at this
      exact this
    have kv : kV (S.1, S.2.1 ++ [(l, v, d)], S.2.2) w = if w < S.2.1.length then kV S w else if w = S.2.1.length then (l, v, d) else ([], 0, 0) := by unfold kV; exact kGd
    rw [kv]
    by_cases e : w < S.2.1.length
    · rw [if_pos e]
      obtain ⟨d1, d2, d3, d4⟩ := dd w e
      have q := q3 (7 * s + w) (by omega)
      rw [q.1, q.2.1, q.2.2]
      have h8 := (kWf_V hW w).1
      exact ⟨d1, fun i hi => by rw [q3b _ (by omega)]; exact d2 i hi, d3, d4⟩
    · have e2 : w = S.2.1.length := by omega
      rw [if_neg e, if_pos e2, e2]
      exact ⟨p1, p2, p3, p4⟩
theorem sM_num {s k : Nat} {S S' : kSt} {μ : xM} {v : Int32} (hk : k = 91 ∨ k = 92 ∨ k = 93) (hs : sM s S μ) (h1 : S'.1 = S.1) (h2 : S'.2.1 = S.2.1) (h4 : S'.2.2.1.1 = if k = 91 then v.toInt else S.2.2.1.1) (h5 : S'.2.2.1.2.1 = if k = 92 then v.toInt else S.2.2.1.2.1) (h6 : S'.2.2.1.2.2 = if k = 93 then v.toInt else S.2.2.1.2.2) : sM s S' (xpi μ k s v) := by
  obtain ⟨⟨a1, a2, a3, a4, a5⟩, b, d⟩ := hs
  have kv : ∀ w, kV S' w = kV S w := fun w => by unfold kV; rw [h2]
  have g : ∀ c j, ¬ c = k → (xpi μ k s v).1 c j = μ.1 c j := fun c j hc => xpi_ne (fun q => hc q.1)
  refine ⟨⟨?_, ?_, ?_, ?_, ?_⟩, fun h l x y => ?_, fun w hw => ?_⟩
  · rw [g 84 _ (by omega), h1]; exact a1
  · rw [g 86 _ (by omega), h2]; exact a2
  · rw [h4]
    by_cases q : k = 91
    · rw [if_pos q, q, xpi_at]
    · rw [if_neg q, g 91 _ (by omega)]; exact a3
  · rw [h5]
    by_cases q : k = 92
    · rw [if_pos q, q, xpi_at]
    · rw [if_neg q, g 92 _ (by omega)]; exact a4
  · rw [h6]
    by_cases q : k = 93
    · rw [if_pos q, q, xpi_at]
    · rw [if_neg q, g 93 _ (by omega)]; exact a5
  · rw [h1] at x ⊢
    rw [g 85 _ (by omega)]; exact b h l x y
  · rw [h2] at hw
    rw [g 87 _ (by omega), g 89 _ (by omega), g 90 _ (by omega), kv w]
    obtain ⟨d1, d2, d3, d4⟩ := d w hw
    exact ⟨d1, fun i hi => by rw [g 88 _ (by omega)]; exact d2 i hi, d3, d4⟩
set_option maxRecDepth 10000 in
set_option maxHeartbeats 4000000 in
theorem rk1_house {m : Int} {ns : List Int} {lw : Int → kLw} {μ μ' : xM} {r : Option zV} (h0 : Ex gx xq_219 [.inr (.inl (some 75))] μ r μ') (hI : qzI m μ) (hf : rF μ = 0) (hR : rI ns μ) (hO : hOK μ) (hk : rK μ (rT μ) = 128) : hOK μ' ∧ oE (rSd μ).toNat μ μ' ∧ (rF μ' = 0 → (rW μ').1 = 0 → ∀ S, kWf S → sM (rSd μ).toNat S μ → sM (rSd μ).toNat (kStep (rK μ) (rLt μ) (rVl μ) lw (rT μ) S) μ') := by
  obtain ⟨n, h⟩ := tx_in (L := [some (.inr (.inl (some 75))), none]) h0 rfl
  have hx : (μ.1 78 (μ.1 75 25).toInt.toNat).toInt = 20 := by have h8 := kmp_h (x := (μ.1 78 (μ.1 75 25).toInt.toNat).toInt) (by show 128 ≤ rK μ (rT μ); omega); have h9 : kmp (μ.1 78 (μ.1 75 25).toInt.toNat).toInt = 128 := hk; omega
  have hC : ∀ n ν, eT xq_219 n 81 [some (.inr (.inl (some 75))), none] [] ν r μ' → qzN m pOn nN μ ν → rF ν = 0 → ¬ (μ.1 84 (μ.1 75 32).toInt.toNat).toInt = (5 : Int32).toInt → mE μ ν → hOK μ' ∧ oE (rSd μ).toNat μ μ' ∧ (rF μ' = 0 → (rW μ').1 = 0 → ∀ S, kWf S → sM (rSd μ).toNat S μ → sM (rSd μ).toNat (kStep (rK μ) (rLt μ) (rVl μ) lw (rT μ) S) μ') := by
    intro n ν h hqr hf2 hab hmν
    obtain ⟨eH0, eU0, eS⟩ := qzS_H hqr.1
    have eC := eH0
    have hst := qz_rf0 hI hqr hf2
    have hone : rT ν = rT μ + 1 := by
      by_cases q4 : rT μ = 400
      · exfalso
        have q5 := hst.2.1
        rw [pOn_n q4] at q5
        exact absurd (show (2 : Int) = 0 from q5) (by decide)
      · have q5 := pOn_y q4
        rw [hst.2.2.1, q5]
    replace h := tx_aload_n (p' := 82) h em219_81 rfl rfl
    obtain ⟨r82, μ82, hE82, h⟩ := tx_invV (na := 1) (mn := 224) (as := [.inr (.inl (some 75))]) (rest := []) (p' := 85) h em219_82 ((congrFun xo_12 265).trans rfl) xm_224 rfl rfl
    have er := ex_void [0, 2, 3, 6, 7, 9, 10, 13, 14, 17, 18, 19, 20, 21, 22, 25, 26, 27, 30, 31, 32, 33, 35, 38, 39, 42, 43, 44, 45, 46, 47, 50, 53, 54, 55, 56, 57, 60, 63, 64, 67, 68, 69, 72, 73, 74, 75, 76, 77, 78, 79, 80, 83, 86, 87, 88, 91, 92, 95, 98, 99, 102, 103, 106, 107, 108, 109, 110, 111, 112] (by decide +kernel) hE82
    subst er
    obtain ⟨l, hmq, hsc⟩ := rk_house hE82 hqr.2.2.2 hmν.1 (by rw [eS]; exact hR.2.2.2.1) (by rw [eC]; have h5 := hR.2.1; have e5 : (5 : Int32).toInt = 5 := (by decide); have h6 : ¬ rH μ = (5 : Int32).toInt := hab; omega)
    replace h : eT xq_219 _ 85 [some (.inr (.inl (some 75))), none] [] μ82 r μ' := h
    replace h := tx_goto (t := 228) h em219_85 (by decide)
    obtain ⟨rfl, hμ⟩ := tx_return h em219_228
    rw [hμ]
    have hs9 : (ν.1 75 32).toInt.toNat = (rSd μ).toNat := by rw [← eS]; rfl
    have hq9 : mHq (40 * (rSd μ).toNat + 8 * (rH μ).toNat) l ν μ82 := by rw [← eS, ← eC]; exact hmq
    refine ⟨hmq.1, oE_tr (oE_m hmν) (oE_h hs9 (by have h5 := hR.2.1; have e5 : (5 : Int32).toInt = 5 := (by decide); have h6 : ¬ rH μ = (5 : Int32).toInt := hab; omega) hq9), fun hz hw S hW hS => ?_⟩
    have hS2 := sM_cg (fun k j a b => hmν.2 k j a b) hS
    have ec : rH μ = (S.1.length : Int) := hS.1.1
    have en : (rH μ).toNat = S.1.length := by omega
    rw [en] at hq9
    have el := hsc hz hw
    rw [qzS_rLt hqr.1, hone, show rT μ + 1 + 1 = rT μ + 2 by omega] at el
    unfold kStep
    rw [if_pos hk, ← el]
    exact sM_house hs9 hS2 hz hq9
  replace h := tx_aload_n (p' := 1) h em219_0 rfl rfl
  replace h := tx_getc (c := 12) (j := 19) (p' := 4) h em219_1 ((congrFun xo_12 20).trans rfl) rfl rfl rfl
  replace h := tx_aload_n (p' := 5) h em219_4 rfl rfl
  replace h := tx_getf (c := 12) (j := 25) (p' := 8) h em219_5 ((congrFun xo_12 203).trans rfl) rfl rfl (by decide) rfl
  obtain ⟨hb8, h⟩ := tx_iald (len := 403) (p' := 9) h em219_8 rfl rfl
  replace hb8 : (0 : Int) ≤ (μ.1 75 25).toInt ∧ (μ.1 75 25).toInt < 403 := hb8
  obtain ⟨t9, ht9, h⟩ := tx_tsw h em219_9
  have e9 : t9 = 60 := by
    have := tsw_k ht9 (k := 0) (off := 51) rfl (by omega) (by omega)
    omega
  subst e9
  replace h : eT xq_219 _ 60 [some (.inr (.inl (some 75))), none] [] μ r μ' := h
  replace h := tx_aload_n (p' := 61) h em219_60 rfl rfl
  replace h := tx_aload_n (p' := 62) h em219_61 rfl rfl
  replace h := tx_getc (c := 12) (j := 3) (p' := 65) h em219_62 ((congrFun xo_12 43).trans rfl) rfl rfl rfl
  replace h := tx_aload_n (p' := 66) h em219_65 rfl rfl
  replace h := tx_getf (c := 12) (j := 32) (p' := 69) h em219_66 ((congrFun xo_12 233).trans rfl) rfl rfl (by decide) rfl
  obtain ⟨hb69, h⟩ := tx_iald (len := 2) (p' := 70) h em219_69 rfl rfl
  replace hb69 : (0 : Int) ≤ (μ.1 75 32).toInt ∧ (μ.1 75 32).toInt < 2 := hb69
  replace h := tx_iconst (v := 5) (p' := 71) h em219_70 (by decide +kernel) rfl
  obtain ⟨r71, μ71, hE71, h⟩ := tx_invV (na := 3) (mn := 183) (as := [.inr (.inl (some 75)), .inl (μ.1 84 (μ.1 75 32).toInt.toNat), .inl (5 : Int32)]) (rest := []) (p' := 74) h em219_71 ((congrFun xo_12 261).trans rfl) xm_183 rfl rfl
  have hm71 := mE_w (μ := μ) (by decide +kernel) (hf_183_0 hE71 (hEn0 (by decide)) hO).2 hO
  obtain ⟨rfl, ⟨hab, hqr⟩ | ⟨hab, hqr⟩⟩ := qz_roomFor hE71 hI hf (by omega)
  · replace h : eT xq_219 _ 74 [some (.inr (.inl (some 75))), none] [] μ71 r μ' := h
    replace h := tx_aload_n (p' := 75) h em219_74 rfl rfl
    replace h := tx_getf (c := 12) (j := 27) (p' := 78) h em219_75 ((congrFun xo_12 200).trans rfl) rfl rfl (by decide) rfl
    rcases tx_if (t := 228) (p' := 81) h em219_78 (by decide) rfl with ⟨c78, h⟩ | ⟨c78, h⟩
    · replace c78 : ¬ (μ71.1 75 27).toInt = 0 := c78
      obtain ⟨rfl, hμ⟩ := tx_return h em219_228
      rw [hμ]
      exact ⟨hm71.1, oE_m hm71, fun hz => absurd hz (by unfold rF; omega)⟩
    · replace c78 : ¬ ¬ (μ71.1 75 27).toInt = 0 := c78
      exfalso
      rcases (hqr.2.2.1 hf).1 with ⟨k1, -⟩ | ⟨-, k2, -⟩
      · exact absurd (show (2 : Int) = 0 from k1) (by decide)
      · have k2 : rF μ71 = 2 := k2
        unfold rF at k2
        omega
  · replace h : eT xq_219 _ 74 [some (.inr (.inl (some 75))), none] [] μ71 r μ' := h
    replace h := tx_aload_n (p' := 75) h em219_74 rfl rfl
    replace h := tx_getf (c := 12) (j := 27) (p' := 78) h em219_75 ((congrFun xo_12 200).trans rfl) rfl rfl (by decide) rfl
    rcases tx_if (t := 228) (p' := 81) h em219_78 (by decide) rfl with ⟨c78_1, h⟩ | ⟨c78_1, h⟩
    · replace c78_1 : ¬ (μ71.1 75 27).toInt = 0 := c78_1
      obtain ⟨rfl, hμ⟩ := tx_return h em219_228
      rw [hμ]
      exact ⟨hm71.1, oE_m hm71, fun hz => absurd hz (by unfold rF; omega)⟩
    · replace c78_1 : ¬ ¬ (μ71.1 75 27).toInt = 0 := c78_1
      exact hC _ _ h hqr (by unfold rF; omega) hab hm71
set_option maxRecDepth 10000 in
set_option maxHeartbeats 4000000 in
theorem rk1_verse {m : Int} {ns : List Int} {lw : Int → kLw} {μ μ' : xM} {r : Option zV} (h0 : Ex gx xq_219 [.inr (.inl (some 75))] μ r μ') (hI : qzI m μ) (hf : rF μ = 0) (hR : rI ns μ) (hO : hOK μ) (hk : rK μ (rT μ) = 129) : hOK μ' ∧ oE (rSd μ).toNat μ μ' ∧ (rF μ' = 0 → (rW μ').1 = 0 → ∀ S, kWf S → sM (rSd μ).toNat S μ → sM (rSd μ).toNat (kStep (rK μ) (rLt μ) (rVl μ) lw (rT μ) S) μ') := by
  obtain ⟨n, h⟩ := tx_in (L := [some (.inr (.inl (some 75))), none]) h0 rfl
  have hx : (μ.1 78 (μ.1 75 25).toInt.toNat).toInt = 21 := by have h8 := kmp_h (x := (μ.1 78 (μ.1 75 25).toInt.toNat).toInt) (by show 128 ≤ rK μ (rT μ); omega); have h9 : kmp (μ.1 78 (μ.1 75 25).toInt.toNat).toInt = 129 := hk; omega
  have hC : ∀ n ν, eT xq_219 n 110 [some (.inr (.inl (some 75))), none] [] ν r μ' → qzN m pOn nN μ ν → rF ν = 0 → ¬ (μ.1 86 (μ.1 75 32).toInt.toNat).toInt = (7 : Int32).toInt → mE μ ν → hOK μ' ∧ oE (rSd μ).toNat μ μ' ∧ (rF μ' = 0 → (rW μ').1 = 0 → ∀ S, kWf S → sM (rSd μ).toNat S μ → sM (rSd μ).toNat (kStep (rK μ) (rLt μ) (rVl μ) lw (rT μ) S) μ') := by
    intro n ν h hqr hf2 hab hmν
    obtain ⟨eH0, eU0, eS⟩ := qzS_H hqr.1
    have eC := eU0
    have hst := qz_rf0 hI hqr hf2
    have hone : rT ν = rT μ + 1 := by
      by_cases q4 : rT μ = 400
      · exfalso
        have q5 := hst.2.1
        rw [pOn_n q4] at q5
        exact absurd (show (2 : Int) = 0 from q5) (by decide)
      · have q5 := pOn_y q4
        rw [hst.2.2.1, q5]
    replace h := tx_aload_n (p' := 111) h em219_110 rfl rfl
    obtain ⟨r111, μ111, hE111, h⟩ := tx_invV (na := 1) (mn := 225) (as := [.inr (.inl (some 75))]) (rest := []) (p' := 114) h em219_111 ((congrFun xo_12 268).trans rfl) xm_225 rfl rfl
    have er := ex_void [0, 2, 3, 6, 7, 8, 11, 12, 15, 16, 17, 18, 19, 22, 23, 24, 27, 28, 31, 32, 33, 36, 37, 38, 39, 40, 41, 44, 47, 48, 51, 53, 54, 55, 56, 57, 58, 61, 62, 63, 64, 67, 70, 71, 74, 75, 76, 77, 79, 82, 83, 84, 87, 88, 89, 90, 92, 95, 96, 97, 98, 101, 102, 105, 108, 109, 112, 113, 116, 117, 118, 119, 120, 121, 122] (by decide +kernel) hE111
    subst er
    obtain ⟨l, v, d, hmq, hsc⟩ := rk_verse hE111 hqr.2.2.2 hmν.1 (by rw [eS]; exact hR.2.2.2.1) (by rw [eC]; have h5 := hR.2.2.1; have e5 : (7 : Int32).toInt = 7 := (by decide); have h6 : ¬ rU μ = (7 : Int32).toInt := hab; omega)
    replace h : eT xq_219 _ 114 [some (.inr (.inl (some 75))), none] [] μ111 r μ' := h
    replace h := tx_goto (t := 228) h em219_114 (by decide)
    obtain ⟨rfl, hμ⟩ := tx_return h em219_228
    rw [hμ]
    have hs9 : (ν.1 75 32).toInt.toNat = (rSd μ).toNat := by rw [← eS]; rfl
    have hq9 : mVq (7 * (rSd μ).toNat + (rU μ).toNat) l v d ν μ111 := by rw [← eS, ← eC]; exact hmq
    refine ⟨hmq.1, oE_tr (oE_m hmν) (oE_v hs9 (by have h5 := hR.2.2.1; have e5 : (7 : Int32).toInt = 7 := (by decide); have h6 : ¬ rU μ = (7 : Int32).toInt := hab; omega) hq9), fun hz hw S hW hS => ?_⟩
    have hS2 := sM_cg (fun k j a b => hmν.2 k j a b) hS
    have ec : rU μ = (S.2.1.length : Int) := hS.1.2.1
    have en : (rU μ).toNat = S.2.1.length := by omega
    rw [en] at hq9
    obtain ⟨el, ev, ed⟩ := hsc hz hw
    rw [qzS_rLt hqr.1, hone, show rT μ + 1 + 1 = rT μ + 2 by omega] at el
    rw [qzS_V hqr.1, hone, show rT μ + 1 + 2 = rT μ + 3 by omega] at ev
    rw [qzS_V hqr.1, hone, show rT μ + 1 + 3 = rT μ + 4 by omega] at ed
    unfold kStep
    rw [if_neg (by omega), if_pos hk, ← el, ← ev, ← ed]
    exact sM_verse hs9 hW hS2 hz hq9
  replace h := tx_aload_n (p' := 1) h em219_0 rfl rfl
  replace h := tx_getc (c := 12) (j := 19) (p' := 4) h em219_1 ((congrFun xo_12 20).trans rfl) rfl rfl rfl
  replace h := tx_aload_n (p' := 5) h em219_4 rfl rfl
  replace h := tx_getf (c := 12) (j := 25) (p' := 8) h em219_5 ((congrFun xo_12 203).trans rfl) rfl rfl (by decide) rfl
  obtain ⟨hb8, h⟩ := tx_iald (len := 403) (p' := 9) h em219_8 rfl rfl
  replace hb8 : (0 : Int) ≤ (μ.1 75 25).toInt ∧ (μ.1 75 25).toInt < 403 := hb8
  obtain ⟨t9, ht9, h⟩ := tx_tsw h em219_9
  have e9 : t9 = 88 := by
    have := tsw_k ht9 (k := 1) (off := 79) rfl (by omega) (by omega)
    omega
  subst e9
  replace h : eT xq_219 _ 88 [some (.inr (.inl (some 75))), none] [] μ r μ' := h
  replace h := tx_aload_n (p' := 89) h em219_88 rfl rfl
  replace h := tx_aload_n (p' := 90) h em219_89 rfl rfl
  replace h := tx_getc (c := 12) (j := 4) (p' := 93) h em219_90 ((congrFun xo_12 49).trans rfl) rfl rfl rfl
  replace h := tx_aload_n (p' := 94) h em219_93 rfl rfl
  replace h := tx_getf (c := 12) (j := 32) (p' := 97) h em219_94 ((congrFun xo_12 233).trans rfl) rfl rfl (by decide) rfl
  obtain ⟨hb97, h⟩ := tx_iald (len := 2) (p' := 98) h em219_97 rfl rfl
  replace hb97 : (0 : Int) ≤ (μ.1 75 32).toInt ∧ (μ.1 75 32).toInt < 2 := hb97
  replace h := tx_bipush (v := 7) (p' := 100) h em219_98 (by decide +kernel) rfl
  obtain ⟨r100, μ100, hE100, h⟩ := tx_invV (na := 3) (mn := 183) (as := [.inr (.inl (some 75)), .inl (μ.1 86 (μ.1 75 32).toInt.toNat), .inl (7 : Int32)]) (rest := []) (p' := 103) h em219_100 ((congrFun xo_12 261).trans rfl) xm_183 rfl rfl
  have hm100 := mE_w (μ := μ) (by decide +kernel) (hf_183_0 hE100 (hEn0 (by decide)) hO).2 hO
  obtain ⟨rfl, ⟨hab, hqr⟩ | ⟨hab, hqr⟩⟩ := qz_roomFor hE100 hI hf (by omega)
  · replace h : eT xq_219 _ 103 [some (.inr (.inl (some 75))), none] [] μ100 r μ' := h
    replace h := tx_aload_n (p' := 104) h em219_103 rfl rfl
    replace h := tx_getf (c := 12) (j := 27) (p' := 107) h em219_104 ((congrFun xo_12 200).trans rfl) rfl rfl (by decide) rfl
    rcases tx_if (t := 228) (p' := 110) h em219_107 (by decide) rfl with ⟨c107, h⟩ | ⟨c107, h⟩
    · replace c107 : ¬ (μ100.1 75 27).toInt = 0 := c107
      obtain ⟨rfl, hμ⟩ := tx_return h em219_228
      rw [hμ]
      exact ⟨hm100.1, oE_m hm100, fun hz => absurd hz (by unfold rF; omega)⟩
    · replace c107 : ¬ ¬ (μ100.1 75 27).toInt = 0 := c107
      exfalso
      rcases (hqr.2.2.1 hf).1 with ⟨k1, -⟩ | ⟨-, k2, -⟩
      · exact absurd (show (2 : Int) = 0 from k1) (by decide)
      · have k2 : rF μ100 = 2 := k2
        unfold rF at k2
        omega
  · replace h : eT xq_219 _ 103 [some (.inr (.inl (some 75))), none] [] μ100 r μ' := h
    replace h := tx_aload_n (p' := 104) h em219_103 rfl rfl
    replace h := tx_getf (c := 12) (j := 27) (p' := 107) h em219_104 ((congrFun xo_12 200).trans rfl) rfl rfl (by decide) rfl
    rcases tx_if (t := 228) (p' := 110) h em219_107 (by decide) rfl with ⟨c107_1, h⟩ | ⟨c107_1, h⟩
    · replace c107_1 : ¬ (μ100.1 75 27).toInt = 0 := c107_1
      obtain ⟨rfl, hμ⟩ := tx_return h em219_228
      rw [hμ]
      exact ⟨hm100.1, oE_m hm100, fun hz => absurd hz (by unfold rF; omega)⟩
    · replace c107_1 : ¬ ¬ (μ100.1 75 27).toInt = 0 := c107_1
      exact hC _ _ h hqr (by unfold rF; omega) hab hm100
set_option maxRecDepth 10000 in
set_option maxHeartbeats 4000000 in
theorem rk1_spoils {m : Int} {ns : List Int} {lw : Int → kLw} {μ μ' : xM} {r : Option zV} (h0 : Ex gx xq_219 [.inr (.inl (some 75))] μ r μ') (hI : qzI m μ) (hf : rF μ = 0) (hR : rI ns μ) (hO : hOK μ) (hk : rK μ (rT μ) = 134) : hOK μ' ∧ oE (rSd μ).toNat μ μ' ∧ (rF μ' = 0 → (rW μ').1 = 0 → ∀ S, kWf S → sM (rSd μ).toNat S μ → sM (rSd μ).toNat (kStep (rK μ) (rLt μ) (rVl μ) lw (rT μ) S) μ') := by
  obtain ⟨n, h⟩ := tx_in (L := [some (.inr (.inl (some 75))), none]) h0 rfl
  have hx : (μ.1 78 (μ.1 75 25).toInt.toNat).toInt = 26 := by have h8 := kmp_h (x := (μ.1 78 (μ.1 75 25).toInt.toNat).toInt) (by show 128 ≤ rK μ (rT μ); omega); have h9 : kmp (μ.1 78 (μ.1 75 25).toInt.toNat).toInt = 134 := hk; omega
  replace h := tx_aload_n (p' := 1) h em219_0 rfl rfl
  replace h := tx_getc (c := 12) (j := 19) (p' := 4) h em219_1 ((congrFun xo_12 20).trans rfl) rfl rfl rfl
  replace h := tx_aload_n (p' := 5) h em219_4 rfl rfl
  replace h := tx_getf (c := 12) (j := 25) (p' := 8) h em219_5 ((congrFun xo_12 203).trans rfl) rfl rfl (by decide) rfl
  obtain ⟨hb8, h⟩ := tx_iald (len := 403) (p' := 9) h em219_8 rfl rfl
  replace hb8 : (0 : Int) ≤ (μ.1 75 25).toInt ∧ (μ.1 75 25).toInt < 403 := hb8
  obtain ⟨t9, ht9, h⟩ := tx_tsw h em219_9
  have e9 : t9 = 117 := by
    have := tsw_k ht9 (k := 6) (off := 108) rfl (by omega) (by omega)
    omega
  subst e9
  replace h : eT xq_219 _ 117 [some (.inr (.inl (some 75))), none] [] μ r μ' := h
  replace h := tx_aload_n (p' := 118) h em219_117 rfl rfl
  replace h := tx_getc (c := 12) (j := 40) (p' := 121) h em219_118 ((congrFun xo_12 64).trans rfl) rfl rfl rfl
  replace h := tx_aload_n (p' := 122) h em219_121 rfl rfl
  replace h := tx_getf (c := 12) (j := 32) (p' := 125) h em219_122 ((congrFun xo_12 233).trans rfl) rfl rfl (by decide) rfl
  replace h := tx_aload_n (p' := 126) h em219_125 rfl rfl
  replace h := tx_iconst (v := 1) (p' := 127) h em219_126 (by decide +kernel) rfl
  replace h := tx_bipush (v := 99) (p' := 129) h em219_127 (by decide +kernel) rfl
  obtain ⟨r129, μ129, hE129, h⟩ := tx_invV (na := 3) (mn := 192) (as := [.inr (.inl (some 75)), .inl (1 : Int32), .inl (99 : Int32)]) (rest := [.inl (μ.1 75 32), .inr (.inl (some 91))]) (p' := 132) h em219_129 ((congrFun xo_12 271).trans rfl) xm_192 rfl rfl
  have hm129 := mE_w (μ := μ) (by decide +kernel) (hf_192_0 hE129 (hEn0 (by decide)) hO).2 hO
  obtain ⟨v, rfl, hq⟩ := qz_toldInt hE129 hI (fun _ => by omega)
  have hEt := hE129
  replace h : eT xq_219 _ 132 [some (.inr (.inl (some 75))), none] [.inl v, .inl (μ.1 75 32), .inr (.inl (some 91))] μ129 r μ' := h
  obtain ⟨hb132, h⟩ := tx_iast (len := 2) (p' := 133) h em219_132 rfl rfl
  replace hb132 : (0 : Int) ≤ (μ.1 75 32).toInt ∧ (μ.1 75 32).toInt < 2 := hb132
  replace h := tx_goto (t := 228) h em219_133 (by decide)
  obtain ⟨rfl, hμ⟩ := tx_return h em219_228
  rw [hμ]
  refine ⟨hm129.1, oE_n (by decide) hm129, fun hz _ S hW hS => ?_⟩
  have hz : rF μ129 = 0 := hz
  obtain ⟨v9, e9, hv⟩ := rk_toldInt hEt hI (fun _ => by omega) hz
  cases e9
  unfold kStep
  rw [if_neg (by omega), if_neg (by omega), if_pos (by omega)]
  exact sM_num (by decide) (sM_cg (fun k j a b => hm129.2 k j a b) hS) rfl rfl (hv.symm) (rfl) (rfl)
set_option maxRecDepth 10000 in
set_option maxHeartbeats 4000000 in
theorem rk1_thieves {m : Int} {ns : List Int} {lw : Int → kLw} {μ μ' : xM} {r : Option zV} (h0 : Ex gx xq_219 [.inr (.inl (some 75))] μ r μ') (hI : qzI m μ) (hf : rF μ = 0) (hR : rI ns μ) (hO : hOK μ) (hk : rK μ (rT μ) = 135) : hOK μ' ∧ oE (rSd μ).toNat μ μ' ∧ (rF μ' = 0 → (rW μ').1 = 0 → ∀ S, kWf S → sM (rSd μ).toNat S μ → sM (rSd μ).toNat (kStep (rK μ) (rLt μ) (rVl μ) lw (rT μ) S) μ') := by
  obtain ⟨n, h⟩ := tx_in (L := [some (.inr (.inl (some 75))), none]) h0 rfl
  have hx : (μ.1 78 (μ.1 75 25).toInt.toNat).toInt = 27 := by have h8 := kmp_h (x := (μ.1 78 (μ.1 75 25).toInt.toNat).toInt) (by show 128 ≤ rK μ (rT μ); omega); have h9 : kmp (μ.1 78 (μ.1 75 25).toInt.toNat).toInt = 135 := hk; omega
  replace h := tx_aload_n (p' := 1) h em219_0 rfl rfl
  replace h := tx_getc (c := 12) (j := 19) (p' := 4) h em219_1 ((congrFun xo_12 20).trans rfl) rfl rfl rfl
  replace h := tx_aload_n (p' := 5) h em219_4 rfl rfl
  replace h := tx_getf (c := 12) (j := 25) (p' := 8) h em219_5 ((congrFun xo_12 203).trans rfl) rfl rfl (by decide) rfl
  obtain ⟨hb8, h⟩ := tx_iald (len := 403) (p' := 9) h em219_8 rfl rfl
  replace hb8 : (0 : Int) ≤ (μ.1 75 25).toInt ∧ (μ.1 75 25).toInt < 403 := hb8
  obtain ⟨t9, ht9, h⟩ := tx_tsw h em219_9
  have e9 : t9 = 136 := by
    have := tsw_k ht9 (k := 7) (off := 127) rfl (by omega) (by omega)
    omega
  subst e9
  replace h : eT xq_219 _ 136 [some (.inr (.inl (some 75))), none] [] μ r μ' := h
  replace h := tx_aload_n (p' := 137) h em219_136 rfl rfl
  replace h := tx_getc (c := 12) (j := 9) (p' := 140) h em219_137 ((congrFun xo_12 67).trans rfl) rfl rfl rfl
  replace h := tx_aload_n (p' := 141) h em219_140 rfl rfl
  replace h := tx_getf (c := 12) (j := 32) (p' := 144) h em219_141 ((congrFun xo_12 233).trans rfl) rfl rfl (by decide) rfl
  replace h := tx_aload_n (p' := 145) h em219_144 rfl rfl
  replace h := tx_iconst (v := 0) (p' := 146) h em219_145 (by decide +kernel) rfl
  replace h := tx_bipush (v := 100) (p' := 148) h em219_146 (by decide +kernel) rfl
  obtain ⟨r148, μ148, hE148, h⟩ := tx_invV (na := 3) (mn := 192) (as := [.inr (.inl (some 75)), .inl (0 : Int32), .inl (100 : Int32)]) (rest := [.inl (μ.1 75 32), .inr (.inl (some 92))]) (p' := 151) h em219_148 ((congrFun xo_12 271).trans rfl) xm_192 rfl rfl
  have hm148 := mE_w (μ := μ) (by decide +kernel) (hf_192_0 hE148 (hEn0 (by decide)) hO).2 hO
  obtain ⟨v, rfl, hq⟩ := qz_toldInt hE148 hI (fun _ => by omega)
  have hEt := hE148
  replace h : eT xq_219 _ 151 [some (.inr (.inl (some 75))), none] [.inl v, .inl (μ.1 75 32), .inr (.inl (some 92))] μ148 r μ' := h
  obtain ⟨hb151, h⟩ := tx_iast (len := 2) (p' := 152) h em219_151 rfl rfl
  replace hb151 : (0 : Int) ≤ (μ.1 75 32).toInt ∧ (μ.1 75 32).toInt < 2 := hb151
  replace h := tx_goto (t := 228) h em219_152 (by decide)
  obtain ⟨rfl, hμ⟩ := tx_return h em219_228
  rw [hμ]
  refine ⟨hm148.1, oE_n (by decide) hm148, fun hz _ S hW hS => ?_⟩
  have hz : rF μ148 = 0 := hz
  obtain ⟨v9, e9, hv⟩ := rk_toldInt hEt hI (fun _ => by omega) hz
  cases e9
  unfold kStep
  rw [if_neg (by omega), if_neg (by omega), if_neg (by omega), if_pos (by omega)]
  exact sM_num (by decide) (sM_cg (fun k j a b => hm148.2 k j a b) hS) rfl rfl (rfl) (hv.symm) (rfl)
set_option maxRecDepth 10000 in
set_option maxHeartbeats 4000000 in
theorem rk1_seed {m : Int} {ns : List Int} {lw : Int → kLw} {μ μ' : xM} {r : Option zV} (h0 : Ex gx xq_219 [.inr (.inl (some 75))] μ r μ') (hI : qzI m μ) (hf : rF μ = 0) (hR : rI ns μ) (hO : hOK μ) (hk : rK μ (rT μ) = 136) : hOK μ' ∧ oE (rSd μ).toNat μ μ' ∧ (rF μ' = 0 → (rW μ').1 = 0 → ∀ S, kWf S → sM (rSd μ).toNat S μ → sM (rSd μ).toNat (kStep (rK μ) (rLt μ) (rVl μ) lw (rT μ) S) μ') := by
  obtain ⟨n, h⟩ := tx_in (L := [some (.inr (.inl (some 75))), none]) h0 rfl
  have hx : (μ.1 78 (μ.1 75 25).toInt.toNat).toInt = 28 := by have h8 := kmp_h (x := (μ.1 78 (μ.1 75 25).toInt.toNat).toInt) (by show 128 ≤ rK μ (rT μ); omega); have h9 : kmp (μ.1 78 (μ.1 75 25).toInt.toNat).toInt = 136 := hk; omega
  replace h := tx_aload_n (p' := 1) h em219_0 rfl rfl
  replace h := tx_getc (c := 12) (j := 19) (p' := 4) h em219_1 ((congrFun xo_12 20).trans rfl) rfl rfl rfl
  replace h := tx_aload_n (p' := 5) h em219_4 rfl rfl
  replace h := tx_getf (c := 12) (j := 25) (p' := 8) h em219_5 ((congrFun xo_12 203).trans rfl) rfl rfl (by decide) rfl
  obtain ⟨hb8, h⟩ := tx_iald (len := 403) (p' := 9) h em219_8 rfl rfl
  replace hb8 : (0 : Int) ≤ (μ.1 75 25).toInt ∧ (μ.1 75 25).toInt < 403 := hb8
  obtain ⟨t9, ht9, h⟩ := tx_tsw h em219_9
  have e9 : t9 = 155 := by
    have := tsw_k ht9 (k := 8) (off := 146) rfl (by omega) (by omega)
    omega
  subst e9
  replace h : eT xq_219 _ 155 [some (.inr (.inl (some 75))), none] [] μ r μ' := h
  replace h := tx_aload_n (p' := 156) h em219_155 rfl rfl
  replace h := tx_getc (c := 12) (j := 5) (p' := 159) h em219_156 ((congrFun xo_12 70).trans rfl) rfl rfl rfl
  replace h := tx_aload_n (p' := 160) h em219_159 rfl rfl
  replace h := tx_getf (c := 12) (j := 32) (p' := 163) h em219_160 ((congrFun xo_12 233).trans rfl) rfl rfl (by decide) rfl
  replace h := tx_aload_n (p' := 164) h em219_163 rfl rfl
  replace h := tx_iconst (v := 0) (p' := 165) h em219_164 (by decide +kernel) rfl
  replace h := tx_sipush (v := 9999) (p' := 168) h em219_165 (by decide +kernel) rfl
  obtain ⟨r168, μ168, hE168, h⟩ := tx_invV (na := 3) (mn := 192) (as := [.inr (.inl (some 75)), .inl (0 : Int32), .inl (9999 : Int32)]) (rest := [.inl (μ.1 75 32), .inr (.inl (some 93))]) (p' := 171) h em219_168 ((congrFun xo_12 271).trans rfl) xm_192 rfl rfl
  have hm168 := mE_w (μ := μ) (by decide +kernel) (hf_192_0 hE168 (hEn0 (by decide)) hO).2 hO
  obtain ⟨v, rfl, hq⟩ := qz_toldInt hE168 hI (fun _ => by omega)
  have hEt := hE168
  replace h : eT xq_219 _ 171 [some (.inr (.inl (some 75))), none] [.inl v, .inl (μ.1 75 32), .inr (.inl (some 93))] μ168 r μ' := h
  obtain ⟨hb171, h⟩ := tx_iast (len := 2) (p' := 172) h em219_171 rfl rfl
  replace hb171 : (0 : Int) ≤ (μ.1 75 32).toInt ∧ (μ.1 75 32).toInt < 2 := hb171
  replace h := tx_goto (t := 228) h em219_172 (by decide)
  obtain ⟨rfl, hμ⟩ := tx_return h em219_228
  rw [hμ]
  refine ⟨hm168.1, oE_n (by decide) hm168, fun hz _ S hW hS => ?_⟩
  have hz : rF μ168 = 0 := hz
  obtain ⟨v9, e9, hv⟩ := rk_toldInt hEt hI (fun _ => by omega) hz
  cases e9
  unfold kStep
  rw [if_neg (by omega), if_neg (by omega), if_neg (by omega), if_neg (by omega), if_pos (by omega)]
  exact sM_num (by decide) (sM_cg (fun k j a b => hm168.2 k j a b) hS) rfl rfl (rfl) (rfl) (hv.symm)
set_option maxRecDepth 10000 in
set_option maxHeartbeats 4000000 in
theorem rk1_else {m : Int} {ns : List Int} {lw : Int → kLw} {μ μ' : xM} {r : Option zV} (h0 : Ex gx xq_219 [.inr (.inl (some 75))] μ r μ') (hI : qzI m μ) (hf : rF μ = 0) (hR : rI ns μ) (hO : hOK μ) (hk : ¬ (rK μ (rT μ) = 128 ∨ rK μ (rT μ) = 129 ∨ (134 ≤ rK μ (rT μ) ∧ rK μ (rT μ) ≤ 136))) (hx : (μ.1 78 (μ.1 75 25).toInt.toNat).toInt < 20 ∨ 28 < (μ.1 78 (μ.1 75 25).toInt.toNat).toInt) (hx0 : 0 ≤ (μ.1 78 (μ.1 75 25).toInt.toNat).toInt) : hOK μ' ∧ oE (rSd μ).toNat μ μ' ∧ (rF μ' = 0 → (rW μ').1 = 0 → ∀ S, kWf S → sM (rSd μ).toNat S μ → sM (rSd μ).toNat (kStep (rK μ) (rLt μ) (rVl μ) lw (rT μ) S) μ') := by
  obtain ⟨n, h⟩ := tx_in (L := [some (.inr (.inl (some 75))), none]) h0 rfl
  replace h := tx_aload_n (p' := 1) h em219_0 rfl rfl
  replace h := tx_getc (c := 12) (j := 19) (p' := 4) h em219_1 ((congrFun xo_12 20).trans rfl) rfl rfl rfl
  replace h := tx_aload_n (p' := 5) h em219_4 rfl rfl
  replace h := tx_getf (c := 12) (j := 25) (p' := 8) h em219_5 ((congrFun xo_12 203).trans rfl) rfl rfl (by decide) rfl
  obtain ⟨hb8, h⟩ := tx_iald (len := 403) (p' := 9) h em219_8 rfl rfl
  replace hb8 : (0 : Int) ≤ (μ.1 75 25).toInt ∧ (μ.1 75 25).toInt < 403 := hb8
  obtain ⟨t9, ht9, h⟩ := tx_tsw h em219_9
  have e9 : t9 = 175 := by
    have := tsw_d ht9 (by decide) (by omega)
    omega
  subst e9
  replace h : eT xq_219 _ 175 [some (.inr (.inl (some 75))), none] [] μ r μ' := h
  replace h := tx_aload_n (p' := 176) h em219_175 rfl rfl
  replace h := tx_getc (c := 12) (j := 19) (p' := 179) h em219_176 ((congrFun xo_12 20).trans rfl) rfl rfl rfl
  replace h := tx_aload_n (p' := 180) h em219_179 rfl rfl
  replace h := tx_getf (c := 12) (j := 25) (p' := 183) h em219_180 ((congrFun xo_12 203).trans rfl) rfl rfl (by decide) rfl
  obtain ⟨hb183, h⟩ := tx_iald (len := 403) (p' := 184) h em219_183 rfl rfl
  replace hb183 : (0 : Int) ≤ (μ.1 75 25).toInt ∧ (μ.1 75 25).toInt < 403 := hb183
  replace h := tx_bipush (v := 22) (p' := 186) h em219_184 (by decide +kernel) rfl
  replace h := tx_isub (p' := 187) h em219_186 rfl
  replace h := tx_istore_n (p' := 188) h em219_187 rfl
  replace h : eT xq_219 _ 188 [some (.inr (.inl (some 75))), some (.inl ((μ.1 78 (μ.1 75 25).toInt.toNat) - (22 : Int32)))] [] μ r μ' := h
  replace h := tx_iload_n (p' := 189) h em219_188 rfl rfl
  rcases tx_if (t := 206) (p' := 192) h em219_189 (by decide) rfl with ⟨c189, h⟩ | ⟨c189, h⟩
  · replace c189 : ((μ.1 78 (μ.1 75 25).toInt.toNat) - (22 : Int32)).toInt < 0 := c189
    replace h := tx_aload_n (p' := 207) h em219_206 rfl rfl
    replace h := tx_iconst (v := 1) (p' := 208) h em219_207 (by decide +kernel) rfl
    obtain ⟨r208, μ208, hE208, h⟩ := tx_invV (na := 2) (mn := 133) (as := [.inr (.inl (some 75)), .inl (1 : Int32)]) (rest := []) (p' := 211) h em219_208 ((congrFun xo_12 215).trans rfl) xm_133 rfl rfl
    have hm208 := mE_w (μ := μ) (by decide +kernel) (hf_133_0 hE208 (hEn0 (by decide)) hO).2 hO
    obtain ⟨rfl, hs⟩ := qz_fl (f0 := 1) hE208 hI (by decide) (by decide)
    replace h : eT xq_219 _ 211 [some (.inr (.inl (some 75))), some (.inl ((μ.1 78 (μ.1 75 25).toInt.toNat) - (22 : Int32)))] [] μ208 r μ' := h
    replace h := tx_aload_n (p' := 212) h em219_211 rfl rfl
    replace h := tx_getf (c := 12) (j := 27) (p' := 215) h em219_212 ((congrFun xo_12 200).trans rfl) rfl rfl (by decide) rfl
    rcases tx_if (t := 219) (p' := 218) h em219_215 (by decide) rfl with ⟨c215, h⟩ | ⟨c215, h⟩
    · replace c215 : (μ208.1 75 27).toInt ≤ 0 := c215
      exfalso
      rcases (hs.2.2.1 hf).1 with ⟨k1, -⟩ | ⟨-, k2, -⟩
      · exact absurd (show (1 : Int) = 0 from k1) (by decide)
      · have k2 : rF μ208 = 1 := k2
        unfold rF at k2
        omega
    · replace c215 : ¬ (μ208.1 75 27).toInt ≤ 0 := c215
      obtain ⟨rfl, hμ⟩ := tx_return h em219_218
      rw [hμ]
      exact ⟨hm208.1, oE_m hm208, fun hz => absurd hz (by unfold rF; omega)⟩
  · replace c189 : ¬ ((μ.1 78 (μ.1 75 25).toInt.toNat) - (22 : Int32)).toInt < 0 := c189
    replace h := tx_aload_n (p' := 193) h em219_192 rfl rfl
    replace h := tx_getc (c := 12) (j := 19) (p' := 196) h em219_193 ((congrFun xo_12 20).trans rfl) rfl rfl rfl
    replace h := tx_aload_n (p' := 197) h em219_196 rfl rfl
    replace h := tx_getf (c := 12) (j := 25) (p' := 200) h em219_197 ((congrFun xo_12 203).trans rfl) rfl rfl (by decide) rfl
    obtain ⟨hb200, h⟩ := tx_iald (len := 403) (p' := 201) h em219_200 rfl rfl
    replace hb200 : (0 : Int) ≤ (μ.1 75 25).toInt ∧ (μ.1 75 25).toInt < 403 := hb200
    replace h := tx_bipush (v := 25) (p' := 203) h em219_201 (by decide +kernel) rfl
    rcases tx_icmp (t := 211) (p' := 206) h em219_203 (by decide) rfl with ⟨c203, h⟩ | ⟨c203, h⟩
    · replace c203 : (μ.1 78 (μ.1 75 25).toInt.toNat).toInt ≤ 25 := c203
      replace h := tx_aload_n (p' := 212) h em219_211 rfl rfl
      replace h := tx_getf (c := 12) (j := 27) (p' := 215) h em219_212 ((congrFun xo_12 200).trans rfl) rfl rfl (by decide) rfl
      rcases tx_if (t := 219) (p' := 218) h em219_215 (by decide) rfl with ⟨c215_1, h⟩ | ⟨c215_1, h⟩
      · replace c215_1 : (μ.1 75 27).toInt ≤ 0 := c215_1
        exfalso
        have e22 : (22 : Int32).toInt = 22 := by decide
        have h7 := an_sub (x := μ.1 78 (μ.1 75 25).toInt.toNat) (y := 22) (by omega) (by omega)
        omega
      · replace c215_1 : ¬ (μ.1 75 27).toInt ≤ 0 := c215_1
        obtain ⟨rfl, hμ⟩ := tx_return h em219_218
        exfalso
        unfold rF at hf
        omega
    · replace c203 : ¬ (μ.1 78 (μ.1 75 25).toInt.toNat).toInt ≤ 25 := c203
      replace h := tx_aload_n (p' := 207) h em219_206 rfl rfl
      replace h := tx_iconst (v := 1) (p' := 208) h em219_207 (by decide +kernel) rfl
      obtain ⟨r208_1, μ208_1, hE208_1, h⟩ := tx_invV (na := 2) (mn := 133) (as := [.inr (.inl (some 75)), .inl (1 : Int32)]) (rest := []) (p' := 211) h em219_208 ((congrFun xo_12 215).trans rfl) xm_133 rfl rfl
      have hm208_1 := mE_w (μ := μ) (by decide +kernel) (hf_133_0 hE208_1 (hEn0 (by decide)) hO).2 hO
      obtain ⟨rfl, hs⟩ := qz_fl (f0 := 1) hE208_1 hI (by decide) (by decide)
      replace h : eT xq_219 _ 211 [some (.inr (.inl (some 75))), some (.inl ((μ.1 78 (μ.1 75 25).toInt.toNat) - (22 : Int32)))] [] μ208_1 r μ' := h
      replace h := tx_aload_n (p' := 212) h em219_211 rfl rfl
      replace h := tx_getf (c := 12) (j := 27) (p' := 215) h em219_212 ((congrFun xo_12 200).trans rfl) rfl rfl (by decide) rfl
      rcases tx_if (t := 219) (p' := 218) h em219_215 (by decide) rfl with ⟨c215_2, h⟩ | ⟨c215_2, h⟩
      · replace c215_2 : (μ208_1.1 75 27).toInt ≤ 0 := c215_2
        exfalso
        rcases (hs.2.2.1 hf).1 with ⟨k1, -⟩ | ⟨-, k2, -⟩
        · exact absurd (show (1 : Int) = 0 from k1) (by decide)
        · have k2 : rF μ208_1 = 1 := k2
          unfold rF at k2
          omega
      · replace c215_2 : ¬ (μ208_1.1 75 27).toInt ≤ 0 := c215_2
        obtain ⟨rfl, hμ⟩ := tx_return h em219_218
        rw [hμ]
        exact ⟨hm208_1.1, oE_m hm208_1, fun hz => absurd hz (by unfold rF; omega)⟩
set_option maxRecDepth 10000 in
set_option maxHeartbeats 4000000 in
theorem rk1_law2 {m : Int} {ns : List Int} {lw : Int → kLw} {μ μ' : xM} {r : Option zV} (h0 : Ex gx xq_219 [.inr (.inl (some 75))] μ r μ') (hI : qzI m μ) (hf : rF μ = 0) (hR : rI ns μ) (hO : hOK μ) (hx : (μ.1 78 (μ.1 75 25).toInt.toNat).toInt = 22) : hOK μ' ∧ oE (rSd μ).toNat μ μ' ∧ (rF μ' = 0 → (rW μ').1 = 0 → ∀ S, kWf S → sM (rSd μ).toNat S μ → sM (rSd μ).toNat (kStep (rK μ) (rLt μ) (rVl μ) lw (rT μ) S) μ') := by
  obtain ⟨n, h⟩ := tx_in (L := [some (.inr (.inl (some 75))), none]) h0 rfl
  have hC : ∀ n k, eT xq_219 n 219 [some (.inr (.inl (some 75))), some (.inl k)] [] μ r μ' → (130 ≤ rK μ (rT μ) ∧ rK μ (rT μ) ≤ 133) → hOK μ' ∧ oE (rSd μ).toNat μ μ' ∧ (rF μ' = 0 → (rW μ').1 = 0 → ∀ S, kWf S → sM (rSd μ).toNat S μ → sM (rSd μ).toNat (kStep (rK μ) (rLt μ) (rVl μ) lw (rT μ) S) μ') := by
    intro n k h hk
    replace h := tx_aload_n (p' := 220) h em219_219 rfl rfl
    obtain ⟨r220, μ220, hE220, h⟩ := tx_invV (na := 1) (mn := 144) (as := [.inr (.inl (some 75))]) (rest := []) (p' := 223) h em219_220 ((congrFun xo_12 221).trans rfl) xm_144 rfl rfl
    have hm220 := mE_w (μ := μ) (by decide +kernel) (hf_144_0 hE220 (hEn0 (by decide)) hO).2 hO
    have er220 := ex_void [0, 1, 4, 7, 10, 11, 12, 15, 18, 19, 20, 23, 24, 25, 28, 29] (by decide +kernel) hE220
    subst er220
    replace h : eT xq_219 _ 223 [some (.inr (.inl (some 75))), some (.inl k)] [] μ220 r μ' := h
    replace h := tx_aload_n (p' := 224) h em219_223 rfl rfl
    replace h := tx_iload_n (p' := 225) h em219_224 rfl rfl
    obtain ⟨r225, μ225, hE225, h⟩ := tx_invV (na := 2) (mn := 226) (as := [.inr (.inl (some 75)), .inl k]) (rest := []) (p' := 228) h em219_225 ((congrFun xo_12 274).trans rfl) xm_226 rfl rfl
    have hm225 := mE_w (μ := μ220) (by decide +kernel) (hf_226_0 hE225 (hEn0 (by decide)) hm220.1).2 hm220.1
    have er225 := ex_void [0, 1, 2, 5, 6, 9, 10, 11, 12, 13, 16, 19, 20, 22, 25, 28, 29, 30, 33, 34, 35, 38, 39, 42, 45, 46, 49, 50, 53, 54, 57, 58, 61, 62, 63, 64, 67, 68, 71, 72, 75, 76, 77, 80, 81, 83, 86, 87, 90, 91, 94, 95, 98, 99, 100, 103, 106, 107, 110, 111, 113, 116, 117, 120, 121, 123, 126, 129, 130, 133, 134, 137, 138, 139, 140, 143, 144, 145, 148, 149, 152, 155, 156, 157, 160, 161, 162, 165, 166, 167, 168, 169, 170, 171, 174, 175, 176, 179, 180, 181, 182, 183, 186, 187, 188] (by decide +kernel) hE225
    subst er225
    replace h : eT xq_219 _ 228 [some (.inr (.inl (some 75))), some (.inl k)] [] μ225 r μ' := h
    obtain ⟨rfl, hμ⟩ := tx_return h em219_228
    rw [hμ]
    have hmm := mE_tr hm220 hm225
    refine ⟨hmm.1, oE_m hmm, fun _ _ S _ hS => ?_⟩
    unfold kStep
    rw [if_neg (by omega), if_neg (by omega), if_neg (by omega), if_neg (by omega), if_neg (by omega)]
    exact sM_cg (fun k j a b => hmm.2 k j a b) hS
  have hkE : 130 ≤ rK μ (rT μ) ∧ rK μ (rT μ) ≤ 133 := by
    have h8 := kmp_l (x := (μ.1 78 (μ.1 75 25).toInt.toNat).toInt) (by omega)
    have h9 : rK μ (rT μ) = kmp (μ.1 78 (μ.1 75 25).toInt.toNat).toInt := rfl
    omega
  replace h := tx_aload_n (p' := 1) h em219_0 rfl rfl
  replace h := tx_getc (c := 12) (j := 19) (p' := 4) h em219_1 ((congrFun xo_12 20).trans rfl) rfl rfl rfl
  replace h := tx_aload_n (p' := 5) h em219_4 rfl rfl
  replace h := tx_getf (c := 12) (j := 25) (p' := 8) h em219_5 ((congrFun xo_12 203).trans rfl) rfl rfl (by decide) rfl
  obtain ⟨hb8, h⟩ := tx_iald (len := 403) (p' := 9) h em219_8 rfl rfl
  replace hb8 : (0 : Int) ≤ (μ.1 75 25).toInt ∧ (μ.1 75 25).toInt < 403 := hb8
  obtain ⟨t9, ht9, h⟩ := tx_tsw h em219_9
  have e9 : t9 = 175 := by
    have := tsw_k ht9 (k := 2) (off := 166) rfl (by omega) (by omega)
    omega
  subst e9
  replace h : eT xq_219 _ 175 [some (.inr (.inl (some 75))), none] [] μ r μ' := h
  replace h := tx_aload_n (p' := 176) h em219_175 rfl rfl
  replace h := tx_getc (c := 12) (j := 19) (p' := 179) h em219_176 ((congrFun xo_12 20).trans rfl) rfl rfl rfl
  replace h := tx_aload_n (p' := 180) h em219_179 rfl rfl
  replace h := tx_getf (c := 12) (j := 25) (p' := 183) h em219_180 ((congrFun xo_12 203).trans rfl) rfl rfl (by decide) rfl
  obtain ⟨hb183, h⟩ := tx_iald (len := 403) (p' := 184) h em219_183 rfl rfl
  replace hb183 : (0 : Int) ≤ (μ.1 75 25).toInt ∧ (μ.1 75 25).toInt < 403 := hb183
  replace h := tx_bipush (v := 22) (p' := 186) h em219_184 (by decide +kernel) rfl
  replace h := tx_isub (p' := 187) h em219_186 rfl
  replace h := tx_istore_n (p' := 188) h em219_187 rfl
  replace h : eT xq_219 _ 188 [some (.inr (.inl (some 75))), some (.inl ((μ.1 78 (μ.1 75 25).toInt.toNat) - (22 : Int32)))] [] μ r μ' := h
  replace h := tx_iload_n (p' := 189) h em219_188 rfl rfl
  rcases tx_if (t := 206) (p' := 192) h em219_189 (by decide) rfl with ⟨c189, h⟩ | ⟨c189, h⟩
  · replace c189 : ((μ.1 78 (μ.1 75 25).toInt.toNat) - (22 : Int32)).toInt < 0 := c189
    exfalso
    have e22 : (22 : Int32).toInt = 22 := by decide
    have h7 := an_sub (x := μ.1 78 (μ.1 75 25).toInt.toNat) (y := 22) (by omega) (by omega)
    omega
  · replace c189 : ¬ ((μ.1 78 (μ.1 75 25).toInt.toNat) - (22 : Int32)).toInt < 0 := c189
    replace h := tx_aload_n (p' := 193) h em219_192 rfl rfl
    replace h := tx_getc (c := 12) (j := 19) (p' := 196) h em219_193 ((congrFun xo_12 20).trans rfl) rfl rfl rfl
    replace h := tx_aload_n (p' := 197) h em219_196 rfl rfl
    replace h := tx_getf (c := 12) (j := 25) (p' := 200) h em219_197 ((congrFun xo_12 203).trans rfl) rfl rfl (by decide) rfl
    obtain ⟨hb200, h⟩ := tx_iald (len := 403) (p' := 201) h em219_200 rfl rfl
    replace hb200 : (0 : Int) ≤ (μ.1 75 25).toInt ∧ (μ.1 75 25).toInt < 403 := hb200
    replace h := tx_bipush (v := 25) (p' := 203) h em219_201 (by decide +kernel) rfl
    rcases tx_icmp (t := 211) (p' := 206) h em219_203 (by decide) rfl with ⟨c203, h⟩ | ⟨c203, h⟩
    · replace c203 : (μ.1 78 (μ.1 75 25).toInt.toNat).toInt ≤ 25 := c203
      replace h := tx_aload_n (p' := 212) h em219_211 rfl rfl
      replace h := tx_getf (c := 12) (j := 27) (p' := 215) h em219_212 ((congrFun xo_12 200).trans rfl) rfl rfl (by decide) rfl
      rcases tx_if (t := 219) (p' := 218) h em219_215 (by decide) rfl with ⟨c215, h⟩ | ⟨c215, h⟩
      · replace c215 : (μ.1 75 27).toInt ≤ 0 := c215
        exact hC _ _ h hkE
      · replace c215 : ¬ (μ.1 75 27).toInt ≤ 0 := c215
        obtain ⟨rfl, hμ⟩ := tx_return h em219_218
        exfalso
        unfold rF at hf
        omega
    · replace c203 : ¬ (μ.1 78 (μ.1 75 25).toInt.toNat).toInt ≤ 25 := c203
      exfalso
      have e22 : (22 : Int32).toInt = 22 := by decide
      have h7 := an_sub (x := μ.1 78 (μ.1 75 25).toInt.toNat) (y := 22) (by omega) (by omega)
      omega
set_option maxRecDepth 10000 in
set_option maxHeartbeats 4000000 in
theorem rk1_law3 {m : Int} {ns : List Int} {lw : Int → kLw} {μ μ' : xM} {r : Option zV} (h0 : Ex gx xq_219 [.inr (.inl (some 75))] μ r μ') (hI : qzI m μ) (hf : rF μ = 0) (hR : rI ns μ) (hO : hOK μ) (hx : (μ.1 78 (μ.1 75 25).toInt.toNat).toInt = 23) : hOK μ' ∧ oE (rSd μ).toNat μ μ' ∧ (rF μ' = 0 → (rW μ').1 = 0 → ∀ S, kWf S → sM (rSd μ).toNat S μ → sM (rSd μ).toNat (kStep (rK μ) (rLt μ) (rVl μ) lw (rT μ) S) μ') := by
  obtain ⟨n, h⟩ := tx_in (L := [some (.inr (.inl (some 75))), none]) h0 rfl
  have hC : ∀ n k, eT xq_219 n 219 [some (.inr (.inl (some 75))), some (.inl k)] [] μ r μ' → (130 ≤ rK μ (rT μ) ∧ rK μ (rT μ) ≤ 133) → hOK μ' ∧ oE (rSd μ).toNat μ μ' ∧ (rF μ' = 0 → (rW μ').1 = 0 → ∀ S, kWf S → sM (rSd μ).toNat S μ → sM (rSd μ).toNat (kStep (rK μ) (rLt μ) (rVl μ) lw (rT μ) S) μ') := by
    intro n k h hk
    replace h := tx_aload_n (p' := 220) h em219_219 rfl rfl
    obtain ⟨r220, μ220, hE220, h⟩ := tx_invV (na := 1) (mn := 144) (as := [.inr (.inl (some 75))]) (rest := []) (p' := 223) h em219_220 ((congrFun xo_12 221).trans rfl) xm_144 rfl rfl
    have hm220 := mE_w (μ := μ) (by decide +kernel) (hf_144_0 hE220 (hEn0 (by decide)) hO).2 hO
    have er220 := ex_void [0, 1, 4, 7, 10, 11, 12, 15, 18, 19, 20, 23, 24, 25, 28, 29] (by decide +kernel) hE220
    subst er220
    replace h : eT xq_219 _ 223 [some (.inr (.inl (some 75))), some (.inl k)] [] μ220 r μ' := h
    replace h := tx_aload_n (p' := 224) h em219_223 rfl rfl
    replace h := tx_iload_n (p' := 225) h em219_224 rfl rfl
    obtain ⟨r225, μ225, hE225, h⟩ := tx_invV (na := 2) (mn := 226) (as := [.inr (.inl (some 75)), .inl k]) (rest := []) (p' := 228) h em219_225 ((congrFun xo_12 274).trans rfl) xm_226 rfl rfl
    have hm225 := mE_w (μ := μ220) (by decide +kernel) (hf_226_0 hE225 (hEn0 (by decide)) hm220.1).2 hm220.1
    have er225 := ex_void [0, 1, 2, 5, 6, 9, 10, 11, 12, 13, 16, 19, 20, 22, 25, 28, 29, 30, 33, 34, 35, 38, 39, 42, 45, 46, 49, 50, 53, 54, 57, 58, 61, 62, 63, 64, 67, 68, 71, 72, 75, 76, 77, 80, 81, 83, 86, 87, 90, 91, 94, 95, 98, 99, 100, 103, 106, 107, 110, 111, 113, 116, 117, 120, 121, 123, 126, 129, 130, 133, 134, 137, 138, 139, 140, 143, 144, 145, 148, 149, 152, 155, 156, 157, 160, 161, 162, 165, 166, 167, 168, 169, 170, 171, 174, 175, 176, 179, 180, 181, 182, 183, 186, 187, 188] (by decide +kernel) hE225
    subst er225
    replace h : eT xq_219 _ 228 [some (.inr (.inl (some 75))), some (.inl k)] [] μ225 r μ' := h
    obtain ⟨rfl, hμ⟩ := tx_return h em219_228
    rw [hμ]
    have hmm := mE_tr hm220 hm225
    refine ⟨hmm.1, oE_m hmm, fun _ _ S _ hS => ?_⟩
    unfold kStep
    rw [if_neg (by omega), if_neg (by omega), if_neg (by omega), if_neg (by omega), if_neg (by omega)]
    exact sM_cg (fun k j a b => hmm.2 k j a b) hS
  have hkE : 130 ≤ rK μ (rT μ) ∧ rK μ (rT μ) ≤ 133 := by
    have h8 := kmp_l (x := (μ.1 78 (μ.1 75 25).toInt.toNat).toInt) (by omega)
    have h9 : rK μ (rT μ) = kmp (μ.1 78 (μ.1 75 25).toInt.toNat).toInt := rfl
    omega
  replace h := tx_aload_n (p' := 1) h em219_0 rfl rfl
  replace h := tx_getc (c := 12) (j := 19) (p' := 4) h em219_1 ((congrFun xo_12 20).trans rfl) rfl rfl rfl
  replace h := tx_aload_n (p' := 5) h em219_4 rfl rfl
  replace h := tx_getf (c := 12) (j := 25) (p' := 8) h em219_5 ((congrFun xo_12 203).trans rfl) rfl rfl (by decide) rfl
  obtain ⟨hb8, h⟩ := tx_iald (len := 403) (p' := 9) h em219_8 rfl rfl
  replace hb8 : (0 : Int) ≤ (μ.1 75 25).toInt ∧ (μ.1 75 25).toInt < 403 := hb8
  obtain ⟨t9, ht9, h⟩ := tx_tsw h em219_9
  have e9 : t9 = 175 := by
    have := tsw_k ht9 (k := 3) (off := 166) rfl (by omega) (by omega)
    omega
  subst e9
  replace h : eT xq_219 _ 175 [some (.inr (.inl (some 75))), none] [] μ r μ' := h
  replace h := tx_aload_n (p' := 176) h em219_175 rfl rfl
  replace h := tx_getc (c := 12) (j := 19) (p' := 179) h em219_176 ((congrFun xo_12 20).trans rfl) rfl rfl rfl
  replace h := tx_aload_n (p' := 180) h em219_179 rfl rfl
  replace h := tx_getf (c := 12) (j := 25) (p' := 183) h em219_180 ((congrFun xo_12 203).trans rfl) rfl rfl (by decide) rfl
  obtain ⟨hb183, h⟩ := tx_iald (len := 403) (p' := 184) h em219_183 rfl rfl
  replace hb183 : (0 : Int) ≤ (μ.1 75 25).toInt ∧ (μ.1 75 25).toInt < 403 := hb183
  replace h := tx_bipush (v := 22) (p' := 186) h em219_184 (by decide +kernel) rfl
  replace h := tx_isub (p' := 187) h em219_186 rfl
  replace h := tx_istore_n (p' := 188) h em219_187 rfl
  replace h : eT xq_219 _ 188 [some (.inr (.inl (some 75))), some (.inl ((μ.1 78 (μ.1 75 25).toInt.toNat) - (22 : Int32)))] [] μ r μ' := h
  replace h := tx_iload_n (p' := 189) h em219_188 rfl rfl
  rcases tx_if (t := 206) (p' := 192) h em219_189 (by decide) rfl with ⟨c189, h⟩ | ⟨c189, h⟩
  · replace c189 : ((μ.1 78 (μ.1 75 25).toInt.toNat) - (22 : Int32)).toInt < 0 := c189
    exfalso
    have e22 : (22 : Int32).toInt = 22 := by decide
    have h7 := an_sub (x := μ.1 78 (μ.1 75 25).toInt.toNat) (y := 22) (by omega) (by omega)
    omega
  · replace c189 : ¬ ((μ.1 78 (μ.1 75 25).toInt.toNat) - (22 : Int32)).toInt < 0 := c189
    replace h := tx_aload_n (p' := 193) h em219_192 rfl rfl
    replace h := tx_getc (c := 12) (j := 19) (p' := 196) h em219_193 ((congrFun xo_12 20).trans rfl) rfl rfl rfl
    replace h := tx_aload_n (p' := 197) h em219_196 rfl rfl
    replace h := tx_getf (c := 12) (j := 25) (p' := 200) h em219_197 ((congrFun xo_12 203).trans rfl) rfl rfl (by decide) rfl
    obtain ⟨hb200, h⟩ := tx_iald (len := 403) (p' := 201) h em219_200 rfl rfl
    replace hb200 : (0 : Int) ≤ (μ.1 75 25).toInt ∧ (μ.1 75 25).toInt < 403 := hb200
    replace h := tx_bipush (v := 25) (p' := 203) h em219_201 (by decide +kernel) rfl
    rcases tx_icmp (t := 211) (p' := 206) h em219_203 (by decide) rfl with ⟨c203, h⟩ | ⟨c203, h⟩
    · replace c203 : (μ.1 78 (μ.1 75 25).toInt.toNat).toInt ≤ 25 := c203
      replace h := tx_aload_n (p' := 212) h em219_211 rfl rfl
      replace h := tx_getf (c := 12) (j := 27) (p' := 215) h em219_212 ((congrFun xo_12 200).trans rfl) rfl rfl (by decide) rfl
      rcases tx_if (t := 219) (p' := 218) h em219_215 (by decide) rfl with ⟨c215, h⟩ | ⟨c215, h⟩
      · replace c215 : (μ.1 75 27).toInt ≤ 0 := c215
        exact hC _ _ h hkE
      · replace c215 : ¬ (μ.1 75 27).toInt ≤ 0 := c215
        obtain ⟨rfl, hμ⟩ := tx_return h em219_218
        exfalso
        unfold rF at hf
        omega
    · replace c203 : ¬ (μ.1 78 (μ.1 75 25).toInt.toNat).toInt ≤ 25 := c203
      exfalso
      have e22 : (22 : Int32).toInt = 22 := by decide
      have h7 := an_sub (x := μ.1 78 (μ.1 75 25).toInt.toNat) (y := 22) (by omega) (by omega)
      omega
set_option maxRecDepth 10000 in
set_option maxHeartbeats 4000000 in
theorem rk1_law4 {m : Int} {ns : List Int} {lw : Int → kLw} {μ μ' : xM} {r : Option zV} (h0 : Ex gx xq_219 [.inr (.inl (some 75))] μ r μ') (hI : qzI m μ) (hf : rF μ = 0) (hR : rI ns μ) (hO : hOK μ) (hx : (μ.1 78 (μ.1 75 25).toInt.toNat).toInt = 24) : hOK μ' ∧ oE (rSd μ).toNat μ μ' ∧ (rF μ' = 0 → (rW μ').1 = 0 → ∀ S, kWf S → sM (rSd μ).toNat S μ → sM (rSd μ).toNat (kStep (rK μ) (rLt μ) (rVl μ) lw (rT μ) S) μ') := by
  obtain ⟨n, h⟩ := tx_in (L := [some (.inr (.inl (some 75))), none]) h0 rfl
  have hC : ∀ n k, eT xq_219 n 219 [some (.inr (.inl (some 75))), some (.inl k)] [] μ r μ' → (130 ≤ rK μ (rT μ) ∧ rK μ (rT μ) ≤ 133) → hOK μ' ∧ oE (rSd μ).toNat μ μ' ∧ (rF μ' = 0 → (rW μ').1 = 0 → ∀ S, kWf S → sM (rSd μ).toNat S μ → sM (rSd μ).toNat (kStep (rK μ) (rLt μ) (rVl μ) lw (rT μ) S) μ') := by
    intro n k h hk
    replace h := tx_aload_n (p' := 220) h em219_219 rfl rfl
    obtain ⟨r220, μ220, hE220, h⟩ := tx_invV (na := 1) (mn := 144) (as := [.inr (.inl (some 75))]) (rest := []) (p' := 223) h em219_220 ((congrFun xo_12 221).trans rfl) xm_144 rfl rfl
    have hm220 := mE_w (μ := μ) (by decide +kernel) (hf_144_0 hE220 (hEn0 (by decide)) hO).2 hO
    have er220 := ex_void [0, 1, 4, 7, 10, 11, 12, 15, 18, 19, 20, 23, 24, 25, 28, 29] (by decide +kernel) hE220
    subst er220
    replace h : eT xq_219 _ 223 [some (.inr (.inl (some 75))), some (.inl k)] [] μ220 r μ' := h
    replace h := tx_aload_n (p' := 224) h em219_223 rfl rfl
    replace h := tx_iload_n (p' := 225) h em219_224 rfl rfl
    obtain ⟨r225, μ225, hE225, h⟩ := tx_invV (na := 2) (mn := 226) (as := [.inr (.inl (some 75)), .inl k]) (rest := []) (p' := 228) h em219_225 ((congrFun xo_12 274).trans rfl) xm_226 rfl rfl
    have hm225 := mE_w (μ := μ220) (by decide +kernel) (hf_226_0 hE225 (hEn0 (by decide)) hm220.1).2 hm220.1
    have er225 := ex_void [0, 1, 2, 5, 6, 9, 10, 11, 12, 13, 16, 19, 20, 22, 25, 28, 29, 30, 33, 34, 35, 38, 39, 42, 45, 46, 49, 50, 53, 54, 57, 58, 61, 62, 63, 64, 67, 68, 71, 72, 75, 76, 77, 80, 81, 83, 86, 87, 90, 91, 94, 95, 98, 99, 100, 103, 106, 107, 110, 111, 113, 116, 117, 120, 121, 123, 126, 129, 130, 133, 134, 137, 138, 139, 140, 143, 144, 145, 148, 149, 152, 155, 156, 157, 160, 161, 162, 165, 166, 167, 168, 169, 170, 171, 174, 175, 176, 179, 180, 181, 182, 183, 186, 187, 188] (by decide +kernel) hE225
    subst er225
    replace h : eT xq_219 _ 228 [some (.inr (.inl (some 75))), some (.inl k)] [] μ225 r μ' := h
    obtain ⟨rfl, hμ⟩ := tx_return h em219_228
    rw [hμ]
    have hmm := mE_tr hm220 hm225
    refine ⟨hmm.1, oE_m hmm, fun _ _ S _ hS => ?_⟩
    unfold kStep
    rw [if_neg (by omega), if_neg (by omega), if_neg (by omega), if_neg (by omega), if_neg (by omega)]
    exact sM_cg (fun k j a b => hmm.2 k j a b) hS
  have hkE : 130 ≤ rK μ (rT μ) ∧ rK μ (rT μ) ≤ 133 := by
    have h8 := kmp_l (x := (μ.1 78 (μ.1 75 25).toInt.toNat).toInt) (by omega)
    have h9 : rK μ (rT μ) = kmp (μ.1 78 (μ.1 75 25).toInt.toNat).toInt := rfl
    omega
  replace h := tx_aload_n (p' := 1) h em219_0 rfl rfl
  replace h := tx_getc (c := 12) (j := 19) (p' := 4) h em219_1 ((congrFun xo_12 20).trans rfl) rfl rfl rfl
  replace h := tx_aload_n (p' := 5) h em219_4 rfl rfl
  replace h := tx_getf (c := 12) (j := 25) (p' := 8) h em219_5 ((congrFun xo_12 203).trans rfl) rfl rfl (by decide) rfl
  obtain ⟨hb8, h⟩ := tx_iald (len := 403) (p' := 9) h em219_8 rfl rfl
  replace hb8 : (0 : Int) ≤ (μ.1 75 25).toInt ∧ (μ.1 75 25).toInt < 403 := hb8
  obtain ⟨t9, ht9, h⟩ := tx_tsw h em219_9
  have e9 : t9 = 175 := by
    have := tsw_k ht9 (k := 4) (off := 166) rfl (by omega) (by omega)
    omega
  subst e9
  replace h : eT xq_219 _ 175 [some (.inr (.inl (some 75))), none] [] μ r μ' := h
  replace h := tx_aload_n (p' := 176) h em219_175 rfl rfl
  replace h := tx_getc (c := 12) (j := 19) (p' := 179) h em219_176 ((congrFun xo_12 20).trans rfl) rfl rfl rfl
  replace h := tx_aload_n (p' := 180) h em219_179 rfl rfl
  replace h := tx_getf (c := 12) (j := 25) (p' := 183) h em219_180 ((congrFun xo_12 203).trans rfl) rfl rfl (by decide) rfl
  obtain ⟨hb183, h⟩ := tx_iald (len := 403) (p' := 184) h em219_183 rfl rfl
  replace hb183 : (0 : Int) ≤ (μ.1 75 25).toInt ∧ (μ.1 75 25).toInt < 403 := hb183
  replace h := tx_bipush (v := 22) (p' := 186) h em219_184 (by decide +kernel) rfl
  replace h := tx_isub (p' := 187) h em219_186 rfl
  replace h := tx_istore_n (p' := 188) h em219_187 rfl
  replace h : eT xq_219 _ 188 [some (.inr (.inl (some 75))), some (.inl ((μ.1 78 (μ.1 75 25).toInt.toNat) - (22 : Int32)))] [] μ r μ' := h
  replace h := tx_iload_n (p' := 189) h em219_188 rfl rfl
  rcases tx_if (t := 206) (p' := 192) h em219_189 (by decide) rfl with ⟨c189, h⟩ | ⟨c189, h⟩
  · replace c189 : ((μ.1 78 (μ.1 75 25).toInt.toNat) - (22 : Int32)).toInt < 0 := c189
    exfalso
    have e22 : (22 : Int32).toInt = 22 := by decide
    have h7 := an_sub (x := μ.1 78 (μ.1 75 25).toInt.toNat) (y := 22) (by omega) (by omega)
    omega
  · replace c189 : ¬ ((μ.1 78 (μ.1 75 25).toInt.toNat) - (22 : Int32)).toInt < 0 := c189
    replace h := tx_aload_n (p' := 193) h em219_192 rfl rfl
    replace h := tx_getc (c := 12) (j := 19) (p' := 196) h em219_193 ((congrFun xo_12 20).trans rfl) rfl rfl rfl
    replace h := tx_aload_n (p' := 197) h em219_196 rfl rfl
    replace h := tx_getf (c := 12) (j := 25) (p' := 200) h em219_197 ((congrFun xo_12 203).trans rfl) rfl rfl (by decide) rfl
    obtain ⟨hb200, h⟩ := tx_iald (len := 403) (p' := 201) h em219_200 rfl rfl
    replace hb200 : (0 : Int) ≤ (μ.1 75 25).toInt ∧ (μ.1 75 25).toInt < 403 := hb200
    replace h := tx_bipush (v := 25) (p' := 203) h em219_201 (by decide +kernel) rfl
    rcases tx_icmp (t := 211) (p' := 206) h em219_203 (by decide) rfl with ⟨c203, h⟩ | ⟨c203, h⟩
    · replace c203 : (μ.1 78 (μ.1 75 25).toInt.toNat).toInt ≤ 25 := c203
      replace h := tx_aload_n (p' := 212) h em219_211 rfl rfl
      replace h := tx_getf (c := 12) (j := 27) (p' := 215) h em219_212 ((congrFun xo_12 200).trans rfl) rfl rfl (by decide) rfl
      rcases tx_if (t := 219) (p' := 218) h em219_215 (by decide) rfl with ⟨c215, h⟩ | ⟨c215, h⟩
      · replace c215 : (μ.1 75 27).toInt ≤ 0 := c215
        exact hC _ _ h hkE
      · replace c215 : ¬ (μ.1 75 27).toInt ≤ 0 := c215
        obtain ⟨rfl, hμ⟩ := tx_return h em219_218
        exfalso
        unfold rF at hf
        omega
    · replace c203 : ¬ (μ.1 78 (μ.1 75 25).toInt.toNat).toInt ≤ 25 := c203
      exfalso
      have e22 : (22 : Int32).toInt = 22 := by decide
      have h7 := an_sub (x := μ.1 78 (μ.1 75 25).toInt.toNat) (y := 22) (by omega) (by omega)
      omega
set_option maxRecDepth 10000 in
set_option maxHeartbeats 4000000 in
theorem rk1_law5 {m : Int} {ns : List Int} {lw : Int → kLw} {μ μ' : xM} {r : Option zV} (h0 : Ex gx xq_219 [.inr (.inl (some 75))] μ r μ') (hI : qzI m μ) (hf : rF μ = 0) (hR : rI ns μ) (hO : hOK μ) (hx : (μ.1 78 (μ.1 75 25).toInt.toNat).toInt = 25) : hOK μ' ∧ oE (rSd μ).toNat μ μ' ∧ (rF μ' = 0 → (rW μ').1 = 0 → ∀ S, kWf S → sM (rSd μ).toNat S μ → sM (rSd μ).toNat (kStep (rK μ) (rLt μ) (rVl μ) lw (rT μ) S) μ') := by
  obtain ⟨n, h⟩ := tx_in (L := [some (.inr (.inl (some 75))), none]) h0 rfl
  have hC : ∀ n k, eT xq_219 n 219 [some (.inr (.inl (some 75))), some (.inl k)] [] μ r μ' → (130 ≤ rK μ (rT μ) ∧ rK μ (rT μ) ≤ 133) → hOK μ' ∧ oE (rSd μ).toNat μ μ' ∧ (rF μ' = 0 → (rW μ').1 = 0 → ∀ S, kWf S → sM (rSd μ).toNat S μ → sM (rSd μ).toNat (kStep (rK μ) (rLt μ) (rVl μ) lw (rT μ) S) μ') := by
    intro n k h hk
    replace h := tx_aload_n (p' := 220) h em219_219 rfl rfl
    obtain ⟨r220, μ220, hE220, h⟩ := tx_invV (na := 1) (mn := 144) (as := [.inr (.inl (some 75))]) (rest := []) (p' := 223) h em219_220 ((congrFun xo_12 221).trans rfl) xm_144 rfl rfl
    have hm220 := mE_w (μ := μ) (by decide +kernel) (hf_144_0 hE220 (hEn0 (by decide)) hO).2 hO
    have er220 := ex_void [0, 1, 4, 7, 10, 11, 12, 15, 18, 19, 20, 23, 24, 25, 28, 29] (by decide +kernel) hE220
    subst er220
    replace h : eT xq_219 _ 223 [some (.inr (.inl (some 75))), some (.inl k)] [] μ220 r μ' := h
    replace h := tx_aload_n (p' := 224) h em219_223 rfl rfl
    replace h := tx_iload_n (p' := 225) h em219_224 rfl rfl
    obtain ⟨r225, μ225, hE225, h⟩ := tx_invV (na := 2) (mn := 226) (as := [.inr (.inl (some 75)), .inl k]) (rest := []) (p' := 228) h em219_225 ((congrFun xo_12 274).trans rfl) xm_226 rfl rfl
    have hm225 := mE_w (μ := μ220) (by decide +kernel) (hf_226_0 hE225 (hEn0 (by decide)) hm220.1).2 hm220.1
    have er225 := ex_void [0, 1, 2, 5, 6, 9, 10, 11, 12, 13, 16, 19, 20, 22, 25, 28, 29, 30, 33, 34, 35, 38, 39, 42, 45, 46, 49, 50, 53, 54, 57, 58, 61, 62, 63, 64, 67, 68, 71, 72, 75, 76, 77, 80, 81, 83, 86, 87, 90, 91, 94, 95, 98, 99, 100, 103, 106, 107, 110, 111, 113, 116, 117, 120, 121, 123, 126, 129, 130, 133, 134, 137, 138, 139, 140, 143, 144, 145, 148, 149, 152, 155, 156, 157, 160, 161, 162, 165, 166, 167, 168, 169, 170, 171, 174, 175, 176, 179, 180, 181, 182, 183, 186, 187, 188] (by decide +kernel) hE225
    subst er225
    replace h : eT xq_219 _ 228 [some (.inr (.inl (some 75))), some (.inl k)] [] μ225 r μ' := h
    obtain ⟨rfl, hμ⟩ := tx_return h em219_228
    rw [hμ]
    have hmm := mE_tr hm220 hm225
    refine ⟨hmm.1, oE_m hmm, fun _ _ S _ hS => ?_⟩
    unfold kStep
    rw [if_neg (by omega), if_neg (by omega), if_neg (by omega), if_neg (by omega), if_neg (by omega)]
    exact sM_cg (fun k j a b => hmm.2 k j a b) hS
  have hkE : 130 ≤ rK μ (rT μ) ∧ rK μ (rT μ) ≤ 133 := by
    have h8 := kmp_l (x := (μ.1 78 (μ.1 75 25).toInt.toNat).toInt) (by omega)
    have h9 : rK μ (rT μ) = kmp (μ.1 78 (μ.1 75 25).toInt.toNat).toInt := rfl
    omega
  replace h := tx_aload_n (p' := 1) h em219_0 rfl rfl
  replace h := tx_getc (c := 12) (j := 19) (p' := 4) h em219_1 ((congrFun xo_12 20).trans rfl) rfl rfl rfl
  replace h := tx_aload_n (p' := 5) h em219_4 rfl rfl
  replace h := tx_getf (c := 12) (j := 25) (p' := 8) h em219_5 ((congrFun xo_12 203).trans rfl) rfl rfl (by decide) rfl
  obtain ⟨hb8, h⟩ := tx_iald (len := 403) (p' := 9) h em219_8 rfl rfl
  replace hb8 : (0 : Int) ≤ (μ.1 75 25).toInt ∧ (μ.1 75 25).toInt < 403 := hb8
  obtain ⟨t9, ht9, h⟩ := tx_tsw h em219_9
  have e9 : t9 = 175 := by
    have := tsw_k ht9 (k := 5) (off := 166) rfl (by omega) (by omega)
    omega
  subst e9
  replace h : eT xq_219 _ 175 [some (.inr (.inl (some 75))), none] [] μ r μ' := h
  replace h := tx_aload_n (p' := 176) h em219_175 rfl rfl
  replace h := tx_getc (c := 12) (j := 19) (p' := 179) h em219_176 ((congrFun xo_12 20).trans rfl) rfl rfl rfl
  replace h := tx_aload_n (p' := 180) h em219_179 rfl rfl
  replace h := tx_getf (c := 12) (j := 25) (p' := 183) h em219_180 ((congrFun xo_12 203).trans rfl) rfl rfl (by decide) rfl
  obtain ⟨hb183, h⟩ := tx_iald (len := 403) (p' := 184) h em219_183 rfl rfl
  replace hb183 : (0 : Int) ≤ (μ.1 75 25).toInt ∧ (μ.1 75 25).toInt < 403 := hb183
  replace h := tx_bipush (v := 22) (p' := 186) h em219_184 (by decide +kernel) rfl
  replace h := tx_isub (p' := 187) h em219_186 rfl
  replace h := tx_istore_n (p' := 188) h em219_187 rfl
  replace h : eT xq_219 _ 188 [some (.inr (.inl (some 75))), some (.inl ((μ.1 78 (μ.1 75 25).toInt.toNat) - (22 : Int32)))] [] μ r μ' := h
  replace h := tx_iload_n (p' := 189) h em219_188 rfl rfl
  rcases tx_if (t := 206) (p' := 192) h em219_189 (by decide) rfl with ⟨c189, h⟩ | ⟨c189, h⟩
  · replace c189 : ((μ.1 78 (μ.1 75 25).toInt.toNat) - (22 : Int32)).toInt < 0 := c189
    exfalso
    have e22 : (22 : Int32).toInt = 22 := by decide
    have h7 := an_sub (x := μ.1 78 (μ.1 75 25).toInt.toNat) (y := 22) (by omega) (by omega)
    omega
  · replace c189 : ¬ ((μ.1 78 (μ.1 75 25).toInt.toNat) - (22 : Int32)).toInt < 0 := c189
    replace h := tx_aload_n (p' := 193) h em219_192 rfl rfl
    replace h := tx_getc (c := 12) (j := 19) (p' := 196) h em219_193 ((congrFun xo_12 20).trans rfl) rfl rfl rfl
    replace h := tx_aload_n (p' := 197) h em219_196 rfl rfl
    replace h := tx_getf (c := 12) (j := 25) (p' := 200) h em219_197 ((congrFun xo_12 203).trans rfl) rfl rfl (by decide) rfl
    obtain ⟨hb200, h⟩ := tx_iald (len := 403) (p' := 201) h em219_200 rfl rfl
    replace hb200 : (0 : Int) ≤ (μ.1 75 25).toInt ∧ (μ.1 75 25).toInt < 403 := hb200
    replace h := tx_bipush (v := 25) (p' := 203) h em219_201 (by decide +kernel) rfl
    rcases tx_icmp (t := 211) (p' := 206) h em219_203 (by decide) rfl with ⟨c203, h⟩ | ⟨c203, h⟩
    · replace c203 : (μ.1 78 (μ.1 75 25).toInt.toNat).toInt ≤ 25 := c203
      replace h := tx_aload_n (p' := 212) h em219_211 rfl rfl
      replace h := tx_getf (c := 12) (j := 27) (p' := 215) h em219_212 ((congrFun xo_12 200).trans rfl) rfl rfl (by decide) rfl
      rcases tx_if (t := 219) (p' := 218) h em219_215 (by decide) rfl with ⟨c215, h⟩ | ⟨c215, h⟩
      · replace c215 : (μ.1 75 27).toInt ≤ 0 := c215
        exact hC _ _ h hkE
      · replace c215 : ¬ (μ.1 75 27).toInt ≤ 0 := c215
        obtain ⟨rfl, hμ⟩ := tx_return h em219_218
        exfalso
        unfold rF at hf
        omega
    · replace c203 : ¬ (μ.1 78 (μ.1 75 25).toInt.toNat).toInt ≤ 25 := c203
      exfalso
      have e22 : (22 : Int32).toInt = 22 := by decide
      have h7 := an_sub (x := μ.1 78 (μ.1 75 25).toInt.toNat) (y := 22) (by omega) (by omega)
      omega
/-- a telling of the reference: what it tells -/
theorem rk_one {lw : Int → kLw} {m : Int} {ns : List Int} {μ μ' : xM} {r : Option zV} (h0 : Ex gx xq_219 [.inr (.inl (some 75))] μ r μ') (hI : qzI m μ) (hf : rF μ = 0) (hR : rI ns μ) (hk0 : 0 ≤ rK μ (rT μ)) (hO : hOK μ) : hOK μ' ∧ oE (rSd μ).toNat μ μ' ∧ (rF μ' = 0 → (rW μ').1 = 0 → ∀ S, kWf S → sM (rSd μ).toNat S μ → sM (rSd μ).toNat (kStep (rK μ) (rLt μ) (rVl μ) lw (rT μ) S) μ') := by
  have h9 : rK μ (rT μ) = kmp (μ.1 78 (μ.1 75 25).toInt.toNat).toInt := rfl
  by_cases a : 20 ≤ (μ.1 78 (μ.1 75 25).toInt.toNat).toInt ∧ (μ.1 78 (μ.1 75 25).toInt.toNat).toInt ≤ 28
  · have h8 := kmp_l (x := (μ.1 78 (μ.1 75 25).toInt.toNat).toInt) (by omega)
    have h7 : (μ.1 78 (μ.1 75 25).toInt.toNat).toInt = 20 ∨ (μ.1 78 (μ.1 75 25).toInt.toNat).toInt = 21 ∨ (μ.1 78 (μ.1 75 25).toInt.toNat).toInt = 22 ∨ (μ.1 78 (μ.1 75 25).toInt.toNat).toInt = 23 ∨ (μ.1 78 (μ.1 75 25).toInt.toNat).toInt = 24 ∨ (μ.1 78 (μ.1 75 25).toInt.toNat).toInt = 25 ∨ (μ.1 78 (μ.1 75 25).toInt.toNat).toInt = 26 ∨ (μ.1 78 (μ.1 75 25).toInt.toNat).toInt = 27 ∨ (μ.1 78 (μ.1 75 25).toInt.toNat).toInt = 28 := by omega
    rcases h7 with e | e | e | e | e | e | e | e | e
    · exact rk1_house h0 hI hf hR hO (by omega)
    · exact rk1_verse h0 hI hf hR hO (by omega)
    · exact rk1_law2 h0 hI hf hR hO e
    · exact rk1_law3 h0 hI hf hR hO e
    · exact rk1_law4 h0 hI hf hR hO e
    · exact rk1_law5 h0 hI hf hR hO e
    · exact rk1_spoils h0 hI hf hR hO (by omega)
    · exact rk1_thieves h0 hI hf hR hO (by omega)
    · exact rk1_seed h0 hI hf hR hO (by omega)
  · refine rk1_else h0 hI hf hR hO (fun q => ?_) (by omega) (kmp_p (x := (μ.1 78 (μ.1 75 25).toInt.toNat).toInt) hk0).1
    have h8 := kmp_h (x := (μ.1 78 (μ.1 75 25).toInt.toNat).toInt) (by omega)
    omega
