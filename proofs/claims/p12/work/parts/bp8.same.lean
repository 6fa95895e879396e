/-! ===== two texts of the same bytes tell the same ===== -/
theorem kStep_cg {E h v : Int} {K K' : Int → Int} {lt lt' : Int → List Int} {vl vl' : Int → Int} {lw lw' : Int → kLw} {a : Int} {S : kSt} (e : K' a = K a) (a0 : 0 ≤ a) (hs : (pTell K h v a).2 = 0) (hE : (pTell K h v a).1 ≤ E) (hl : ∀ t, 0 ≤ t → t ≤ E → K t = 2 → lt' t = lt t) (hv : ∀ t, 0 ≤ t → t ≤ E → K t = 3 → vl' t = vl t) (hw : 130 ≤ K a ∧ K a ≤ 133 → lw' (a + 2) = lw (a + 2)) : kStep K' lt' vl' lw' a S = kStep K lt vl lw a S := by
  unfold kStep
  rw [e]
  by_cases c1 : K a = 128
  · obtain ⟨t1, t2, t3, t4⟩ := tell_h0 c1 hs
    rw [if_pos c1, if_pos c1, hl (a + 2) (by omega) (by omega) t3]
  · rw [if_neg c1, if_neg c1]
    by_cases c2 : K a = 129
    · obtain ⟨t1, t2, t3, t4, t5, t6⟩ := tell_v0 c2 hs
      rw [if_pos c2, if_pos c2, hl (a + 2) (by omega) (by omega) t3, hv (a + 3) (by omega) (by omega) t4, hv (a + 4) (by omega) (by omega) t5]
    · rw [if_neg c2, if_neg c2]
      have nu : 134 ≤ K a ∧ K a ≤ 136 → vl' (a + 1) = vl (a + 1) := fun q => by
        obtain ⟨t1, t2⟩ := tell_n0 q hs
        exact hv (a + 1) (by omega) (by omega) t1
      by_cases c3 : K a = 134
      · rw [if_pos c3, if_pos c3, nu (by omega)]
      · rw [if_neg c3, if_neg c3]
        by_cases c4 : K a = 135
        · rw [if_pos c4, if_pos c4, nu (by omega)]
        · rw [if_neg c4, if_neg c4]
          by_cases c5 : K a = 136
          · rw [if_pos c5, if_pos c5, nu (by omega)]
          · rw [if_neg c5, if_neg c5]
            by_cases c6 : 130 ≤ K a ∧ K a ≤ 133
            · rw [hw c6]
            · exfalso
              rw [pTell_e (by omega)] at hs
              exact absurd (show (1 : Int) = 0 from hs) (by decide)
theorem kText_cg {E : Int} {K K' : Int → Int} {lt lt' : Int → List Int} {vl vl' : Int → Int} {lw lw' : Int → kLw} (hK : ∀ a, 0 ≤ a → a ≤ E → K' a = K a) (h1 : E < 400 → K E ≤ 1) (h4 : E ≤ 400) (hl : ∀ t, 0 ≤ t → t ≤ E → K t = 2 → lt' t = lt t) (hv : ∀ t, 0 ≤ t → t ≤ E → K t = 3 → vl' t = vl t) (hw : ∀ a h v, 0 ≤ a → a ≤ E → 130 ≤ K a ∧ K a ≤ 133 → (pTell K h v a).2 = 0 → lw' (a + 2) = lw (a + 2)) : ∀ (n : Nat) (a h v : Int) (S : kSt), 0 ≤ a → a ≤ E → kText K' lt' vl' lw' n a h v S = kText K lt vl lw n a h v S
  | 0, a, h, v, S, _, _ => rfl
  | n + 1, a, h, v, S, a0, a1 => by
    have e := hK a a0 a1
    obtain ⟨t1, t2, t3⟩ := cg_tell (h := h) (v := v) hK h1 h4 a a0 a1
    show (if K' a = 0 then S else if (pTell K' h v a).2 = 0 then kText K' lt' vl' lw' n (pTell K' h v a).1 (if K' a = 128 then h + 1 else h) (if K' a = 129 then v + 1 else v) (kStep K' lt' vl' lw' a S) else S) = (if K a = 0 then S else if (pTell K h v a).2 = 0 then kText K lt vl lw n (pTell K h v a).1 (if K a = 128 then h + 1 else h) (if K a = 129 then v + 1 else v) (kStep K lt vl lw a S) else S)
    rw [e, t1]
    by_cases c0 : K a = 0
    · rw [if_pos c0, if_pos c0]
    · rw [if_neg c0, if_neg c0]
      by_cases c1 : (pTell K h v a).2 = 0
      · rw [if_pos c1, if_pos c1, kStep_cg e a0 c1 t3 hl hv (fun q => hw a h v a0 a1 q c1)]
        exact kText_cg hK h1 h4 hl hv hw n _ _ _ _ (by omega) t3
      · rw [if_neg c1, if_neg c1]
theorem tkEs_rev {B : Int → Int} {i : Int} : ∀ {s : Nat}, (tkEs B i s).reverse.map (fun d => d - 1) = (List.range s).map (fun (k : Nat) => B (i + k) - 97)
  | 0 => rfl
  | s + 1 => by
    show ((B (i + s) - 96) :: tkEs B i s).reverse.map (fun d => d - 1) = _
    rw [List.reverse_cons, List.map_append, tkEs_rev, List.range_succ, List.map_append]
    show _ ++ [B (i + s) - 96 - 1] = _ ++ [B (i + s) - 97]
    rw [show B (i + s) - 96 - 1 = B (i + s) - 97 by omega]
theorem same_cont {lw lw' : Int → kLw} {S0 : kSt} {μ ν ν' : xM} {B S' : Int → Int} {n E m : Int} (hB : ∀ i, 0 ≤ i → i < n → B i = kB μ 1 i) (hν : ∀ j, ν.1 1 j = μ.1 1 j) (h : tkC (kB μ 1) n (cP ν) (cS ν) (cK ν) E) (h2 : ∀ a, 0 ≤ a → a < E → 2 ≤ cK ν a) (h1 : E < 400 → cK ν E ≤ 1) (g : tkC B n (rP ν') S' (rK ν') m) (g0 : m < 400 → rK ν' m = 0) (gv : rkV B S' ν' (m + 1)) (hlw : ∀ a h v, 0 ≤ a → a ≤ E → 130 ≤ cK ν a ∧ cK ν a ≤ 133 → (pTell (cK ν) h v a).2 = 0 → lw' (a + 2) = lw (a + 2)) : kText (rK ν') (rLt ν') (rVl ν') lw' 401 0 0 0 S0 = kText (cK ν) (cT ν) (cV ν) lw 401 0 0 0 S0 := by
  have hC := tkC_cg hB h
  have hs := tk_same hC h2 g g0
  have eB : kB ν 1 = kB μ 1 := by funext i; unfold kB; rw [hν]
  have at_ : ∀ a : Int, 0 ≤ a → a ≤ E → a ≤ m ∧ rP ν' a = cP ν a ∧ rK ν' a = cK ν a ∧ (¬ cK ν a = 0 → S' a = cS ν a) := fun a a0 a1 => by
    have := hs a.toNat (by omega)
    rw [show ((a.toNat : Nat) : Int) = a by omega] at this
    exact this
  -- a name
  have nm : ∀ a : Int, 0 ≤ a → a ≤ E → cK ν a = 2 → (0 ≤ cP ν a ∧ 1 ≤ cS ν a ∧ cS ν a ≤ 8 ∧ cP ν a + cS ν a ≤ n) ∧ (∀ k : Nat, k < (cS ν a).toNat → tkLo (kB μ 1 (cP ν a + k))) ∧ rNm ν' a = qzR (tkEs (kB μ 1) (cP ν a) (cS ν a).toNat) := fun a a0 a1 hk => by
    obtain ⟨q1, q2, q3, q4⟩ := at_ a a0 a1
    have q4 := q4 (by omega)
    rcases tkC_at h a0 a1 with ⟨-, -, z⟩ | ⟨z1, z2, z3, z4, z5⟩
    · omega
    · rw [hk] at z4
      obtain ⟨d1, d2⟩ := tkKd_2 z4
      have hz := z3.1
      refine ⟨⟨z1, hz.1, d2, hz.2⟩, fun k hk2 => tkSz_l z3 d1 _ (by omega) (by omega), ?_⟩
      have hv := (gv a a0 (by omega)).2 (by rw [q3, hk]; decide)
      rw [q2, q4] at hv
      rw [hv (by rw [hB _ z1 z2]; exact d1) d2]
      congr 1
      exact tkEs_cg (fun k hk2 => hB _ (by omega) (by omega))
  refine kText_cg (E := E) (fun a a0 a1 => (at_ a a0 a1).2.2.1) h1 h.1.2 (fun a a0 a1 ka => ?_) (fun a a0 a1 ka => ?_) hlw 401 0 0 0 S0 (Int.le_refl 0) h.1.1
  · obtain ⟨⟨p1, p2, p3, p4⟩, p5, p6⟩ := nm a a0 a1 ka
    have cb : ∀ (i : Nat), cB ν a i = kB μ 1 (cP ν a + i) := fun i => by unfold cB; rw [← eB]; unfold kB; rw [show (cP ν a + (i : Int)).toNat = (cP ν a).toNat + i by omega]
    have hD : qzD (tkEs (kB μ 1) (cP ν a) (cS ν a).toNat) := ⟨tkEs_d p5, by rw [tkEs_len]; omega⟩
    unfold rLt
    rw [rEs_eq hD p6, tkEs_rev]
    unfold cT
    exact List.map_congr_left (fun i _ => by rw [cb])
  · obtain ⟨q1, q2, q3, q4⟩ := at_ a a0 a1
    have q4 := q4 (by omega)
    rcases tkC_at h a0 a1 with ⟨-, -, z⟩ | ⟨z1, z2, z3, z4, z5⟩
    · omega
    · have hz := z3.1
      rw [(gv a a0 (by omega)).1 (by rw [q3, ka]), q2, q4]
      unfold cV
      rw [cDg_d z1, eB]
      exact dgv_cg (fun j hj => hB _ (by omega) (by omega))
/-- a script over another -/
def bcQ (μ μ' : xM) : Prop := μ'.2 = μ.2 ∧ (∀ j, (j < 5 ∨ j = 14) → μ'.1 2 j = μ.1 13 j) ∧ (∀ j, j < 40 → μ'.1 3 j = μ.1 14 j) ∧ (∀ j, j < 7 → μ'.1 4 j = μ.1 15 j ∧ μ'.1 5 j = μ.1 16 j ∧ μ'.1 6 j = μ.1 17 j) ∧ (∀ j, j < 56 → μ'.1 7 j = μ.1 18 j ∧ μ'.1 8 j = μ.1 19 j) ∧ (∀ j, j < 4 → μ'.1 9 j = μ.1 20 j) ∧ ∀ j, j < 408 → μ'.1 10 j = μ.1 21 j ∧ μ'.1 11 j = μ.1 22 j
theorem bcQ_C {S : kSt} {μ μ' : xM} (hW : kWf S) (h : bcQ μ μ') (hs : sC 13 S μ) : sC 2 S μ' := by
  obtain ⟨-, q1, q2, q3, q4, -⟩ := h
  obtain ⟨⟨a1, a2, a3, a4, a5⟩, b, d, e⟩ := hs
  refine ⟨⟨?_, ?_, ?_, ?_, ?_⟩, fun h l x y => ?_, fun v hv => ?_, fun v l x y => ?_⟩
  · rw [q1 0 (by decide)]; exact a1
  · rw [q1 1 (by decide)]; exact a2
  · rw [q1 4 (by decide)]; exact a3
  · rw [q1 2 (by decide)]; exact a4
  · rw [q1 3 (by decide)]; exact a5
  · rw [q2 _ (by omega)]; exact b h l x y
  · have h7 := hW.2.1
    have h8 := (kWf_V hW v).1
    obtain ⟨d1, d2, d3, d4⟩ := d v hv
    have q := q3 v (by omega)
    rw [q.1, q.2.1, q.2.2]
    exact ⟨d1, d2, d3, fun i hi => by rw [(q4 _ (by omega)).1]; exact d4 i hi⟩
  · rw [(q4 _ (by omega)).2]; exact e v l x y
abbrev xq_44 : xP := (⟨"CapitalCase$Script", "become", "(LCapitalCase$Script;)V"⟩, prog_8_method_6_code, 2, none)
set_option maxRecDepth 10000 in
set_option maxHeartbeats 4000000 in
theorem kb_become {μ μ' : xM} {r : Option zV} (h0 : Ex gx xq_44 [.inr (.inl (some 2)), .inr (.inl (some 13))] μ r μ') : bcQ μ μ' := by
  obtain ⟨n, h⟩ := tx_in (L := [some (.inr (.inl (some 2))), some (.inr (.inl (some 13)))]) h0 rfl
  replace h := tx_aload_n (p' := 1) h em44_0 rfl rfl
  replace h := tx_aload_n (p' := 2) h em44_1 rfl rfl
  replace h := tx_getf (c := 6) (j := 0) (p' := 5) h em44_2 ((congrFun xo_7 44).trans rfl) rfl rfl (by decide) rfl
  replace h := tx_putf (a := 2) (c := 6) (j := 0) (p' := 8) h em44_5 ((congrFun xo_7 44).trans rfl) rfl
  replace h := tx_aload_n (p' := 9) h em44_8 rfl rfl
  replace h := tx_aload_n (p' := 10) h em44_9 rfl rfl
  replace h := tx_getf (c := 6) (j := 1) (p' := 13) h em44_10 ((congrFun xo_7 48).trans rfl) rfl rfl (by decide) rfl
  replace h : eT xq_44 _ 13 [some (.inr (.inl (some 2))), some (.inr (.inl (some 13)))] [.inl (μ.1 13 1), .inr (.inl (some 2))] (xpi μ 2 0 (μ.1 13 0)) r μ' := h
  replace h := tx_putf (a := 2) (c := 6) (j := 1) (p' := 16) h em44_13 ((congrFun xo_7 48).trans rfl) rfl
  replace h := tx_aload_n (p' := 17) h em44_16 rfl rfl
  replace h := tx_aload_n (p' := 18) h em44_17 rfl rfl
  replace h := tx_getf (c := 6) (j := 4) (p' := 21) h em44_18 ((congrFun xo_7 51).trans rfl) rfl rfl (by decide) rfl
  replace h : eT xq_44 _ 21 [some (.inr (.inl (some 2))), some (.inr (.inl (some 13)))] [.inl (μ.1 13 4), .inr (.inl (some 2))] (xpi (xpi μ 2 0 (μ.1 13 0)) 2 1 (μ.1 13 1)) r μ' := h
  replace h := tx_putf (a := 2) (c := 6) (j := 4) (p' := 24) h em44_21 ((congrFun xo_7 51).trans rfl) rfl
  replace h := tx_aload_n (p' := 25) h em44_24 rfl rfl
  replace h := tx_aload_n (p' := 26) h em44_25 rfl rfl
  replace h := tx_getf (c := 6) (j := 2) (p' := 29) h em44_26 ((congrFun xo_7 54).trans rfl) rfl rfl (by decide) rfl
  replace h : eT xq_44 _ 29 [some (.inr (.inl (some 2))), some (.inr (.inl (some 13)))] [.inl (μ.1 13 2), .inr (.inl (some 2))] (xpi (xpi (xpi μ 2 0 (μ.1 13 0)) 2 1 (μ.1 13 1)) 2 4 (μ.1 13 4)) r μ' := h
  replace h := tx_putf (a := 2) (c := 6) (j := 2) (p' := 32) h em44_29 ((congrFun xo_7 54).trans rfl) rfl
  replace h := tx_aload_n (p' := 33) h em44_32 rfl rfl
  replace h := tx_aload_n (p' := 34) h em44_33 rfl rfl
  replace h := tx_getf (c := 6) (j := 3) (p' := 37) h em44_34 ((congrFun xo_7 57).trans rfl) rfl rfl (by decide) rfl
  replace h : eT xq_44 _ 37 [some (.inr (.inl (some 2))), some (.inr (.inl (some 13)))] [.inl (μ.1 13 3), .inr (.inl (some 2))] (xpi (xpi (xpi (xpi μ 2 0 (μ.1 13 0)) 2 1 (μ.1 13 1)) 2 4 (μ.1 13 4)) 2 2 (μ.1 13 2)) r μ' := h
  replace h := tx_putf (a := 2) (c := 6) (j := 3) (p' := 40) h em44_37 ((congrFun xo_7 57).trans rfl) rfl
  replace h := tx_aload_n (p' := 41) h em44_40 rfl rfl
  replace h := tx_aload_n (p' := 42) h em44_41 rfl rfl
  replace h := tx_getf (c := 6) (j := 14) (p' := 45) h em44_42 ((congrFun xo_7 66).trans rfl) rfl rfl (by decide) rfl
  replace h : eT xq_44 _ 45 [some (.inr (.inl (some 2))), some (.inr (.inl (some 13)))] [.inl (μ.1 13 14), .inr (.inl (some 2))] (xpi (xpi (xpi (xpi (xpi μ 2 0 (μ.1 13 0)) 2 1 (μ.1 13 1)) 2 4 (μ.1 13 4)) 2 2 (μ.1 13 2)) 2 3 (μ.1 13 3)) r μ' := h
  replace h := tx_putf (a := 2) (c := 6) (j := 14) (p' := 48) h em44_45 ((congrFun xo_7 66).trans rfl) rfl
  replace h := tx_aload_n (p' := 49) h em44_48 rfl rfl
  replace h := tx_getc (c := 6) (j := 5) (p' := 52) h em44_49 ((congrFun xo_7 13).trans rfl) rfl rfl rfl
  replace h := tx_iconst (v := 0) (p' := 53) h em44_52 (by decide +kernel) rfl
  replace h := tx_aload_n (p' := 54) h em44_53 rfl rfl
  replace h := tx_getc (c := 6) (j := 5) (p' := 57) h em44_54 ((congrFun xo_7 13).trans rfl) rfl rfl rfl
  replace h := tx_iconst (v := 0) (p' := 58) h em44_57 (by decide +kernel) rfl
  replace h := tx_bipush (v := 40) (p' := 60) h em44_58 (by decide +kernel) rfl
  replace h := tx_copy (a0 := 14) (a := 3) (len := 40) (p' := 63) h em44_60 ((congrFun xo_7 79).trans rfl) rfl rfl
  replace h : eT xq_44 _ 63 [some (.inr (.inl (some 2))), some (.inr (.inl (some 13)))] [] (xcp (xpi (xpi (xpi (xpi (xpi (xpi μ 2 0 (μ.1 13 0)) 2 1 (μ.1 13 1)) 2 4 (μ.1 13 4)) 2 2 (μ.1 13 2)) 2 3 (μ.1 13 3)) 2 14 (μ.1 13 14)) 14 3 40) r μ' := h
  replace h := tx_aload_n (p' := 64) h em44_63 rfl rfl
  replace h := tx_getc (c := 6) (j := 6) (p' := 67) h em44_64 ((congrFun xo_7 17).trans rfl) rfl rfl rfl
  replace h := tx_iconst (v := 0) (p' := 68) h em44_67 (by decide +kernel) rfl
  replace h := tx_aload_n (p' := 69) h em44_68 rfl rfl
  replace h := tx_getc (c := 6) (j := 6) (p' := 72) h em44_69 ((congrFun xo_7 17).trans rfl) rfl rfl rfl
  replace h := tx_iconst (v := 0) (p' := 73) h em44_72 (by decide +kernel) rfl
  replace h := tx_bipush (v := 7) (p' := 75) h em44_73 (by decide +kernel) rfl
  replace h := tx_copy (a0 := 15) (a := 4) (len := 7) (p' := 78) h em44_75 ((congrFun xo_7 79).trans rfl) rfl rfl
  replace h : eT xq_44 _ 78 [some (.inr (.inl (some 2))), some (.inr (.inl (some 13)))] [] (xcp (xcp (xpi (xpi (xpi (xpi (xpi (xpi μ 2 0 (μ.1 13 0)) 2 1 (μ.1 13 1)) 2 4 (μ.1 13 4)) 2 2 (μ.1 13 2)) 2 3 (μ.1 13 3)) 2 14 (μ.1 13 14)) 14 3 40) 15 4 7) r μ' := h
  replace h := tx_aload_n (p' := 79) h em44_78 rfl rfl
  replace h := tx_getc (c := 6) (j := 7) (p' := 82) h em44_79 ((congrFun xo_7 20).trans rfl) rfl rfl rfl
  replace h := tx_iconst (v := 0) (p' := 83) h em44_82 (by decide +kernel) rfl
  replace h := tx_aload_n (p' := 84) h em44_83 rfl rfl
  replace h := tx_getc (c := 6) (j := 7) (p' := 87) h em44_84 ((congrFun xo_7 20).trans rfl) rfl rfl rfl
  replace h := tx_iconst (v := 0) (p' := 88) h em44_87 (by decide +kernel) rfl
  replace h := tx_bipush (v := 7) (p' := 90) h em44_88 (by decide +kernel) rfl
  replace h := tx_copy (a0 := 16) (a := 5) (len := 7) (p' := 93) h em44_90 ((congrFun xo_7 79).trans rfl) rfl rfl
  replace h : eT xq_44 _ 93 [some (.inr (.inl (some 2))), some (.inr (.inl (some 13)))] [] (xcp (xcp (xcp (xpi (xpi (xpi (xpi (xpi (xpi μ 2 0 (μ.1 13 0)) 2 1 (μ.1 13 1)) 2 4 (μ.1 13 4)) 2 2 (μ.1 13 2)) 2 3 (μ.1 13 3)) 2 14 (μ.1 13 14)) 14 3 40) 15 4 7) 16 5 7) r μ' := h
  replace h := tx_aload_n (p' := 94) h em44_93 rfl rfl
  replace h := tx_getc (c := 6) (j := 8) (p' := 97) h em44_94 ((congrFun xo_7 23).trans rfl) rfl rfl rfl
  replace h := tx_iconst (v := 0) (p' := 98) h em44_97 (by decide +kernel) rfl
  replace h := tx_aload_n (p' := 99) h em44_98 rfl rfl
  replace h := tx_getc (c := 6) (j := 8) (p' := 102) h em44_99 ((congrFun xo_7 23).trans rfl) rfl rfl rfl
  replace h := tx_iconst (v := 0) (p' := 103) h em44_102 (by decide +kernel) rfl
  replace h := tx_bipush (v := 7) (p' := 105) h em44_103 (by decide +kernel) rfl
  replace h := tx_copy (a0 := 17) (a := 6) (len := 7) (p' := 108) h em44_105 ((congrFun xo_7 79).trans rfl) rfl rfl
  replace h : eT xq_44 _ 108 [some (.inr (.inl (some 2))), some (.inr (.inl (some 13)))] [] (xcp (xcp (xcp (xcp (xpi (xpi (xpi (xpi (xpi (xpi μ 2 0 (μ.1 13 0)) 2 1 (μ.1 13 1)) 2 4 (μ.1 13 4)) 2 2 (μ.1 13 2)) 2 3 (μ.1 13 3)) 2 14 (μ.1 13 14)) 14 3 40) 15 4 7) 16 5 7) 17 6 7) r μ' := h
  replace h := tx_aload_n (p' := 109) h em44_108 rfl rfl
  replace h := tx_getc (c := 6) (j := 9) (p' := 112) h em44_109 ((congrFun xo_7 26).trans rfl) rfl rfl rfl
  replace h := tx_iconst (v := 0) (p' := 113) h em44_112 (by decide +kernel) rfl
  replace h := tx_aload_n (p' := 114) h em44_113 rfl rfl
  replace h := tx_getc (c := 6) (j := 9) (p' := 117) h em44_114 ((congrFun xo_7 26).trans rfl) rfl rfl rfl
  replace h := tx_iconst (v := 0) (p' := 118) h em44_117 (by decide +kernel) rfl
  replace h := tx_bipush (v := 56) (p' := 120) h em44_118 (by decide +kernel) rfl
  replace h := tx_copy (a0 := 18) (a := 7) (len := 56) (p' := 123) h em44_120 ((congrFun xo_7 79).trans rfl) rfl rfl
  replace h : eT xq_44 _ 123 [some (.inr (.inl (some 2))), some (.inr (.inl (some 13)))] [] (xcp (xcp (xcp (xcp (xcp (xpi (xpi (xpi (xpi (xpi (xpi μ 2 0 (μ.1 13 0)) 2 1 (μ.1 13 1)) 2 4 (μ.1 13 4)) 2 2 (μ.1 13 2)) 2 3 (μ.1 13 3)) 2 14 (μ.1 13 14)) 14 3 40) 15 4 7) 16 5 7) 17 6 7) 18 7 56) r μ' := h
  replace h := tx_aload_n (p' := 124) h em44_123 rfl rfl
  replace h := tx_getc (c := 6) (j := 10) (p' := 127) h em44_124 ((congrFun xo_7 29).trans rfl) rfl rfl rfl
  replace h := tx_iconst (v := 0) (p' := 128) h em44_127 (by decide +kernel) rfl
  replace h := tx_aload_n (p' := 129) h em44_128 rfl rfl
  replace h := tx_getc (c := 6) (j := 10) (p' := 132) h em44_129 ((congrFun xo_7 29).trans rfl) rfl rfl rfl
  replace h := tx_iconst (v := 0) (p' := 133) h em44_132 (by decide +kernel) rfl
  replace h := tx_bipush (v := 56) (p' := 135) h em44_133 (by decide +kernel) rfl
  replace h := tx_copy (a0 := 19) (a := 8) (len := 56) (p' := 138) h em44_135 ((congrFun xo_7 79).trans rfl) rfl rfl
  replace h : eT xq_44 _ 138 [some (.inr (.inl (some 2))), some (.inr (.inl (some 13)))] [] (xcp (xcp (xcp (xcp (xcp (xcp (xpi (xpi (xpi (xpi (xpi (xpi μ 2 0 (μ.1 13 0)) 2 1 (μ.1 13 1)) 2 4 (μ.1 13 4)) 2 2 (μ.1 13 2)) 2 3 (μ.1 13 3)) 2 14 (μ.1 13 14)) 14 3 40) 15 4 7) 16 5 7) 17 6 7) 18 7 56) 19 8 56) r μ' := h
  replace h := tx_aload_n (p' := 139) h em44_138 rfl rfl
  replace h := tx_getc (c := 6) (j := 11) (p' := 142) h em44_139 ((congrFun xo_7 32).trans rfl) rfl rfl rfl
  replace h := tx_iconst (v := 0) (p' := 143) h em44_142 (by decide +kernel) rfl
  replace h := tx_aload_n (p' := 144) h em44_143 rfl rfl
  replace h := tx_getc (c := 6) (j := 11) (p' := 147) h em44_144 ((congrFun xo_7 32).trans rfl) rfl rfl rfl
  replace h := tx_iconst (v := 0) (p' := 148) h em44_147 (by decide +kernel) rfl
  replace h := tx_iconst (v := 4) (p' := 149) h em44_148 (by decide +kernel) rfl
  replace h := tx_copy (a0 := 20) (a := 9) (len := 4) (p' := 152) h em44_149 ((congrFun xo_7 79).trans rfl) rfl rfl
  replace h : eT xq_44 _ 152 [some (.inr (.inl (some 2))), some (.inr (.inl (some 13)))] [] (xcp (xcp (xcp (xcp (xcp (xcp (xcp (xpi (xpi (xpi (xpi (xpi (xpi μ 2 0 (μ.1 13 0)) 2 1 (μ.1 13 1)) 2 4 (μ.1 13 4)) 2 2 (μ.1 13 2)) 2 3 (μ.1 13 3)) 2 14 (μ.1 13 14)) 14 3 40) 15 4 7) 16 5 7) 17 6 7) 18 7 56) 19 8 56) 20 9 4) r μ' := h
  replace h := tx_aload_n (p' := 153) h em44_152 rfl rfl
  replace h := tx_getc (c := 6) (j := 12) (p' := 156) h em44_153 ((congrFun xo_7 35).trans rfl) rfl rfl rfl
  replace h := tx_iconst (v := 0) (p' := 157) h em44_156 (by decide +kernel) rfl
  replace h := tx_aload_n (p' := 158) h em44_157 rfl rfl
  replace h := tx_getc (c := 6) (j := 12) (p' := 161) h em44_158 ((congrFun xo_7 35).trans rfl) rfl rfl rfl
  replace h := tx_iconst (v := 0) (p' := 162) h em44_161 (by decide +kernel) rfl
  replace h := tx_sipush (v := 408) (p' := 165) h em44_162 (by decide +kernel) rfl
  replace h := tx_copy (a0 := 21) (a := 10) (len := 408) (p' := 168) h em44_165 ((congrFun xo_7 79).trans rfl) rfl rfl
  replace h : eT xq_44 _ 168 [some (.inr (.inl (some 2))), some (.inr (.inl (some 13)))] [] (xcp (xcp (xcp (xcp (xcp (xcp (xcp (xcp (xpi (xpi (xpi (xpi (xpi (xpi μ 2 0 (μ.1 13 0)) 2 1 (μ.1 13 1)) 2 4 (μ.1 13 4)) 2 2 (μ.1 13 2)) 2 3 (μ.1 13 3)) 2 14 (μ.1 13 14)) 14 3 40) 15 4 7) 16 5 7) 17 6 7) 18 7 56) 19 8 56) 20 9 4) 21 10 408) r μ' := h
  replace h := tx_aload_n (p' := 169) h em44_168 rfl rfl
  replace h := tx_getc (c := 6) (j := 13) (p' := 172) h em44_169 ((congrFun xo_7 38).trans rfl) rfl rfl rfl
  replace h := tx_iconst (v := 0) (p' := 173) h em44_172 (by decide +kernel) rfl
  replace h := tx_aload_n (p' := 174) h em44_173 rfl rfl
  replace h := tx_getc (c := 6) (j := 13) (p' := 177) h em44_174 ((congrFun xo_7 38).trans rfl) rfl rfl rfl
  replace h := tx_iconst (v := 0) (p' := 178) h em44_177 (by decide +kernel) rfl
  replace h := tx_sipush (v := 408) (p' := 181) h em44_178 (by decide +kernel) rfl
  replace h := tx_copy (a0 := 22) (a := 11) (len := 408) (p' := 184) h em44_181 ((congrFun xo_7 79).trans rfl) rfl rfl
  replace h : eT xq_44 _ 184 [some (.inr (.inl (some 2))), some (.inr (.inl (some 13)))] [] (xcp (xcp (xcp (xcp (xcp (xcp (xcp (xcp (xcp (xpi (xpi (xpi (xpi (xpi (xpi μ 2 0 (μ.1 13 0)) 2 1 (μ.1 13 1)) 2 4 (μ.1 13 4)) 2 2 (μ.1 13 2)) 2 3 (μ.1 13 3)) 2 14 (μ.1 13 14)) 14 3 40) 15 4 7) 16 5 7) 17 6 7) 18 7 56) 19 8 56) 20 9 4) 21 10 408) 22 11 408) r μ' := h
  obtain ⟨rfl, hμ⟩ := tx_return h em44_184
  rw [hμ]
  refine ⟨rfl, fun j hj => ?_, fun j hj => ?_, fun j hj => ⟨?_, ?_, ?_⟩, fun j hj => ⟨?_, ?_⟩, fun j hj => ?_, fun j hj => ⟨?_, ?_⟩⟩
  · rw [xcp_ne (by decide), xcp_ne (by decide), xcp_ne (by decide), xcp_ne (by decide), xcp_ne (by decide), xcp_ne (by decide), xcp_ne (by decide), xcp_ne (by decide), xcp_ne (by decide)]
    have h6 : j = 0 ∨ j = 1 ∨ j = 2 ∨ j = 3 ∨ j = 4 ∨ j = 14 := by omega
    rcases h6 with rfl | rfl | rfl | rfl | rfl | rfl <;> rfl
  · rw [xcp_ne (by decide), xcp_ne (by decide), xcp_ne (by decide), xcp_ne (by decide), xcp_ne (by decide), xcp_ne (by decide), xcp_ne (by decide), xcp_ne (by decide), xcp_at (hj), xpi_ne (fun q => absurd q.1 (by decide)), xpi_ne (fun q => absurd q.1 (by decide)), xpi_ne (fun q => absurd q.1 (by decide)), xpi_ne (fun q => absurd q.1 (by decide)), xpi_ne (fun q => absurd q.1 (by decide)), xpi_ne (fun q => absurd q.1 (by decide))]
  · rw [xcp_ne (by decide), xcp_ne (by decide), xcp_ne (by decide), xcp_ne (by decide), xcp_ne (by decide), xcp_ne (by decide), xcp_ne (by decide), xcp_at (hj), xcp_ne (by decide), xpi_ne (fun q => absurd q.1 (by decide)), xpi_ne (fun q => absurd q.1 (by decide)), xpi_ne (fun q => absurd q.1 (by decide)), xpi_ne (fun q => absurd q.1 (by decide)), xpi_ne (fun q => absurd q.1 (by decide)), xpi_ne (fun q => absurd q.1 (by decide))]
  · rw [xcp_ne (by decide), xcp_ne (by decide), xcp_ne (by decide), xcp_ne (by decide), xcp_ne (by decide), xcp_ne (by decide), xcp_at (hj), xcp_ne (by decide), xcp_ne (by decide), xpi_ne (fun q => absurd q.1 (by decide)), xpi_ne (fun q => absurd q.1 (by decide)), xpi_ne (fun q => absurd q.1 (by decide)), xpi_ne (fun q => absurd q.1 (by decide)), xpi_ne (fun q => absurd q.1 (by decide)), xpi_ne (fun q => absurd q.1 (by decide))]
  · rw [xcp_ne (by decide), xcp_ne (by decide), xcp_ne (by decide), xcp_ne (by decide), xcp_ne (by decide), xcp_at (hj), xcp_ne (by decide), xcp_ne (by decide), xcp_ne (by decide), xpi_ne (fun q => absurd q.1 (by decide)), xpi_ne (fun q => absurd q.1 (by decide)), xpi_ne (fun q => absurd q.1 (by decide)), xpi_ne (fun q => absurd q.1 (by decide)), xpi_ne (fun q => absurd q.1 (by decide)), xpi_ne (fun q => absurd q.1 (by decide))]
  · rw [xcp_ne (by decide), xcp_ne (by decide), xcp_ne (by decide), xcp_ne (by decide), xcp_at (hj), xcp_ne (by decide), xcp_ne (by decide), xcp_ne (by decide), xcp_ne (by decide), xpi_ne (fun q => absurd q.1 (by decide)), xpi_ne (fun q => absurd q.1 (by decide)), xpi_ne (fun q => absurd q.1 (by decide)), xpi_ne (fun q => absurd q.1 (by decide)), xpi_ne (fun q => absurd q.1 (by decide)), xpi_ne (fun q => absurd q.1 (by decide))]
  · rw [xcp_ne (by decide), xcp_ne (by decide), xcp_ne (by decide), xcp_at (hj), xcp_ne (by decide), xcp_ne (by decide), xcp_ne (by decide), xcp_ne (by decide), xcp_ne (by decide), xpi_ne (fun q => absurd q.1 (by decide)), xpi_ne (fun q => absurd q.1 (by decide)), xpi_ne (fun q => absurd q.1 (by decide)), xpi_ne (fun q => absurd q.1 (by decide)), xpi_ne (fun q => absurd q.1 (by decide)), xpi_ne (fun q => absurd q.1 (by decide))]
  · rw [xcp_ne (by decide), xcp_ne (by decide), xcp_at (hj), xcp_ne (by decide), xcp_ne (by decide), xcp_ne (by decide), xcp_ne (by decide), xcp_ne (by decide), xcp_ne (by decide), xpi_ne (fun q => absurd q.1 (by decide)), xpi_ne (fun q => absurd q.1 (by decide)), xpi_ne (fun q => absurd q.1 (by decide)), xpi_ne (fun q => absurd q.1 (by decide)), xpi_ne (fun q => absurd q.1 (by decide)), xpi_ne (fun q => absurd q.1 (by decide))]
  · rw [xcp_ne (by decide), xcp_at (hj), xcp_ne (by decide), xcp_ne (by decide), xcp_ne (by decide), xcp_ne (by decide), xcp_ne (by decide), xcp_ne (by decide), xcp_ne (by decide), xpi_ne (fun q => absurd q.1 (by decide)), xpi_ne (fun q => absurd q.1 (by decide)), xpi_ne (fun q => absurd q.1 (by decide)), xpi_ne (fun q => absurd q.1 (by decide)), xpi_ne (fun q => absurd q.1 (by decide)), xpi_ne (fun q => absurd q.1 (by decide))]
  · rw [xcp_at (hj), xcp_ne (by decide), xcp_ne (by decide), xcp_ne (by decide), xcp_ne (by decide), xcp_ne (by decide), xcp_ne (by decide), xcp_ne (by decide), xcp_ne (by decide), xpi_ne (fun q => absurd q.1 (by decide)), xpi_ne (fun q => absurd q.1 (by decide)), xpi_ne (fun q => absurd q.1 (by decide)), xpi_ne (fun q => absurd q.1 (by decide)), xpi_ne (fun q => absurd q.1 (by decide)), xpi_ne (fun q => absurd q.1 (by decide))]
/-- the class's script stands -/
def cE (μ μ' : xM) : Prop := hOK μ' ∧ ∀ k j, 2 ≤ k → k ≤ 11 → μ'.1 k j = μ.1 k j
noncomputable def cEB (W : hW) : Bool := (List.range 10).all (fun k => hpA W (2 + k))
theorem cE_w {W : hW} {μ μ' : xM} (hk : cEB W = true) (h : hRm (hP W) (hQ W) μ μ') (hO : hOK μ) : cE μ μ' := by
  refine ⟨(h hO).1, fun k j h1 h2 => hSt h hO (by omega) (hpA_ok ?_ j)⟩
  have := List.all_eq_true.mp hk (k - 2) (List.mem_range.mpr (by omega))
  rw [show 2 + (k - 2) = k by omega] at this
  exact this
set_option maxRecDepth 10000 in
set_option maxHeartbeats 4000000 in
theorem kx_cread {lw : Int → kLw} {μ μ' : xM} {r : Option zV} (h0 : Ex gx xq_98 [.inr (.inl (some 0))] μ r μ') (hn : 0 ≤ (μ.1 0 6).toInt ∧ (μ.1 0 6).toInt ≤ 2000) (hO : hOK μ) : ∃ (x : Int32) (ν : xM) (E : Int) (w : Int × Int), r = some (.inl x) ∧ cTV ν E ∧ tkC (kB μ 1) (μ.1 0 6).toInt (cP ν) (cS ν) (cK ν) E ∧ (∀ a, 0 ≤ a → a < E → 2 ≤ cK ν a) ∧ (E < 400 → cK ν E ≤ 1) ∧ w.1 = 0 ∧ x.toInt = (cTx ν 401 0 0 0 [] w).1 ∧ (∀ j, ν.1 1 j = μ.1 1 j) ∧ hOK μ' ∧ (¬ x.toInt = 0 → ∀ k j, 2 ≤ k → k ≤ 11 → μ'.1 k j = μ.1 k j) ∧ (x.toInt = 0 → sC 2 (kText (cK ν) (cT ν) (cV ν) lw 401 0 0 0 kS0) μ' ∧ kWf (kText (cK ν) (cT ν) (cV ν) lw 401 0 0 0 kS0)) := by
  obtain ⟨n, h⟩ := tx_in (L := [some (.inr (.inl (some 0))), none]) h0 rfl
  replace h := tx_aload_n (p' := 1) h em98_0 rfl rfl
  replace h := tx_getc (c := 11) (j := 10) (p' := 4) h em98_1 ((congrFun xo_0 32).trans rfl) rfl rfl rfl
  replace h := tx_aload_n (p' := 5) h em98_4 rfl rfl
  replace h := tx_getf (c := 11) (j := 6) (p' := 8) h em98_5 ((congrFun xo_0 13).trans rfl) rfl rfl (by decide) rfl
  obtain ⟨r8, μ8, hE8, h⟩ := tx_invV (na := 2) (mn := 16) (as := [.inr (.inl (some 12)), .inl (μ.1 0 6)]) (rest := []) (p' := 11) h em98_8 ((congrFun xo_0 113).trans rfl) xm_16 rfl rfl
  have hc8 := cE_w (μ := μ) (by decide +kernel) (hf_16_0 hE8 (hEn0 (by decide)) hO).2 hO
  obtain ⟨x, E, w, rfl, hpq, htv, htC, htK, htE, hw0, hx1, hx2, hx3⟩ := kx_parse (lw := lw) hE8 hn.1 hn.2 hO
  replace h : eT xq_98 _ 11 [some (.inr (.inl (some 0))), none] [.inl x] μ8 r μ' := h
  replace h := tx_istore_n (p' := 12) h em98_11 rfl
  replace h : eT xq_98 _ 12 [some (.inr (.inl (some 0))), some (.inl x)] [] μ8 r μ' := h
  replace h := tx_aload_n (p' := 13) h em98_12 rfl rfl
  replace h := tx_iconst (v := 0) (p' := 14) h em98_13 (by decide +kernel) rfl
  replace h := tx_putf (a := 0) (c := 11) (j := 6) (p' := 17) h em98_14 ((congrFun xo_0 13).trans rfl) rfl
  replace h := tx_aload_n (p' := 18) h em98_17 rfl rfl
  replace h := tx_iload_n (p' := 19) h em98_18 rfl rfl
  rcases tx_if (t := 26) (p' := 22) h em98_19 (by decide) rfl with ⟨c19, h⟩ | ⟨c19, h⟩
  · replace c19 : ¬ x.toInt = 0 := c19
    replace h := tx_aload_n (p' := 27) h em98_26 rfl rfl
    replace h := tx_getc (c := 11) (j := 10) (p' := 30) h em98_27 ((congrFun xo_0 32).trans rfl) rfl rfl rfl
    replace h := tx_getf (c := 2) (j := 5) (p' := 33) h em98_30 ((congrFun xo_0 117).trans rfl) rfl rfl (by decide) rfl
    replace h : eT xq_98 _ 33 [some (.inr (.inl (some 0))), some (.inl x)] [.inl (μ8.1 12 5), .inr (.inl (some 0))] (xpi μ8 0 6 (0 : Int32)) r μ' := h
    replace h := tx_putf (a := 0) (c := 11) (j := 9) (p' := 36) h em98_33 ((congrFun xo_0 17).trans rfl) rfl
    replace h := tx_iload_n (p' := 37) h em98_36 rfl rfl
    rcases tx_if (t := 58) (p' := 40) h em98_37 (by decide) rfl with ⟨c37, h⟩ | ⟨c37, h⟩
    · replace c37 : ¬ x.toInt = 0 := c37
      replace h := tx_iload_n (p' := 59) h em98_58 rfl rfl
      obtain ⟨rfl, hμ⟩ := tx_ireturn h em98_59
      rw [hμ]
      refine ⟨x, μ8, E, w, rfl, htv, htC, htK, htE, hw0, hx1, fun j => hpq.1 1 j (by decide), hc8.1, fun _ k j a b => (xpi_ne (fun q => by omega)).trans ((xpi_ne (fun q => by omega)).trans (hc8.2 k j a b)), fun q => ?_⟩
      exfalso
      omega
    · replace c37 : ¬ ¬ x.toInt = 0 := c37
      replace h := tx_aload_n (p' := 41) h em98_40 rfl rfl
      replace h := tx_getc (c := 11) (j := 0) (p' := 44) h em98_41 ((congrFun xo_0 23).trans rfl) rfl rfl rfl
      replace h := tx_aload_n (p' := 45) h em98_44 rfl rfl
      replace h := tx_getc (c := 11) (j := 10) (p' := 48) h em98_45 ((congrFun xo_0 32).trans rfl) rfl rfl rfl
      replace h := tx_getc (c := 2) (j := 0) (p' := 51) h em98_48 ((congrFun xo_0 120).trans rfl) rfl rfl rfl
      obtain ⟨r51, μ51, hE51, h⟩ := tx_invV (na := 2) (mn := 44) (as := [.inr (.inl (some 2)), .inr (.inl (some 13))]) (rest := []) (p' := 54) h em98_51 ((congrFun xo_0 121).trans rfl) xm_44 rfl rfl
      have hbc := kb_become hE51
      have er51 := ex_void [0, 1, 2, 5, 8, 9, 10, 13, 16, 17, 18, 21, 24, 25, 26, 29, 32, 33, 34, 37, 40, 41, 42, 45, 48, 49, 52, 53, 54, 57, 58, 60, 63, 64, 67, 68, 69, 72, 73, 75, 78, 79, 82, 83, 84, 87, 88, 90, 93, 94, 97, 98, 99, 102, 103, 105, 108, 109, 112, 113, 114, 117, 118, 120, 123, 124, 127, 128, 129, 132, 133, 135, 138, 139, 142, 143, 144, 147, 148, 149, 152, 153, 156, 157, 158, 161, 162, 165, 168, 169, 172, 173, 174, 177, 178, 181, 184, 185] (by decide +kernel) hE51
      subst er51
      replace h : eT xq_98 _ 54 [some (.inr (.inl (some 0))), some (.inl x)] [] μ51 r μ' := h
      replace h := tx_aload_n (p' := 55) h em98_54 rfl rfl
      obtain ⟨r55, μ55, hE55, h⟩ := tx_invV (na := 1) (mn := 74) (as := [.inr (.inl (some 0))]) (rest := []) (p' := 58) h em98_55 ((congrFun xo_0 124).trans rfl) xm_74 rfl rfl
      have hO51 : hOK μ51 := hOK_2 (hbc.1.trans rfl) hc8.1
      have hc55 := cE_w (μ := μ51) (by decide +kernel) (hf_74_0 hE55 (hEn0 (by decide)) hO51).2 hO51
      have er55 := ex_void [0, 1, 4, 5, 8, 11, 12, 15, 16, 19, 20, 23, 24, 27, 28, 29, 30, 31, 34, 35, 38, 39, 40, 41, 44, 47, 48] (by decide +kernel) hE55
      subst er55
      replace h : eT xq_98 _ 58 [some (.inr (.inl (some 0))), some (.inl x)] [] μ55 r μ' := h
      replace h := tx_iload_n (p' := 59) h em98_58 rfl rfl
      obtain ⟨rfl, hμ⟩ := tx_ireturn h em98_59
      rw [hμ]
      refine ⟨x, μ8, E, w, rfl, htv, htC, htK, htE, hw0, hx1, fun j => hpq.1 1 j (by decide), hc55.1, fun q => ?_, fun q => ?_⟩
      · first
          | exact absurd (show x.toInt = 0 by omega) q
          | (exfalso; omega)
      · obtain ⟨k1, k2, k3⟩ := hx3 (hx1.symm.trans q)
        exact ⟨sC_cg (fun k j a b => hc55.2 k j a (by omega)) (bcQ_C k3 hbc (sC_cg (fun k j a b => (xpi_ne (fun q => by omega)).trans (xpi_ne (fun q => by omega))) k2)), k3⟩
  · replace c19 : ¬ ¬ x.toInt = 0 := c19
    replace h := tx_iconst (v := (-1)) (p' := 23) h em98_22 (by decide +kernel) rfl
    replace h := tx_goto (t := 33) h em98_23 (by decide)
    replace h := tx_putf (a := 0) (c := 11) (j := 9) (p' := 36) h em98_33 ((congrFun xo_0 17).trans rfl) rfl
    replace h := tx_iload_n (p' := 37) h em98_36 rfl rfl
    rcases tx_if (t := 58) (p' := 40) h em98_37 (by decide) rfl with ⟨c37_1, h⟩ | ⟨c37_1, h⟩
    · replace c37_1 : ¬ x.toInt = 0 := c37_1
      replace h := tx_iload_n (p' := 59) h em98_58 rfl rfl
      obtain ⟨rfl, hμ⟩ := tx_ireturn h em98_59
      rw [hμ]
      refine ⟨x, μ8, E, w, rfl, htv, htC, htK, htE, hw0, hx1, fun j => hpq.1 1 j (by decide), hc8.1, fun _ k j a b => (xpi_ne (fun q => by omega)).trans ((xpi_ne (fun q => by omega)).trans (hc8.2 k j a b)), fun q => ?_⟩
      exfalso
      omega
    · replace c37_1 : ¬ ¬ x.toInt = 0 := c37_1
      replace h := tx_aload_n (p' := 41) h em98_40 rfl rfl
      replace h := tx_getc (c := 11) (j := 0) (p' := 44) h em98_41 ((congrFun xo_0 23).trans rfl) rfl rfl rfl
      replace h := tx_aload_n (p' := 45) h em98_44 rfl rfl
      replace h := tx_getc (c := 11) (j := 10) (p' := 48) h em98_45 ((congrFun xo_0 32).trans rfl) rfl rfl rfl
      replace h := tx_getc (c := 2) (j := 0) (p' := 51) h em98_48 ((congrFun xo_0 120).trans rfl) rfl rfl rfl
      obtain ⟨r51_1, μ51_1, hE51_1, h⟩ := tx_invV (na := 2) (mn := 44) (as := [.inr (.inl (some 2)), .inr (.inl (some 13))]) (rest := []) (p' := 54) h em98_51 ((congrFun xo_0 121).trans rfl) xm_44 rfl rfl
      have hbc := kb_become hE51_1
      have er51_1 := ex_void [0, 1, 2, 5, 8, 9, 10, 13, 16, 17, 18, 21, 24, 25, 26, 29, 32, 33, 34, 37, 40, 41, 42, 45, 48, 49, 52, 53, 54, 57, 58, 60, 63, 64, 67, 68, 69, 72, 73, 75, 78, 79, 82, 83, 84, 87, 88, 90, 93, 94, 97, 98, 99, 102, 103, 105, 108, 109, 112, 113, 114, 117, 118, 120, 123, 124, 127, 128, 129, 132, 133, 135, 138, 139, 142, 143, 144, 147, 148, 149, 152, 153, 156, 157, 158, 161, 162, 165, 168, 169, 172, 173, 174, 177, 178, 181, 184, 185] (by decide +kernel) hE51_1
      subst er51_1
      replace h : eT xq_98 _ 54 [some (.inr (.inl (some 0))), some (.inl x)] [] μ51_1 r μ' := h
      replace h := tx_aload_n (p' := 55) h em98_54 rfl rfl
      obtain ⟨r55_1, μ55_1, hE55_1, h⟩ := tx_invV (na := 1) (mn := 74) (as := [.inr (.inl (some 0))]) (rest := []) (p' := 58) h em98_55 ((congrFun xo_0 124).trans rfl) xm_74 rfl rfl
      have hO51 : hOK μ51_1 := hOK_2 (hbc.1.trans rfl) hc8.1
      have hc55 := cE_w (μ := μ51_1) (by decide +kernel) (hf_74_0 hE55_1 (hEn0 (by decide)) hO51).2 hO51
      have er55_1 := ex_void [0, 1, 4, 5, 8, 11, 12, 15, 16, 19, 20, 23, 24, 27, 28, 29, 30, 31, 34, 35, 38, 39, 40, 41, 44, 47, 48] (by decide +kernel) hE55_1
      subst er55_1
      replace h : eT xq_98 _ 58 [some (.inr (.inl (some 0))), some (.inl x)] [] μ55_1 r μ' := h
      replace h := tx_iload_n (p' := 59) h em98_58 rfl rfl
      obtain ⟨rfl, hμ⟩ := tx_ireturn h em98_59
      rw [hμ]
      refine ⟨x, μ8, E, w, rfl, htv, htC, htK, htE, hw0, hx1, fun j => hpq.1 1 j (by decide), hc55.1, fun q => ?_, fun q => ?_⟩
      · first
          | exact absurd (show x.toInt = 0 by omega) q
          | (exfalso; omega)
      · obtain ⟨k1, k2, k3⟩ := hx3 (hx1.symm.trans q)
        exact ⟨sC_cg (fun k j a b => hc55.2 k j a (by omega)) (bcQ_C k3 hbc (sC_cg (fun k j a b => (xpi_ne (fun q => by omega)).trans (xpi_ne (fun q => by omega))) k2)), k3⟩
