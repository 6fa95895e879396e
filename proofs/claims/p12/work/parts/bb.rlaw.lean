theorem xsF_m {K : Int → Int} {m : Int} (hm : m ≤ 400) (hK : m < 400 → K m = 0) : ∀ (n : Nat) (a d : Int) (b : Bool), a ≤ m → 0 ≤ (xsF K n a d b).2 ∧ ((xsF K n a d b).2 = 0 → (xsF K n a d b).1 ≤ m ∧ (b = false → a < (xsF K n a d b).1))
  | 0, a, d, b, h => by unfold xsF; exact ⟨by show (0 : Int) ≤ 2; omega, fun q => absurd (show (2 : Int) = 0 from q) (by decide)⟩
  | n + 1, a, d, false, h => by
    have on : ¬ a = 400 → ¬ K a = 0 → a + 1 ≤ m := fun h1 h2 => by
      by_cases e : a = m
      · subst e; exact absurd (hK (by omega)) h2
      · omega
    unfold xsF
    split
    · rename_i c1
      split
      · exact ⟨by show (0 : Int) ≤ 2; omega, fun q => absurd (show (2 : Int) = 0 from q) (by decide)⟩
      · have h1 := on (by omega) (by omega)
        have h2 := xsF_m hm hK n (a + 1) (d + 1) false h1
        have h3 := xsF_at (K := K) n (a + 1) (d + 1) false
        exact ⟨h2.1, fun q => ⟨(h2.2 q).1, fun _ => by omega⟩⟩
    · split
      · rename_i c1 c2
        split
        · exact ⟨by show (0 : Int) ≤ 2; omega, fun q => absurd (show (2 : Int) = 0 from q) (by decide)⟩
        · have h1 := on (by omega) (by omega)
          have h2 := xsF_m hm hK n (a + 1) d true h1
          have h3 := xsF_at (K := K) n (a + 1) d true
          exact ⟨h2.1, fun q => ⟨(h2.2 q).1, fun _ => by omega⟩⟩
      · exact ⟨by show (0 : Int) ≤ 1; omega, fun q => absurd (show (1 : Int) = 0 from q) (by decide)⟩
  | n + 1, a, d, true, h => by
    have on : ¬ a = 400 → ¬ K a = 0 → a + 1 ≤ m := fun h1 h2 => by
      by_cases e : a = m
      · subst e; exact absurd (hK (by omega)) h2
      · omega
    unfold xsF
    split
    · rename_i c1
      split
      · exact ⟨by show (0 : Int) ≤ 2; omega, fun q => absurd (show (2 : Int) = 0 from q) (by decide)⟩
      · have h1 := on (by omega) (by omega)
        have h2 := xsF_m hm hK n (a + 1) (d - 1) true h1
        exact ⟨h2.1, fun q => ⟨(h2.2 q).1, fun q => by cases q⟩⟩
    · split
      · rename_i c1 c2
        split
        · exact ⟨by show (0 : Int) ≤ 2; omega, fun q => absurd (show (2 : Int) = 0 from q) (by decide)⟩
        · have h1 := on (by omega) (by omega)
          have h2 := xsF_m hm hK n (a + 1) d false h1
          exact ⟨h2.1, fun q => ⟨(h2.2 q).1, fun q => by cases q⟩⟩
      · split
        · exact ⟨by show (0 : Int) ≤ 0; omega, fun _ => ⟨h, fun q => by cases q⟩⟩
        · exact ⟨by show (0 : Int) ≤ 1; omega, fun q => absurd (show (1 : Int) = 0 from q) (by decide)⟩
/-- an expression of the reference -/
theorem qz_expr {m : Int} {μ μ' : xM} {r : Option zV} (h0 : Ex gx xq_230 [.inr (.inl (some 75))] μ r μ') (hI : qzI m μ) : r = none ∧ qzN m (pEx (rK μ)) nN μ μ' := by
  obtain ⟨i1, i2, i3⟩ := hI
  by_cases q : rF μ = 0
  · obtain ⟨j1, j2, j3, j4⟩ := i3 q
    obtain ⟨h1, h2, h3, h4⟩ := ex_expr h0 q j1 (by have := i1.1.2; omega) j3
    have h5 := xsF_m (K := rK μ) i1.1.2 i1.2.1 (401 - rT μ).toNat (rT μ) 0 false j2
    have h5 : 0 ≤ (pEx (rK μ) (rT μ)).2 ∧ ((pEx (rK μ) (rT μ)).2 = 0 → (pEx (rK μ) (rT μ)).1 ≤ m ∧ (false = false → rT μ < (pEx (rK μ) (rT μ)).1)) := h5
    have h3 : rO (pEx (rK μ) (rT μ)) μ μ' := h3
    have hW : rW μ' = rW μ := by unfold rW; rw [h2.2.1 29 (by decide) (by decide) (by decide) (by decide) (by decide) (by decide) (by decide), h2.2.1 30 (by decide) (by decide) (by decide) (by decide) (by decide) (by decide) (by decide)]
    have hS := qzS_e h2
    refine ⟨h1, hS, fun g => by omega, fun _ => ⟨h3, fun q2 => ⟨?_, hW⟩⟩, qzS_T hS i1, ?_, fun q2 => ?_⟩
    · rcases h3 with ⟨d1, d2, d3⟩ | ⟨d1, d2, d3⟩
      · have := (h5.2 d1).2 rfl
        omega
      · omega
    · rcases h3 with ⟨d1, d2, d3⟩ | ⟨d1, d2, d3⟩ <;> omega
    · rcases h3 with ⟨d1, d2, d3⟩ | ⟨d1, d2, d3⟩
      · obtain ⟨e1, e2⟩ := h5.2 d1
        have e2 := e2 rfl
        obtain ⟨k1, k2, k3⟩ := h4 q2
        refine ⟨k1, by omega, k3, ?_⟩
        rw [hW, qzS_P hS]
        intro g
        have g1 := j4 g
        have g2 := i1.2.2.2.1 (rT μ) (rT μ') (by omega) (by omega) (by omega)
        omega
      · omega
  · obtain ⟨h1, h2, h3, h4⟩ := ex_expr0 h0 (by omega)
    have hS := qzS_e h2
    exact ⟨h1, hS, fun _ => ⟨h3, h4⟩, fun g => by omega, qzS_T hS i1, by omega, fun g => by omega⟩
/-- a piece that isn't done behind a fault -/
theorem qz_skip {m : Int} {F : pP} {N : Int → Int × Int → Int × Int} {μ : xM} (hI : qzI m μ) (hf : 0 < rF μ) : qzN m F N μ μ := ⟨qzS_rf, fun _ => ⟨rfl, rfl⟩, fun g => by omega, hI⟩
theorem qz_nn {m : Int} {F : pP} {N O : Int → Int × Int → Int × Int} {μ μ' : xM} (h : qzN m F N μ μ') (e : ∀ a w, N a w = O a w) : qzN m F O μ μ' := by
  obtain ⟨b1, b2, b3, b4⟩ := h
  exact ⟨b1, b2, fun q => ⟨(b3 q).1, fun q2 => by rw [← e]; exact (b3 q).2 q2⟩, b4⟩
theorem qz_cg {m : Int} {F G : pP} {N : Int → Int × Int → Int × Int} {μ μ' : xM} (h : qzN m F N μ μ') (e : rF μ = 0 → F (rT μ) = G (rT μ)) : qzN m G N μ μ' := by
  obtain ⟨b1, b2, b3, b4⟩ := h
  refine ⟨b1, b2, fun q => ?_, b4⟩
  rw [← e q]
  exact b3 q
theorem qz_seq0 {m : Int} {F G : pP} {μ ν μ' : xM} (h1 : qzN m F nN μ ν) (h2 : qzN m G nN ν μ') : qzN m (pSeq F G) nN μ μ' := qz_seq h1 h2
theorem pSeq_on {K : Int → Int} {k a : Int} {G : pP} (h : K a = k) : pSeq pOn G a = pSeq (pAcc K k) G a := by
  subst h
  unfold pSeq
  rw [pOn_A]
abbrev xq_227 : xP := (⟨"CapitalCaseModel", "term", "()V"⟩, prog_14_method_34_code, 1, none)
abbrev xq_226 : xP := (⟨"CapitalCaseModel", "tellLaw", "(I)V"⟩, prog_14_method_33_code, 4, none)
set_option maxRecDepth 10000 in
set_option maxHeartbeats 4000000 in
theorem qz_term {m : Int} {μ μ' : xM} {r : Option zV} (h0 : Ex gx xq_227 [.inr (.inl (some 75))] μ r μ') (hI : qzI m μ) : r = none ∧ qzN m (pEx (rK μ)) nN μ μ' := by
  obtain ⟨n, h⟩ := tx_in (L := [some (.inr (.inl (some 75)))]) h0 rfl
  replace h := tx_aload_n (p' := 1) h em227_0 rfl rfl
  replace h := tx_getc (c := 12) (j := 47) (p' := 4) h em227_1 ((congrFun xo_12 89).trans rfl) rfl rfl rfl
  replace h := tx_aload_n (p' := 5) h em227_4 rfl rfl
  replace h := tx_getf (c := 12) (j := 43) (p' := 8) h em227_5 ((congrFun xo_12 239).trans rfl) rfl rfl (by decide) rfl
  replace h := tx_aload_n (p' := 9) h em227_8 rfl rfl
  replace h := tx_getf (c := 12) (j := 49) (p' := 12) h em227_9 ((congrFun xo_12 242).trans rfl) rfl rfl (by decide) rfl
  obtain ⟨hb12, h⟩ := tx_iast (len := 260) (p' := 13) h em227_12 rfl rfl
  replace hb12 : 0 ≤ (μ.1 75 43).toInt ∧ (μ.1 75 43).toInt < 260 := hb12
  replace h := tx_aload_n (p' := 14) h em227_13 rfl rfl
  replace h := tx_getf (c := 12) (j := 27) (p' := 17) h em227_14 ((congrFun xo_12 200).trans rfl) rfl rfl (by decide) rfl
  replace h : eT xq_227 _ 17 [some (.inr (.inl (some 75)))] [.inl (μ.1 75 27)] (xpi μ 99 (μ.1 75 43).toInt.toNat (μ.1 75 49)) r μ' := h
  rcases tx_if (t := 24) (p' := 20) h em227_17 (by decide) rfl with ⟨c17, h⟩ | ⟨c17, h⟩
  · replace c17 : ¬ (μ.1 75 27).toInt = 0 := c17
    replace h := tx_aload_n (p' := 25) h em227_24 rfl rfl
    replace h := tx_getc (c := 12) (j := 48) (p' := 28) h em227_25 ((congrFun xo_12 92).trans rfl) rfl rfl rfl
    replace h := tx_aload_n (p' := 29) h em227_28 rfl rfl
    replace h := tx_getf (c := 12) (j := 43) (p' := 32) h em227_29 ((congrFun xo_12 239).trans rfl) rfl rfl (by decide) rfl
    replace h : eT xq_227 _ 32 [some (.inr (.inl (some 75)))] [.inl (μ.1 75 43), .inr (.inl (some 100))] (xpi μ 99 (μ.1 75 43).toInt.toNat (μ.1 75 49)) r μ' := h
    replace h := tx_aload_n (p' := 33) h em227_32 rfl rfl
    replace h := tx_getf (c := 12) (j := 49) (p' := 36) h em227_33 ((congrFun xo_12 242).trans rfl) rfl rfl (by decide) rfl
    replace h : eT xq_227 _ 36 [some (.inr (.inl (some 75)))] [.inl (μ.1 75 49), .inl (μ.1 75 43), .inr (.inl (some 100))] (xpi μ 99 (μ.1 75 43).toInt.toNat (μ.1 75 49)) r μ' := h
    obtain ⟨hb36, h⟩ := tx_iast (len := 260) (p' := 37) h em227_36 rfl rfl
    replace hb36 : 0 ≤ (μ.1 75 43).toInt ∧ (μ.1 75 43).toInt < 260 := hb36
    replace h := tx_aload_n (p' := 38) h em227_37 rfl rfl
    replace h := tx_dup (p' := 39) h em227_38 rfl
    replace h := tx_getf (c := 12) (j := 43) (p' := 42) h em227_39 ((congrFun xo_12 239).trans rfl) rfl rfl (by decide) rfl
    replace h : eT xq_227 _ 42 [some (.inr (.inl (some 75)))] [.inl (μ.1 75 43), .inr (.inl (some 75))] (xpi (xpi μ 99 (μ.1 75 43).toInt.toNat (μ.1 75 49)) 100 (μ.1 75 43).toInt.toNat (μ.1 75 49)) r μ' := h
    replace h := tx_iconst (v := 1) (p' := 43) h em227_42 (by decide +kernel) rfl
    replace h := tx_iadd (p' := 44) h em227_43 rfl
    replace h := tx_putf (a := 75) (c := 12) (j := 43) (p' := 47) h em227_44 ((congrFun xo_12 239).trans rfl) rfl
    obtain ⟨rfl, hμ⟩ := tx_return h em227_47
    rw [hμ]
    have hf : 0 < rF μ := by have := hI.2.1; unfold rF at *; omega
    exact ⟨rfl, qz_right (qz_skip hI hf) (qzU_f (qzU_c (qzU_c qzU_rf (by decide)) (by decide)) (by omega))⟩
  · replace c17 : ¬ ¬ (μ.1 75 27).toInt = 0 := c17
    replace h := tx_aload_n (p' := 21) h em227_20 rfl rfl
    obtain ⟨r21, μ21, hE21, h⟩ := tx_invV (na := 1) (mn := 230) (as := [.inr (.inl (some 75))]) (rest := []) (p' := 24) h em227_21 ((congrFun xo_12 301).trans rfl) xm_230 rfl rfl
    obtain ⟨rfl, hq21⟩ := qz_expr hE21 (qzU_I (qzU_c qzU_rf (by decide)) hI)
    replace h : eT xq_227 _ 24 [some (.inr (.inl (some 75)))] [] μ21 r μ' := h
    replace h := tx_aload_n (p' := 25) h em227_24 rfl rfl
    replace h := tx_getc (c := 12) (j := 48) (p' := 28) h em227_25 ((congrFun xo_12 92).trans rfl) rfl rfl rfl
    replace h := tx_aload_n (p' := 29) h em227_28 rfl rfl
    replace h := tx_getf (c := 12) (j := 43) (p' := 32) h em227_29 ((congrFun xo_12 239).trans rfl) rfl rfl (by decide) rfl
    replace h := tx_aload_n (p' := 33) h em227_32 rfl rfl
    replace h := tx_getf (c := 12) (j := 49) (p' := 36) h em227_33 ((congrFun xo_12 242).trans rfl) rfl rfl (by decide) rfl
    obtain ⟨hb36_1, h⟩ := tx_iast (len := 260) (p' := 37) h em227_36 rfl rfl
    replace hb36_1 : 0 ≤ (μ21.1 75 43).toInt ∧ (μ21.1 75 43).toInt < 260 := hb36_1
    replace h := tx_aload_n (p' := 38) h em227_37 rfl rfl
    replace h := tx_dup (p' := 39) h em227_38 rfl
    replace h := tx_getf (c := 12) (j := 43) (p' := 42) h em227_39 ((congrFun xo_12 239).trans rfl) rfl rfl (by decide) rfl
    replace h : eT xq_227 _ 42 [some (.inr (.inl (some 75)))] [.inl (μ21.1 75 43), .inr (.inl (some 75))] (xpi μ21 100 (μ21.1 75 43).toInt.toNat (μ21.1 75 49)) r μ' := h
    replace h := tx_iconst (v := 1) (p' := 43) h em227_42 (by decide +kernel) rfl
    replace h := tx_iadd (p' := 44) h em227_43 rfl
    replace h := tx_putf (a := 75) (c := 12) (j := 43) (p' := 47) h em227_44 ((congrFun xo_12 239).trans rfl) rfl
    obtain ⟨rfl, hμ⟩ := tx_return h em227_47
    rw [hμ]
    exact ⟨rfl, qz_right (qz_left (qzU_c qzU_rf (by decide)) hq21) (qzU_f (qzU_c qzU_rf (by decide)) (by omega))⟩
set_option maxRecDepth 10000 in
set_option maxHeartbeats 4000000 in
theorem law_loop {m : Int} {k : Int32} {μ' : xM} {r : Option zV} : ∀ (n : Nat) (f0 ifs : Int32) (mm : Nat) (ω : xM), eT xq_226 n 12 [some (.inr (.inl (some 75))), some (.inl k), some (.inl f0), some (.inl ifs)] [] ω r μ' → 0 ≤ ifs.toInt → ifs.toInt + (mm : Int) = 4 → qzI m ω → r = none ∧ qzN m (wLaw (rK ω) mm) nN ω μ' := by
  have e1i : (1 : Int32).toInt = 1 := by decide
  intro n
  induction n using Nat.strongRecOn with
  | ind n ih =>
  intro f0 ifs mm ω h hi0' hi4 hi0
  have h46 : eT xq_226 n 46 [some (.inr (.inl (some 75))), some (.inl k), some (.inl f0), some (.inl ifs)] [] ω r μ' → rF ω = 0 → rK ω (rT ω) = 137 → ¬ ifs.toInt = 4 → r = none ∧ qzN m (wLaw (rK ω) mm) nN ω μ' := by
      intro h hf0 hk137 hn4
      replace h := tx_iinc (v := 1) (p' := 49) h em226_46 (by decide +kernel) rfl rfl
      replace h : eT xq_226 _ 49 [some (.inr (.inl (some 75))), some (.inl k), some (.inl f0), some (.inl (ifs + 1))] [] ω r μ' := h
      replace h := tx_aload_n (p' := 50) h em226_49 rfl rfl
      obtain ⟨r50, μ50, hE50, h⟩ := tx_invV (na := 1) (mn := 144) (as := [.inr (.inl (some 75))]) (rest := []) (p' := 53) h em226_50 ((congrFun xo_12 221).trans rfl) xm_144 rfl rfl
      obtain ⟨rfl, hq50⟩ := qz_on hE50 (qzU_I qzU_rf hi0) (fun q => by rw [hk137]; decide)
      have hi50 := hq50.2.2.2
      have hs50 := hq50.1
      replace h : eT xq_226 _ 53 [some (.inr (.inl (some 75))), some (.inl k), some (.inl f0), some (.inl (ifs + 1))] [] μ50 r μ' := h
      replace h := tx_aload_n (p' := 54) h em226_53 rfl rfl
      replace h := tx_getc (c := 12) (j := 44) (p' := 57) h em226_54 ((congrFun xo_12 79).trans rfl) rfl rfl rfl
      replace h := tx_aload_n (p' := 58) h em226_57 rfl rfl
      replace h := tx_getf (c := 12) (j := 43) (p' := 61) h em226_58 ((congrFun xo_12 239).trans rfl) rfl rfl (by decide) rfl
      replace h := tx_iconst (v := 1) (p' := 62) h em226_61 (by decide +kernel) rfl
      obtain ⟨hb62, h⟩ := tx_bast (len := 260) (p' := 63) h em226_62 rfl rfl
      replace hb62 : 0 ≤ (μ50.1 75 43).toInt ∧ (μ50.1 75 43).toInt < 260 := hb62
      replace h := tx_aload_n (p' := 64) h em226_63 rfl rfl
      replace h := tx_getc (c := 12) (j := 45) (p' := 67) h em226_64 ((congrFun xo_12 83).trans rfl) rfl rfl rfl
      replace h := tx_aload_n (p' := 68) h em226_67 rfl rfl
      replace h := tx_getf (c := 12) (j := 43) (p' := 71) h em226_68 ((congrFun xo_12 239).trans rfl) rfl rfl (by decide) rfl
      replace h : eT xq_226 _ 71 [some (.inr (.inl (some 75))), some (.inl k), some (.inl f0), some (.inl (ifs + 1))] [.inl (μ50.1 75 43), .inr (.inl (some 97))] (xpi μ50 96 (μ50.1 75 43).toInt.toNat ((1 : Int32)).toInt8.toInt32) r μ' := h
      replace h := tx_aload_n (p' := 72) h em226_71 rfl rfl
      replace h := tx_getf (c := 12) (j := 49) (p' := 75) h em226_72 ((congrFun xo_12 242).trans rfl) rfl rfl (by decide) rfl
      replace h : eT xq_226 _ 75 [some (.inr (.inl (some 75))), some (.inl k), some (.inl f0), some (.inl (ifs + 1))] [.inl (μ50.1 75 49), .inl (μ50.1 75 43), .inr (.inl (some 97))] (xpi μ50 96 (μ50.1 75 43).toInt.toNat ((1 : Int32)).toInt8.toInt32) r μ' := h
      obtain ⟨hb75, h⟩ := tx_iast (len := 260) (p' := 76) h em226_75 rfl rfl
      replace hb75 : 0 ≤ (μ50.1 75 43).toInt ∧ (μ50.1 75 43).toInt < 260 := hb75
      replace h := tx_aload_n (p' := 77) h em226_76 rfl rfl
      obtain ⟨r77, μ77, hE77, h⟩ := tx_invV (na := 1) (mn := 230) (as := [.inr (.inl (some 75))]) (rest := []) (p' := 80) h em226_77 ((congrFun xo_12 301).trans rfl) xm_230 rfl rfl
      obtain ⟨rfl, hq77⟩ := qz_expr hE77 (qzU_I (qzU_c (qzU_c qzU_rf (by decide)) (by decide)) hi50)
      rw [qzS_K (show qzU μ50 (xpi (xpi μ50 96 (μ50.1 75 43).toInt.toNat ((1 : Int32)).toInt8.toInt32) 97 (μ50.1 75 43).toInt.toNat (μ50.1 75 49)) from (qzU_c (qzU_c qzU_rf (by decide)) (by decide))).1] at hq77
      replace hq77 := qz_left (qzU_c (qzU_c qzU_rf (by decide)) (by decide)) hq77
      rw [qzS_K hs50] at hq77
      have hi77 := hq77.2.2.2
      have hs77 := qzS_tr hs50 hq77.1
      replace h : eT xq_226 _ 80 [some (.inr (.inl (some 75))), some (.inl k), some (.inl f0), some (.inl (ifs + 1))] [] μ77 r μ' := h
      replace h := tx_aload_n (p' := 81) h em226_80 rfl rfl
      replace h := tx_bipush (v := 13) (p' := 83) h em226_81 (by decide +kernel) rfl
      obtain ⟨r83, μ83, hE83, h⟩ := tx_invV (na := 2) (mn := 169) (as := [.inr (.inl (some 75)), .inl (13 : Int32)]) (rest := []) (p' := 86) h em226_83 ((congrFun xo_12 258).trans rfl) xm_169 rfl rfl
      obtain ⟨rfl, hq83⟩ := qz_must (k0 := 60) hE83 (qzU_I qzU_rf hi77) (by decide) (by decide)
      rw [qzS_K hs77] at hq83
      have hi83 := hq83.2.2.2
      have hs83 := qzS_tr hs77 hq83.1
      replace h : eT xq_226 _ 86 [some (.inr (.inl (some 75))), some (.inl k), some (.inl f0), some (.inl (ifs + 1))] [] μ83 r μ' := h
      replace h := tx_aload_n (p' := 87) h em226_86 rfl rfl
      replace h := tx_getc (c := 12) (j := 46) (p' := 90) h em226_87 ((congrFun xo_12 86).trans rfl) rfl rfl rfl
      replace h := tx_aload_n (p' := 91) h em226_90 rfl rfl
      replace h := tx_getf (c := 12) (j := 43) (p' := 94) h em226_91 ((congrFun xo_12 239).trans rfl) rfl rfl (by decide) rfl
      replace h := tx_aload_n (p' := 95) h em226_94 rfl rfl
      replace h := tx_getf (c := 12) (j := 49) (p' := 98) h em226_95 ((congrFun xo_12 242).trans rfl) rfl rfl (by decide) rfl
      obtain ⟨hb98, h⟩ := tx_iast (len := 260) (p' := 99) h em226_98 rfl rfl
      replace hb98 : 0 ≤ (μ83.1 75 43).toInt ∧ (μ83.1 75 43).toInt < 260 := hb98
      replace h := tx_aload_n (p' := 100) h em226_99 rfl rfl
      replace h := tx_getf (c := 12) (j := 27) (p' := 103) h em226_100 ((congrFun xo_12 200).trans rfl) rfl rfl (by decide) rfl
      replace h : eT xq_226 _ 103 [some (.inr (.inl (some 75))), some (.inl k), some (.inl f0), some (.inl (ifs + 1))] [.inl (μ83.1 75 27)] (xpi μ83 98 (μ83.1 75 43).toInt.toNat (μ83.1 75 49)) r μ' := h
      rcases tx_if (t := 110) (p' := 106) h em226_103 (by decide) rfl with ⟨c103, h⟩ | ⟨c103, h⟩
      · replace c103 : ¬ (μ83.1 75 27).toInt = 0 := c103
        replace h := tx_aload_n (p' := 111) h em226_110 rfl rfl
        replace h := tx_bipush (v := 30) (p' := 113) h em226_111 (by decide +kernel) rfl
        obtain ⟨r113, μ113, hE113, h⟩ := tx_invV (na := 2) (mn := 169) (as := [.inr (.inl (some 75)), .inl (30 : Int32)]) (rest := []) (p' := 116) h em226_113 ((congrFun xo_12 258).trans rfl) xm_169 rfl rfl
        obtain ⟨rfl, hq113⟩ := qz_must (k0 := 138) hE113 (qzU_I (qzU_c qzU_rf (by decide)) hi83) (by decide) (by decide)
        rw [qzS_K (show qzU μ83 (xpi μ83 98 (μ83.1 75 43).toInt.toNat (μ83.1 75 49)) from (qzU_c qzU_rf (by decide))).1] at hq113
        replace hq113 := qz_left (qzU_c qzU_rf (by decide)) hq113
        rw [qzS_K hs83] at hq113
        have hi113 := hq113.2.2.2
        have hs113 := qzS_tr hs83 hq113.1
        replace h : eT xq_226 _ 116 [some (.inr (.inl (some 75))), some (.inl k), some (.inl f0), some (.inl (ifs + 1))] [] μ113 r μ' := h
        replace h := tx_aload_n (p' := 117) h em226_116 rfl rfl
        obtain ⟨r117, μ117, hE117, h⟩ := tx_invV (na := 1) (mn := 227) (as := [.inr (.inl (some 75))]) (rest := []) (p' := 120) h em226_117 ((congrFun xo_12 304).trans rfl) xm_227 rfl rfl
        obtain ⟨rfl, hq117⟩ := qz_term hE117 (qzU_I qzU_rf hi113)
        rw [qzS_K hs113] at hq117
        have hi117 := hq117.2.2.2
        have hs117 := qzS_tr hs113 hq117.1
        replace h : eT xq_226 _ 120 [some (.inr (.inl (some 75))), some (.inl k), some (.inl f0), some (.inl (ifs + 1))] [] μ117 r μ' := h
        replace h := tx_aload_n (p' := 121) h em226_120 rfl rfl
        replace h := tx_bipush (v := 31) (p' := 123) h em226_121 (by decide +kernel) rfl
        obtain ⟨r123, μ123, hE123, h⟩ := tx_invV (na := 2) (mn := 169) (as := [.inr (.inl (some 75)), .inl (31 : Int32)]) (rest := []) (p' := 126) h em226_123 ((congrFun xo_12 258).trans rfl) xm_169 rfl rfl
        obtain ⟨rfl, hq123⟩ := qz_must (k0 := 139) hE123 (qzU_I qzU_rf hi117) (by decide) (by decide)
        rw [qzS_K hs117] at hq123
        have hi123 := hq123.2.2.2
        have hs123 := qzS_tr hs117 hq123.1
        replace h : eT xq_226 _ 126 [some (.inr (.inl (some 75))), some (.inl k), some (.inl f0), some (.inl (ifs + 1))] [] μ123 r μ' := h
        obtain ⟨n2, hn2, h⟩ := tx_gotoS (t := 12) h em226_126 (by decide)
        have hqsk : qzN m (pEx (rK ω)) nN μ83 μ83 := qz_skip hi83 (by have := hi83.2.1; unfold rF at *; omega)
        obtain ⟨m2, rfl⟩ : ∃ m2, mm = m2 + 1 := ⟨mm - 1, by omega⟩
        have hi1 : (ifs + 1).toInt = ifs.toInt + 1 := by rw [an_add (by rw [e1i]; omega) (by rw [e1i]; omega), e1i]
        obtain ⟨rfl, hrest⟩ := ih n2 hn2 _ _ m2 _ h (by rw [hi1]; omega) (by rw [hi1]; omega) hi123
        rw [qzS_K hs123] at hrest
        refine ⟨rfl, qz_cg (qz_seq0 hq50 (qz_seq0 hq77 (qz_seq0 hq83 (qz_seq0 hqsk (qz_seq0 hq113 (qz_seq0 hq117 (qz_seq0 hq123 hrest))))))) (fun _ => ?_)⟩
        rw [wLaw_if hk137]
        exact pSeq_on hk137
      · replace c103 : ¬ ¬ (μ83.1 75 27).toInt = 0 := c103
        replace h := tx_aload_n (p' := 107) h em226_106 rfl rfl
        obtain ⟨r107, μ107, hE107, h⟩ := tx_invV (na := 1) (mn := 230) (as := [.inr (.inl (some 75))]) (rest := []) (p' := 110) h em226_107 ((congrFun xo_12 301).trans rfl) xm_230 rfl rfl
        obtain ⟨rfl, hq107⟩ := qz_expr hE107 (qzU_I (qzU_c qzU_rf (by decide)) hi83)
        rw [qzS_K (show qzU μ83 (xpi μ83 98 (μ83.1 75 43).toInt.toNat (μ83.1 75 49)) from (qzU_c qzU_rf (by decide))).1] at hq107
        replace hq107 := qz_left (qzU_c qzU_rf (by decide)) hq107
        rw [qzS_K hs83] at hq107
        have hi107 := hq107.2.2.2
        have hs107 := qzS_tr hs83 hq107.1
        replace h : eT xq_226 _ 110 [some (.inr (.inl (some 75))), some (.inl k), some (.inl f0), some (.inl (ifs + 1))] [] μ107 r μ' := h
        replace h := tx_aload_n (p' := 111) h em226_110 rfl rfl
        replace h := tx_bipush (v := 30) (p' := 113) h em226_111 (by decide +kernel) rfl
        obtain ⟨r113_1, μ113_1, hE113_1, h⟩ := tx_invV (na := 2) (mn := 169) (as := [.inr (.inl (some 75)), .inl (30 : Int32)]) (rest := []) (p' := 116) h em226_113 ((congrFun xo_12 258).trans rfl) xm_169 rfl rfl
        obtain ⟨rfl, hq113_1⟩ := qz_must (k0 := 138) hE113_1 (qzU_I qzU_rf hi107) (by decide) (by decide)
        rw [qzS_K hs107] at hq113_1
        have hi113_1 := hq113_1.2.2.2
        have hs113_1 := qzS_tr hs107 hq113_1.1
        replace h : eT xq_226 _ 116 [some (.inr (.inl (some 75))), some (.inl k), some (.inl f0), some (.inl (ifs + 1))] [] μ113_1 r μ' := h
        replace h := tx_aload_n (p' := 117) h em226_116 rfl rfl
        obtain ⟨r117_1, μ117_1, hE117_1, h⟩ := tx_invV (na := 1) (mn := 227) (as := [.inr (.inl (some 75))]) (rest := []) (p' := 120) h em226_117 ((congrFun xo_12 304).trans rfl) xm_227 rfl rfl
        obtain ⟨rfl, hq117_1⟩ := qz_term hE117_1 (qzU_I qzU_rf hi113_1)
        rw [qzS_K hs113_1] at hq117_1
        have hi117_1 := hq117_1.2.2.2
        have hs117_1 := qzS_tr hs113_1 hq117_1.1
        replace h : eT xq_226 _ 120 [some (.inr (.inl (some 75))), some (.inl k), some (.inl f0), some (.inl (ifs + 1))] [] μ117_1 r μ' := h
        replace h := tx_aload_n (p' := 121) h em226_120 rfl rfl
        replace h := tx_bipush (v := 31) (p' := 123) h em226_121 (by decide +kernel) rfl
        obtain ⟨r123_1, μ123_1, hE123_1, h⟩ := tx_invV (na := 2) (mn := 169) (as := [.inr (.inl (some 75)), .inl (31 : Int32)]) (rest := []) (p' := 126) h em226_123 ((congrFun xo_12 258).trans rfl) xm_169 rfl rfl
        obtain ⟨rfl, hq123_1⟩ := qz_must (k0 := 139) hE123_1 (qzU_I qzU_rf hi117_1) (by decide) (by decide)
        rw [qzS_K hs117_1] at hq123_1
        have hi123_1 := hq123_1.2.2.2
        have hs123_1 := qzS_tr hs117_1 hq123_1.1
        replace h : eT xq_226 _ 126 [some (.inr (.inl (some 75))), some (.inl k), some (.inl f0), some (.inl (ifs + 1))] [] μ123_1 r μ' := h
        obtain ⟨n2, hn2, h⟩ := tx_gotoS (t := 12) h em226_126 (by decide)
        obtain ⟨m2, rfl⟩ : ∃ m2, mm = m2 + 1 := ⟨mm - 1, by omega⟩
        have hi1 : (ifs + 1).toInt = ifs.toInt + 1 := by rw [an_add (by rw [e1i]; omega) (by rw [e1i]; omega), e1i]
        obtain ⟨rfl, hrest⟩ := ih n2 hn2 _ _ m2 _ h (by rw [hi1]; omega) (by rw [hi1]; omega) hi123_1
        rw [qzS_K hs123_1] at hrest
        refine ⟨rfl, qz_cg (qz_seq0 hq50 (qz_seq0 hq77 (qz_seq0 hq83 (qz_seq0 hq107 (qz_seq0 hq113_1 (qz_seq0 hq117_1 (qz_seq0 hq123_1 hrest))))))) (fun _ => ?_)⟩
        rw [wLaw_if hk137]
        exact pSeq_on hk137
  have h129 : eT xq_226 n 129 [some (.inr (.inl (some 75))), some (.inl k), some (.inl f0), some (.inl ifs)] [] ω r μ' → (rF ω = 0 → ¬ rK ω (rT ω) = 137) → r = none ∧ qzN m (wLaw (rK ω) mm) nN ω μ' := by
      intro h hkn
      replace h := tx_aload_n (p' := 130) h em226_129 rfl rfl
      replace h := tx_getc (c := 12) (j := 44) (p' := 133) h em226_130 ((congrFun xo_12 79).trans rfl) rfl rfl rfl
      replace h := tx_aload_n (p' := 134) h em226_133 rfl rfl
      replace h := tx_getf (c := 12) (j := 43) (p' := 137) h em226_134 ((congrFun xo_12 239).trans rfl) rfl rfl (by decide) rfl
      replace h := tx_iconst (v := 0) (p' := 138) h em226_137 (by decide +kernel) rfl
      obtain ⟨hb138, h⟩ := tx_bast (len := 260) (p' := 139) h em226_138 rfl rfl
      replace hb138 : 0 ≤ (ω.1 75 43).toInt ∧ (ω.1 75 43).toInt < 260 := hb138
      replace h := tx_aload_n (p' := 140) h em226_139 rfl rfl
      obtain ⟨r140, μ140, hE140, h⟩ := tx_invV (na := 1) (mn := 227) (as := [.inr (.inl (some 75))]) (rest := []) (p' := 143) h em226_140 ((congrFun xo_12 304).trans rfl) xm_227 rfl rfl
      obtain ⟨rfl, hq140⟩ := qz_term hE140 (qzU_I (qzU_c qzU_rf (by decide)) hi0)
      rw [qzS_K (show qzU ω (xpi ω 96 (ω.1 75 43).toInt.toNat ((0 : Int32)).toInt8.toInt32) from (qzU_c qzU_rf (by decide))).1] at hq140
      replace hq140 := qz_left (qzU_c qzU_rf (by decide)) hq140
      have hi140 := hq140.2.2.2
      have hs140 := hq140.1
      replace h : eT xq_226 _ 143 [some (.inr (.inl (some 75))), some (.inl k), some (.inl f0), some (.inl ifs)] [] μ140 r μ' := h
      replace h := tx_aload_n (p' := 144) h em226_143 rfl rfl
      replace h := tx_iconst (v := 4) (p' := 145) h em226_144 (by decide +kernel) rfl
      obtain ⟨r145, μ145, hE145, h⟩ := tx_invV (na := 2) (mn := 169) (as := [.inr (.inl (some 75)), .inl (4 : Int32)]) (rest := []) (p' := 148) h em226_145 ((congrFun xo_12 258).trans rfl) xm_169 rfl rfl
      obtain ⟨rfl, hq145⟩ := qz_must (k0 := 59) hE145 (qzU_I qzU_rf hi140) (by decide) (by decide)
      rw [qzS_K hs140] at hq145
      have hi145 := hq145.2.2.2
      have hs145 := qzS_tr hs140 hq145.1
      replace h : eT xq_226 _ 148 [some (.inr (.inl (some 75))), some (.inl k), some (.inl f0), some (.inl ifs)] [] μ145 r μ' := h
      replace h := tx_aload_n (p' := 149) h em226_148 rfl rfl
      replace h := tx_getf (c := 12) (j := 27) (p' := 152) h em226_149 ((congrFun xo_12 200).trans rfl) rfl rfl (by decide) rfl
      rcases tx_if (t := 156) (p' := 155) h em226_152 (by decide) rfl with ⟨c152, h⟩ | ⟨c152, h⟩
      · replace c152 : (μ145.1 75 27).toInt ≤ 0 := c152
        replace h := tx_aload_n (p' := 157) h em226_156 rfl rfl
        replace h := tx_getc (c := 12) (j := 41) (p' := 160) h em226_157 ((congrFun xo_12 73).trans rfl) rfl rfl rfl
        replace h := tx_iconst (v := 4) (p' := 161) h em226_160 (by decide +kernel) rfl
        replace h := tx_aload_n (p' := 162) h em226_161 rfl rfl
        replace h := tx_getf (c := 12) (j := 32) (p' := 165) h em226_162 ((congrFun xo_12 233).trans rfl) rfl rfl (by decide) rfl
        replace h := tx_imul (p' := 166) h em226_165 rfl
        replace h := tx_iload_n (p' := 167) h em226_166 rfl rfl
        replace h := tx_iadd (p' := 168) h em226_167 rfl
        replace h := tx_iload_n (p' := 169) h em226_168 rfl rfl
        obtain ⟨hb169, h⟩ := tx_iast (len := 8) (p' := 170) h em226_169 rfl rfl
        replace hb169 : 0 ≤ (((4 : Int32) * (μ145.1 75 32)) + k).toInt ∧ (((4 : Int32) * (μ145.1 75 32)) + k).toInt < 8 := hb169
        replace h := tx_aload_n (p' := 171) h em226_170 rfl rfl
        replace h := tx_getc (c := 12) (j := 42) (p' := 174) h em226_171 ((congrFun xo_12 76).trans rfl) rfl rfl rfl
        replace h := tx_iconst (v := 4) (p' := 175) h em226_174 (by decide +kernel) rfl
        replace h := tx_aload_n (p' := 176) h em226_175 rfl rfl
        replace h := tx_getf (c := 12) (j := 32) (p' := 179) h em226_176 ((congrFun xo_12 233).trans rfl) rfl rfl (by decide) rfl
        replace h : eT xq_226 _ 179 [some (.inr (.inl (some 75))), some (.inl k), some (.inl f0), some (.inl ifs)] [.inl (μ145.1 75 32), .inl (4 : Int32), .inr (.inl (some 95))] (xpi μ145 94 (((4 : Int32) * (μ145.1 75 32)) + k).toInt.toNat f0) r μ' := h
        replace h := tx_imul (p' := 180) h em226_179 rfl
        replace h := tx_iload_n (p' := 181) h em226_180 rfl rfl
        replace h := tx_iadd (p' := 182) h em226_181 rfl
        replace h := tx_aload_n (p' := 183) h em226_182 rfl rfl
        replace h := tx_getf (c := 12) (j := 43) (p' := 186) h em226_183 ((congrFun xo_12 239).trans rfl) rfl rfl (by decide) rfl
        replace h : eT xq_226 _ 186 [some (.inr (.inl (some 75))), some (.inl k), some (.inl f0), some (.inl ifs)] [.inl (μ145.1 75 43), .inl (((4 : Int32) * (μ145.1 75 32)) + k), .inr (.inl (some 95))] (xpi μ145 94 (((4 : Int32) * (μ145.1 75 32)) + k).toInt.toNat f0) r μ' := h
        obtain ⟨hb186, h⟩ := tx_iast (len := 8) (p' := 187) h em226_186 rfl rfl
        replace hb186 : 0 ≤ (((4 : Int32) * (μ145.1 75 32)) + k).toInt ∧ (((4 : Int32) * (μ145.1 75 32)) + k).toInt < 8 := hb186
        obtain ⟨rfl, hμ⟩ := tx_return h em226_187
        rw [hμ]
        exact ⟨rfl, qz_cg (qz_right (qz_seq0 hq140 hq145) (qzU_c (qzU_c qzU_rf (by decide)) (by decide))) (fun q => (wLaw_end (hkn q)).symm)⟩
      · replace c152 : ¬ (μ145.1 75 27).toInt ≤ 0 := c152
        obtain ⟨rfl, hμ⟩ := tx_return h em226_155
        rw [hμ]
        exact ⟨rfl, qz_cg (qz_right (qz_seq0 hq140 hq145) qzU_rf) (fun q => (wLaw_end (hkn q)).symm)⟩
  have h12 : eT xq_226 n 12 [some (.inr (.inl (some 75))), some (.inl k), some (.inl f0), some (.inl ifs)] [] ω r μ' → r = none ∧ qzN m (wLaw (rK ω) mm) nN ω μ' := by
      intro h
      replace h := tx_aload_n (p' := 13) h em226_12 rfl rfl
      replace h := tx_getf (c := 12) (j := 27) (p' := 16) h em226_13 ((congrFun xo_12 200).trans rfl) rfl rfl (by decide) rfl
      rcases tx_if (t := 129) (p' := 19) h em226_16 (by decide) rfl with ⟨c16, h⟩ | ⟨c16, h⟩
      · replace c16 : ¬ (ω.1 75 27).toInt = 0 := c16
        exact h129 h (fun q q2 => by unfold rF at q; omega)
      · replace c16 : ¬ ¬ (ω.1 75 27).toInt = 0 := c16
        replace h := tx_aload_n (p' := 20) h em226_19 rfl rfl
        replace h := tx_bipush (v := 29) (p' := 22) h em226_20 (by decide +kernel) rfl
        obtain ⟨r22, μ22, hE22, h⟩ := tx_invV (na := 2) (mn := 149) (as := [.inr (.inl (some 75)), .inl (29 : Int32)]) (rest := []) (p' := 25) h em226_22 ((congrFun xo_12 218).trans rfl) xm_149 rfl rfl
        obtain ⟨hm, ⟨rfl, i221, i222, i223⟩ | ⟨rfl, i221⟩⟩ := ex_is hE22 (by decide)
        · rw [hm] at h
          replace h : eT xq_226 _ 25 [some (.inr (.inl (some 75))), some (.inl k), some (.inl f0), some (.inl ifs)] [.inl (1 : Int32)] ω r μ' := h
          rcases tx_if (t := 129) (p' := 28) h em226_25 (by decide) rfl with ⟨c25, h⟩ | ⟨c25, h⟩
          · replace c25 : (1 : Int) = (0 : Int) := c25
            exfalso
            omega
          · replace c25 : ¬ (1 : Int) = (0 : Int) := c25
            replace h := tx_iload_n (p' := 29) h em226_28 rfl rfl
            replace h := tx_iconst (v := 4) (p' := 30) h em226_29 (by decide +kernel) rfl
            rcases tx_icmp (t := 38) (p' := 33) h em226_30 (by decide) rfl with ⟨c30, h⟩ | ⟨c30, h⟩
            · replace c30 : ¬ ifs.toInt = 4 := c30
              replace h := tx_aload_n (p' := 39) h em226_38 rfl rfl
              replace h := tx_getf (c := 12) (j := 27) (p' := 42) h em226_39 ((congrFun xo_12 200).trans rfl) rfl rfl (by decide) rfl
              rcases tx_if (t := 46) (p' := 45) h em226_42 (by decide) rfl with ⟨c42, h⟩ | ⟨c42, h⟩
              · replace c42 : (ω.1 75 27).toInt ≤ 0 := c42
                exact h46 h i221 (i222.trans (by decide)) (by omega)
              · replace c42 : ¬ (ω.1 75 27).toInt ≤ 0 := c42
                obtain ⟨rfl, hμ⟩ := tx_return h em226_45
                exfalso
                unfold rF at *
                omega
            · replace c30 : ¬ ¬ ifs.toInt = 4 := c30
              replace h := tx_aload_n (p' := 34) h em226_33 rfl rfl
              replace h := tx_iconst (v := 2) (p' := 35) h em226_34 (by decide +kernel) rfl
              obtain ⟨r35, μ35, hE35, h⟩ := tx_invV (na := 2) (mn := 133) (as := [.inr (.inl (some 75)), .inl (2 : Int32)]) (rest := []) (p' := 38) h em226_35 ((congrFun xo_12 215).trans rfl) xm_133 rfl rfl
              obtain ⟨rfl, hq35⟩ := qz_fl (f0 := 2) hE35 hi0 (by decide) (by decide)
              replace h : eT xq_226 _ 38 [some (.inr (.inl (some 75))), some (.inl k), some (.inl f0), some (.inl ifs)] [] μ35 r μ' := h
              replace h := tx_aload_n (p' := 39) h em226_38 rfl rfl
              replace h := tx_getf (c := 12) (j := 27) (p' := 42) h em226_39 ((congrFun xo_12 200).trans rfl) rfl rfl (by decide) rfl
              rcases tx_if (t := 46) (p' := 45) h em226_42 (by decide) rfl with ⟨c42_1, h⟩ | ⟨c42_1, h⟩
              · replace c42_1 : (μ35.1 75 27).toInt ≤ 0 := c42_1
                have k2 : rF μ35 = 2 := by
                  obtain ⟨-, -, g2, -⟩ := hq35
                  rcases (g2 i221).1 with ⟨k1, -⟩ | ⟨-, k2, -⟩
                  · exact absurd (show (2 : Int) = 0 from k1) (by decide)
                  · exact k2
                exfalso
                unfold rF at k2
                omega
              · replace c42_1 : ¬ (μ35.1 75 27).toInt ≤ 0 := c42_1
                obtain ⟨rfl, hμ⟩ := tx_return h em226_45
                have em : mm = 0 := by omega
                subst em
                have hk137 : rK ω (rT ω) = 137 := i222.trans (by decide)
                rw [hμ]
                exact ⟨rfl, qz_cg hq35 (fun _ => (wLaw_full hk137).symm)⟩
        · rw [hm] at h
          replace h : eT xq_226 _ 25 [some (.inr (.inl (some 75))), some (.inl k), some (.inl f0), some (.inl ifs)] [.inl (0 : Int32)] ω r μ' := h
          rcases tx_if (t := 129) (p' := 28) h em226_25 (by decide) rfl with ⟨c25_1, h⟩ | ⟨c25_1, h⟩
          · replace c25_1 : (0 : Int) = (0 : Int) := c25_1
            exact h129 h (fun q q2 => i221 ⟨q, q2.trans (by decide)⟩)
          · replace c25_1 : ¬ (0 : Int) = (0 : Int) := c25_1
            exfalso
            omega
  exact h12 h
set_option maxRecDepth 10000 in
set_option maxHeartbeats 4000000 in
theorem qz_law {k : Int32} {m : Int} {μ μ' : xM} {r : Option zV} (h0 : Ex gx xq_226 [.inr (.inl (some 75)), .inl k] μ r μ') (hi0 : qzI m μ) : r = none ∧ qzN m (pSeq (pAcc (rK μ) 61) (wLaw (rK μ) 4)) nN μ μ' := by
  obtain ⟨n, h⟩ := tx_in (L := [some (.inr (.inl (some 75))), some (.inl k), none, none]) h0 rfl
  replace h := tx_aload_n (p' := 1) h em226_0 rfl rfl
  replace h := tx_iconst (v := 5) (p' := 2) h em226_1 (by decide +kernel) rfl
  obtain ⟨r2, μ2, hE2, h⟩ := tx_invV (na := 2) (mn := 169) (as := [.inr (.inl (some 75)), .inl (5 : Int32)]) (rest := []) (p' := 5) h em226_2 ((congrFun xo_12 258).trans rfl) xm_169 rfl rfl
  obtain ⟨rfl, hq2⟩ := qz_must (k0 := 61) hE2 (qzU_I qzU_rf hi0) (by decide) (by decide)
  have hi2 := hq2.2.2.2
  have hs2 := hq2.1
  replace h : eT xq_226 _ 5 [some (.inr (.inl (some 75))), some (.inl k), none, none] [] μ2 r μ' := h
  replace h := tx_aload_n (p' := 6) h em226_5 rfl rfl
  replace h := tx_getf (c := 12) (j := 43) (p' := 9) h em226_6 ((congrFun xo_12 239).trans rfl) rfl rfl (by decide) rfl
  replace h := tx_istore_n (p' := 10) h em226_9 rfl
  replace h : eT xq_226 _ 10 [some (.inr (.inl (some 75))), some (.inl k), some (.inl (μ2.1 75 43)), none] [] μ2 r μ' := h
  replace h := tx_iconst (v := 0) (p' := 11) h em226_10 (by decide +kernel) rfl
  replace h := tx_istore_n (p' := 12) h em226_11 rfl
  replace h : eT xq_226 _ 12 [some (.inr (.inl (some 75))), some (.inl k), some (.inl (μ2.1 75 43)), some (.inl (0 : Int32))] [] μ2 r μ' := h
  obtain ⟨rfl, hrest⟩ := law_loop _ _ _ 4 _ h (by decide) (by decide) hi2
  rw [qzS_K hs2] at hrest
  exact ⟨rfl, qz_seq0 hq2 hrest⟩
