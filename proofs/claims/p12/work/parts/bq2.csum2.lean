/-! ===== what the class's units, parts and sums print ===== -/
theorem n01 {Q : Prop} (h : (some (.inl 0) : Option zV) = some (.inl 1)) : Q := absurd (Sum.inl.inj (Option.some.inj h)) (by decide)
/-- the steps told so far stand, C comes behind them -/
def aP (μ μ' : xM) (C : List kOp) : Prop := hOK μ' ∧ (μ'.1 13 14).toInt = (μ.1 13 14).toInt + C.length ∧ (∀ j : Nat, (j : Int) < (μ.1 13 14).toInt → μ'.1 21 j = μ.1 21 j ∧ μ'.1 22 j = μ.1 22 j) ∧ ∀ i : Nat, i < C.length → (μ'.1 21 ((μ.1 13 14).toInt.toNat + i)).toInt = (C.getD i (0, 0)).1 ∧ (μ'.1 22 ((μ.1 13 14).toInt.toNat + i)).toInt = (C.getD i (0, 0)).2
theorem aP_s {μ μ' : xM} (h : sE μ μ') : aP μ μ' [] := ⟨h.1, by rw [h.2 13 14 (by decide) (by decide)]; exact (Int.add_zero _).symm, fun j _ => ⟨h.2 21 j (by decide) (by decide), h.2 22 j (by decide) (by decide)⟩, fun i hi => absurd hi (Nat.not_lt_zero i)⟩
theorem aP_tr {μ ν μ' : xM} {C D : List kOp} (h0 : 0 ≤ (μ.1 13 14).toInt) (h1 : aP μ ν C) (h2 : aP ν μ' D) : aP μ μ' (C ++ D) := by
  obtain ⟨a1, a2, a3, a4⟩ := h1
  obtain ⟨b1, b2, b3, b4⟩ := h2
  refine ⟨b1, by rw [b2, a2, List.length_append]; omega, fun j hj => ?_, fun i hi => ?_⟩
  · have x := b3 j (by omega)
    have y := a3 j hj
    exact ⟨x.1.trans y.1, x.2.trans y.2⟩
  · rw [List.length_append] at hi
    by_cases q : i < C.length
    · have x := b3 ((μ.1 13 14).toInt.toNat + i) (by omega)
      have y := a4 i q
      have e : (C ++ D).getD i (0, 0) = C.getD i (0, 0) := by rw [List.getD_eq_getElem?_getD, List.getD_eq_getElem?_getD, List.getElem?_append_left q]
      rw [x.1, x.2, e]
      exact y
    · have x := b4 (i - C.length) (by omega)
      have e : (C ++ D).getD i (0, 0) = D.getD (i - C.length) (0, 0) := by rw [List.getD_eq_getElem?_getD, List.getD_eq_getElem?_getD, List.getElem?_append_right (by omega)]
      rw [show (ν.1 13 14).toInt.toNat + (i - C.length) = (μ.1 13 14).toInt.toNat + i by omega] at x
      rw [e]
      exact x
theorem aP_l {μ ν μ' : xM} {C : List kOp} (h0 : 0 ≤ (μ.1 13 14).toInt) (h1 : sE μ ν) (h2 : aP ν μ' C) : aP μ μ' C := aP_tr h0 (aP_s h1) h2
theorem aP_r {μ ν μ' : xM} {C : List kOp} (h0 : 0 ≤ (μ.1 13 14).toInt) (h1 : aP μ ν C) (h2 : sE ν μ') : aP μ μ' C := by
  have h := aP_tr h0 h1 (aP_s h2)
  rw [List.append_nil] at h
  exact h
/-- a unit, a part, a sum of the class: what it prints -/
def uS2 (q : xP) (d : Int) (k : Nat) (Wc : List Int → Prop) : Prop := ∀ (dd : Int32) (μ μ' : xM), dd.toInt = d → Ex gx q [.inr (.inl (some 12)), .inl dd] μ (some (.inl 1)) μ' → ∀ e : Int, 0 ≤ cA μ → cA μ ≤ e → cTV μ e → hOK μ → (0 ≤ (μ.1 13 14).toInt ∧ (μ.1 13 14).toInt ≤ 8 + cA μ) → ∃ C, aP μ μ' C ∧ (C.length : Int) ≤ cA μ' - cA μ ∧ eOk k C ∧ ∀ w, Wc w → ys (cK μ) (cV μ) (cA μ) d false w = C ++ ys (cK μ) (cV μ) (cA μ') d true w
def wT (w : List Int) : Prop := ∀ x, w.head? = some x → x = 40 ∨ x = 43 ∨ x = 45
def wA (_ : List Int) : Prop := True
theorem pE_Vf {μ ν : xM} (h : pE μ ν) : cV ν = cV μ := gE_V (gE_p h)
set_option maxRecDepth 10000 in
set_option maxHeartbeats 4000000 in
theorem ex_add2 {a b : Int32} {μ μ' : xM} {r : Option zV} (h0 : Ex gx xq_43 [.inr (.inl (some 13)), .inl a, .inl b] μ r μ') (hO : hOK μ) (h0s : 0 ≤ (μ.1 13 14).toInt) : hOK μ' ∧ ((μ.1 13 14).toInt ≤ 407 → aP μ μ' [(a.toInt, b.toInt)]) := by
  obtain ⟨n, h⟩ := tx_in (L := [some (.inr (.inl (some 13))), some (.inl a), some (.inl b)]) h0 rfl
  replace h := tx_aload_n (p' := 1) h em43_0 rfl rfl
  replace h := tx_getf (c := 6) (j := 14) (p' := 4) h em43_1 ((congrFun xo_7 66).trans rfl) rfl rfl (by decide) rfl
  replace h := tx_sipush (v := 408) (p' := 7) h em43_4 (by decide +kernel) rfl
  rcases tx_icmp (t := 40) (p' := 10) h em43_7 (by decide) rfl with ⟨c7, h⟩ | ⟨c7, h⟩
  · replace c7 : 408 ≤ (μ.1 13 14).toInt := c7
    obtain ⟨rfl, hμ⟩ := tx_return h em43_40
    rw [hμ]
    exact ⟨hO, fun q => by exfalso; omega⟩
  · replace c7 : ¬ 408 ≤ (μ.1 13 14).toInt := c7
    replace h := tx_aload_n (p' := 11) h em43_10 rfl rfl
    replace h := tx_getc (c := 6) (j := 12) (p' := 14) h em43_11 ((congrFun xo_7 35).trans rfl) rfl rfl rfl
    replace h := tx_aload_n (p' := 15) h em43_14 rfl rfl
    replace h := tx_getf (c := 6) (j := 14) (p' := 18) h em43_15 ((congrFun xo_7 66).trans rfl) rfl rfl (by decide) rfl
    replace h := tx_iload_n (p' := 19) h em43_18 rfl rfl
    obtain ⟨hb19, h⟩ := tx_iast (len := 408) (p' := 20) h em43_19 rfl rfl
    replace hb19 : (0 : Int) ≤ (μ.1 13 14).toInt ∧ (μ.1 13 14).toInt < 408 := hb19
    replace h := tx_aload_n (p' := 21) h em43_20 rfl rfl
    replace h := tx_getc (c := 6) (j := 13) (p' := 24) h em43_21 ((congrFun xo_7 38).trans rfl) rfl rfl rfl
    replace h := tx_aload_n (p' := 25) h em43_24 rfl rfl
    replace h := tx_getf (c := 6) (j := 14) (p' := 28) h em43_25 ((congrFun xo_7 66).trans rfl) rfl rfl (by decide) rfl
    replace h : eT xq_43 _ 28 [some (.inr (.inl (some 13))), some (.inl a), some (.inl b)] [.inl (μ.1 13 14), .inr (.inl (some 22))] (xpi μ 21 (μ.1 13 14).toInt.toNat a) r μ' := h
    replace h := tx_iload_n (p' := 29) h em43_28 rfl rfl
    obtain ⟨hb29, h⟩ := tx_iast (len := 408) (p' := 30) h em43_29 rfl rfl
    replace hb29 : (0 : Int) ≤ (μ.1 13 14).toInt ∧ (μ.1 13 14).toInt < 408 := hb29
    replace h := tx_aload_n (p' := 31) h em43_30 rfl rfl
    replace h := tx_dup (p' := 32) h em43_31 rfl
    replace h := tx_getf (c := 6) (j := 14) (p' := 35) h em43_32 ((congrFun xo_7 66).trans rfl) rfl rfl (by decide) rfl
    replace h : eT xq_43 _ 35 [some (.inr (.inl (some 13))), some (.inl a), some (.inl b)] [.inl (μ.1 13 14), .inr (.inl (some 13))] (xpi (xpi μ 21 (μ.1 13 14).toInt.toNat a) 22 (μ.1 13 14).toInt.toNat b) r μ' := h
    replace h := tx_iconst (v := 1) (p' := 36) h em43_35 (by decide +kernel) rfl
    replace h := tx_iadd (p' := 37) h em43_36 rfl
    replace h := tx_putf (a := 13) (c := 6) (j := 14) (p' := 40) h em43_37 ((congrFun xo_7 66).trans rfl) rfl
    obtain ⟨rfl, hμ⟩ := tx_return h em43_40
    have e1i : (1 : Int32).toInt = 1 := by decide
    rw [hμ]
    refine ⟨hO, fun _ => ⟨hO, ?_, fun j hj => ⟨?_, ?_⟩, fun i hi => ?_⟩⟩
    · rw [xpi_at, an_add (by rw [e1i]; omega) (by rw [e1i]; omega), e1i]; rfl
    · rw [xpi_ne (fun q => absurd q.1 (by decide)), xpi_ne (fun q => absurd q.1 (by decide)), xpi_ne (fun q => by omega)]
    · rw [xpi_ne (fun q => absurd q.1 (by decide)), xpi_ne (fun q => by omega), xpi_ne (fun q => absurd q.1 (by decide))]
    · have hi : i < 1 := hi
      have e : i = 0 := by omega
      subst e
      rw [Nat.add_zero]
      exact ⟨by rw [xpi_ne (fun q => absurd q.1 (by decide)), xpi_ne (fun q => absurd q.1 (by decide)), xpi_at]; rfl, by rw [xpi_ne (fun q => absurd q.1 (by decide)), xpi_at]; rfl⟩
set_option maxRecDepth 10000 in
set_option maxHeartbeats 4000000 in
theorem unit2 {d : Int} (hd0 : 0 ≤ d) (hd6 : d ≤ 6) (hS1 : d < 6 → uS xq_234 (d + 1) E3) (hS2 : d < 6 → uS2 xq_234 (d + 1) (15 - 2 * (d + 1)).toNat wBot) : uS2 xq_236 d (13 - 2 * d).toNat wA := by
  intro dd μ μ' hdd h0 e ha0 ha ht hO hs0
  obtain ⟨r, hr⟩ : ∃ r : Option zV, r = some (.inl 1) := ⟨_, rfl⟩
  rw [← hr] at h0
  obtain ⟨n, h⟩ := tx_in (L := [some (.inr (.inl (some 12))), some (.inl dd), none]) h0 rfl
  have hG : pE μ μ := pE_rf
  have hT := ht
  have h400 := ht.1
  replace h := tx_aload_n (p' := 1) h em236_0 rfl rfl
  obtain ⟨r1, μ1, hE1, h⟩ := tx_invV (na := 1) (mn := 13) (as := [.inr (.inl (some 12))]) (rest := []) (p' := 4) h em236_1 ((congrFun xo_3 53).trans rfl) xm_13 rfl rfl
  obtain ⟨rfl, hm⟩ := ex_next hE1 (by have := hT.1; omega)
  rw [hm] at h
  replace h : eT xq_236 _ 4 [some (.inr (.inl (some 12))), some (.inl dd), none] [.inl (μ.1 24 (cA μ).toNat)] μ r μ' := h
  replace h := tx_istore_n (p' := 5) h em236_4 rfl
  replace h : eT xq_236 _ 5 [some (.inr (.inl (some 12))), some (.inl dd), some (.inl (μ.1 24 (cA μ).toNat))] [] μ r μ' := h
  replace h := tx_iload_n (p' := 6) h em236_5 rfl rfl
  replace h := tx_bipush (v := 40) (p' := 8) h em236_6 (by decide +kernel) rfl
  rcases tx_icmp (t := 59) (p' := 11) h em236_8 (by decide) rfl with ⟨c8, h⟩ | ⟨c8, h⟩
  · replace c8 : ¬ (μ.1 24 (cA μ).toNat).toInt = 40 := c8
    replace h := tx_iload_n (p' := 60) h em236_59 rfl rfl
    replace h := tx_iconst (v := 3) (p' := 61) h em236_60 (by decide +kernel) rfl
    rcases tx_icmp (t := 90) (p' := 64) h em236_61 (by decide) rfl with ⟨c61, h⟩ | ⟨c61, h⟩
    · replace c61 : ¬ (μ.1 24 (cA μ).toNat).toInt = 3 := c61
      replace h := tx_iload_n (p' := 91) h em236_90 rfl rfl
      replace h := tx_sipush (v := 140) (p' := 94) h em236_91 (by decide +kernel) rfl
      rcases tx_icmp (t := 116) (p' := 97) h em236_94 (by decide) rfl with ⟨c94, h⟩ | ⟨c94, h⟩
      · replace c94 : (μ.1 24 (cA μ).toNat).toInt < 140 := c94
        replace h := tx_aload_n (p' := 117) h em236_116 rfl rfl
        replace h := tx_iconst (v := 1) (p' := 118) h em236_117 (by decide +kernel) rfl
        obtain ⟨r118, μ118, hE118, h⟩ := tx_invV (na := 2) (mn := 10) (as := [.inr (.inl (some 12)), .inl (1 : Int32)]) (rest := []) (p' := 121) h em236_118 ((congrFun xo_3 70).trans rfl) xm_10 rfl rfl
        obtain ⟨rfl, hm⟩ := ex_fail hE118 (by have := hT.1; omega)
        replace h : eT xq_236 _ 121 [some (.inr (.inl (some 12))), some (.inl dd), some (.inl (μ.1 24 (cA μ).toNat))] [.inl (0 : Int32)] μ118 r μ' := h
        obtain ⟨rfl, hμ⟩ := tx_ireturn h em236_121
        exact n01 hr
      · replace c94 : ¬ (μ.1 24 (cA μ).toNat).toInt < 140 := c94
        replace h := tx_aload_n (p' := 98) h em236_97 rfl rfl
        replace h := tx_getc (c := 2) (j := 0) (p' := 101) h em236_98 ((congrFun xo_3 12).trans rfl) rfl rfl rfl
        replace h := tx_iconst (v := 1) (p' := 102) h em236_101 (by decide +kernel) rfl
        replace h := tx_iload_n (p' := 103) h em236_102 rfl rfl
        replace h := tx_sipush (v := 140) (p' := 106) h em236_103 (by decide +kernel) rfl
        replace h := tx_isub (p' := 107) h em236_106 rfl
        obtain ⟨r107, μ107, hE107, h⟩ := tx_invV (na := 3) (mn := 43) (as := [.inr (.inl (some 13)), .inl (1 : Int32), .inl ((μ.1 24 (cA μ).toNat) - (140 : Int32))]) (rest := []) (p' := 110) h em236_107 ((congrFun xo_3 153).trans rfl) xm_43 rfl rfl
        have hS107 := ex_add2 hE107 hO hs0.1
        obtain ⟨rfl, hg107, hb107⟩ := ex_add hE107
        have ha107 : cA μ107 = cA μ := by unfold cA; rw [hb107]
        have hG107 := pE_tr hG hg107
        have hT107 := pE_TV hG107 ht
        replace h : eT xq_236 _ 110 [some (.inr (.inl (some 12))), some (.inl dd), some (.inl (μ.1 24 (cA μ).toNat))] [] μ107 r μ' := h
        replace h := tx_aload_n (p' := 111) h em236_110 rfl rfl
        replace h := tx_iload_n (p' := 112) h em236_111 rfl rfl
        obtain ⟨r112, μ112, hE112, h⟩ := tx_invV (na := 2) (mn := 9) (as := [.inr (.inl (some 12)), .inl (μ.1 24 (cA μ).toNat)]) (rest := []) (p' := 115) h em236_112 ((congrFun xo_3 89).trans rfl) xm_9 rfl rfl
        have hS112 := sE_w (μ := μ107) (by decide +kernel) (hf_9_0 hE112 (hEn0 (by decide)) hS107.1).2 hS107.1
        obtain ⟨hg112, ⟨rfl, a112k, a112m, a112a, a112e, a1124, a1125⟩ | ⟨rfl, a112k, a1124, a1125⟩ | ⟨rfl, a112k, a112m, a1124, a1125⟩⟩ := acc3 hE112 (by omega) (by omega) hT107 (by omega)
        · have hG112 := pE_tr hG107 hg112
          have hT112 := pE_TV hG112 ht
          replace h : eT xq_236 _ 115 [some (.inr (.inl (some 12))), some (.inl dd), some (.inl (μ.1 24 (cA μ).toNat))] [.inl (1 : Int32)] μ112 r μ' := h
          obtain ⟨rfl, hμ⟩ := tx_ireturn h em236_115
          have hku : 140 ≤ cK μ (cA μ) := by unfold cK; omega
          have e140 : (140 : Int32).toInt = 140 := by decide
          have ev : ((μ.1 24 (cA μ).toNat) - (140 : Int32)).toInt = cK μ (cA μ) - 140 := by
            unfold cK at *
            rw [an_sub (by rw [e140]; omega) (by rw [e140]; have := an_hi (μ.1 24 (cA μ).toNat); omega), e140]
          rw [hμ]
          refine ⟨[((1 : Int32).toInt, ((μ.1 24 (cA μ).toNat) - (140 : Int32)).toInt)], aP_r hs0.1 (hS107.2 (by have := ht.1; omega)) hS112, by show (1 : Int) ≤ _; omega, eOk_mono (by omega) eOk_var, fun w _ => ?_⟩
          rw [ys_var ha0 (by omega) hku, show cA μ112 = cA μ + 1 by omega]
          show _ = (_, _) :: _
          rw [ev]
          rfl
        · have hG112 := pE_tr hG107 hg112
          have hT112 := pE_TV hG112 ht
          replace h : eT xq_236 _ 115 [some (.inr (.inl (some 12))), some (.inl dd), some (.inl (μ.1 24 (cA μ).toNat))] [.inl (0 : Int32)] μ112 r μ' := h
          obtain ⟨rfl, hμ⟩ := tx_ireturn h em236_115
          exact n01 hr
        · have hG112 := pE_tr hG107 hg112
          have hT112 := pE_TV hG112 ht
          replace h : eT xq_236 _ 115 [some (.inr (.inl (some 12))), some (.inl dd), some (.inl (μ.1 24 (cA μ).toNat))] [.inl (0 : Int32)] μ112 r μ' := h
          obtain ⟨rfl, hμ⟩ := tx_ireturn h em236_115
          exact n01 hr
    · replace c61 : ¬ ¬ (μ.1 24 (cA μ).toNat).toInt = 3 := c61
      replace h := tx_aload_n (p' := 65) h em236_64 rfl rfl
      replace h := tx_getc (c := 2) (j := 0) (p' := 68) h em236_65 ((congrFun xo_3 12).trans rfl) rfl rfl rfl
      replace h := tx_iconst (v := 0) (p' := 69) h em236_68 (by decide +kernel) rfl
      replace h := tx_aload_n (p' := 70) h em236_69 rfl rfl
      replace h := tx_aload_n (p' := 71) h em236_70 rfl rfl
      replace h := tx_getf (c := 2) (j := 3) (p' := 74) h em236_71 ((congrFun xo_3 40).trans rfl) rfl rfl (by decide) rfl
      replace h := tx_iconst (v := 0) (p' := 75) h em236_74 (by decide +kernel) rfl
      replace h := tx_sipush (v := 9999) (p' := 78) h em236_75 (by decide +kernel) rfl
      obtain ⟨r78, μ78, hE78, h⟩ := tx_invV (na := 4) (mn := 11) (as := [.inr (.inl (some 12)), .inl (μ.1 12 3), .inl (0 : Int32), .inl (9999 : Int32)]) (rest := [.inl (0 : Int32), .inr (.inl (some 13))]) (p' := 81) h em236_78 ((congrFun xo_3 118).trans rfl) xm_11 rfl rfl
      obtain ⟨vv, rfl, hv, hm⟩ := ex_intOf hE78 hT (by show 0 ≤ cA μ; omega) (by show cA μ ≤ e; omega) (by show cK μ (cA μ) = 3; unfold cK; omega)
      have hvb := int4 hT (by show 0 ≤ cA μ; omega) (by show cA μ ≤ e; omega) (by unfold cK; omega)
      replace hm : μ78 = μ := by
        rcases hm with ⟨g1, -, -⟩ | ⟨-, g1⟩
        · exfalso
          have e0 : (0 : Int32).toInt = 0 := by decide
          have e9 : (9999 : Int32).toInt = 9999 := by decide
          replace hv : vv.toInt = cV μ (cA μ) := hv
          omega
        · exact g1
      rw [hm] at h
      replace h : eT xq_236 _ 81 [some (.inr (.inl (some 12))), some (.inl dd), some (.inl (μ.1 24 (cA μ).toNat))] [.inl vv, .inl (0 : Int32), .inr (.inl (some 13))] μ r μ' := h
      obtain ⟨r81, μ81, hE81, h⟩ := tx_invV (na := 3) (mn := 43) (as := [.inr (.inl (some 13)), .inl (0 : Int32), .inl vv]) (rest := []) (p' := 84) h em236_81 ((congrFun xo_3 153).trans rfl) xm_43 rfl rfl
      have hS81 := ex_add2 hE81 hO hs0.1
      obtain ⟨rfl, hg81, hb81⟩ := ex_add hE81
      have ha81 : cA μ81 = cA μ := by unfold cA; rw [hb81]
      have hG81 := pE_tr hG hg81
      have hT81 := pE_TV hG81 ht
      replace h : eT xq_236 _ 84 [some (.inr (.inl (some 12))), some (.inl dd), some (.inl (μ.1 24 (cA μ).toNat))] [] μ81 r μ' := h
      replace h := tx_aload_n (p' := 85) h em236_84 rfl rfl
      replace h := tx_iload_n (p' := 86) h em236_85 rfl rfl
      obtain ⟨r86, μ86, hE86, h⟩ := tx_invV (na := 2) (mn := 9) (as := [.inr (.inl (some 12)), .inl (μ.1 24 (cA μ).toNat)]) (rest := []) (p' := 89) h em236_86 ((congrFun xo_3 89).trans rfl) xm_9 rfl rfl
      have hS86 := sE_w (μ := μ81) (by decide +kernel) (hf_9_0 hE86 (hEn0 (by decide)) hS81.1).2 hS81.1
      obtain ⟨hg86, ⟨rfl, a86k, a86m, a86a, a86e, a864, a865⟩ | ⟨rfl, a86k, a864, a865⟩ | ⟨rfl, a86k, a86m, a864, a865⟩⟩ := acc3 hE86 (by omega) (by omega) hT81 (by omega)
      · have hG86 := pE_tr hG81 hg86
        have hT86 := pE_TV hG86 ht
        replace h : eT xq_236 _ 89 [some (.inr (.inl (some 12))), some (.inl dd), some (.inl (μ.1 24 (cA μ).toNat))] [.inl (1 : Int32)] μ86 r μ' := h
        obtain ⟨rfl, hμ⟩ := tx_ireturn h em236_89
        have hku : cK μ (cA μ) = 3 := by unfold cK; omega
        rw [hμ]
        refine ⟨[((0 : Int32).toInt, vv.toInt)], aP_r hs0.1 (hS81.2 (by have := ht.1; omega)) hS86, by show (1 : Int) ≤ _; omega, eOk_mono (by omega) eOk_int, fun w _ => ?_⟩
        rw [ys_int ha0 (by omega) hku, show cA μ86 = cA μ + 1 by omega]
        show _ = (_, _) :: _
        rw [show vv.toInt = cV μ (cA μ) from hv]
        rfl
      · have hG86 := pE_tr hG81 hg86
        have hT86 := pE_TV hG86 ht
        replace h : eT xq_236 _ 89 [some (.inr (.inl (some 12))), some (.inl dd), some (.inl (μ.1 24 (cA μ).toNat))] [.inl (0 : Int32)] μ86 r μ' := h
        obtain ⟨rfl, hμ⟩ := tx_ireturn h em236_89
        exact n01 hr
      · have hG86 := pE_tr hG81 hg86
        have hT86 := pE_TV hG86 ht
        replace h : eT xq_236 _ 89 [some (.inr (.inl (some 12))), some (.inl dd), some (.inl (μ.1 24 (cA μ).toNat))] [.inl (0 : Int32)] μ86 r μ' := h
        obtain ⟨rfl, hμ⟩ := tx_ireturn h em236_89
        exact n01 hr
  · replace c8 : ¬ ¬ (μ.1 24 (cA μ).toNat).toInt = 40 := c8
    replace h := tx_iload_n (p' := 12) h em236_11 rfl rfl
    replace h := tx_bipush (v := 6) (p' := 14) h em236_12 (by decide +kernel) rfl
    rcases tx_icmp (t := 25) (p' := 17) h em236_14 (by decide) rfl with ⟨c14, h⟩ | ⟨c14, h⟩
    · replace c14 : dd.toInt < 6 := c14
      replace h := tx_aload_n (p' := 26) h em236_25 rfl rfl
      replace h := tx_bipush (v := 40) (p' := 28) h em236_26 (by decide +kernel) rfl
      obtain ⟨r28, μ28, hE28, h⟩ := tx_invV (na := 2) (mn := 9) (as := [.inr (.inl (some 12)), .inl (40 : Int32)]) (rest := []) (p' := 31) h em236_28 ((congrFun xo_3 89).trans rfl) xm_9 rfl rfl
      have hS28 := sE_w (μ := μ) (by decide +kernel) (hf_9_0 hE28 (hEn0 (by decide)) hO).2 hO
      obtain ⟨hg28, ⟨rfl, a28k, a28m, a28a, a28e, a284, a285⟩ | ⟨rfl, a28k, a284, a285⟩ | ⟨rfl, a28k, a28m, a284, a285⟩⟩ := acc3 hE28 (by omega) (by omega) hT (by decide)
      · have hG28 := pE_tr hG hg28
        have hT28 := pE_TV hG28 ht
        replace h : eT xq_236 _ 31 [some (.inr (.inl (some 12))), some (.inl dd), some (.inl (μ.1 24 (cA μ).toNat))] [.inl (1 : Int32)] μ28 r μ' := h
        rcases tx_if (t := 57) (p' := 34) h em236_31 (by decide) rfl with ⟨c31, h⟩ | ⟨c31, h⟩
        · replace c31 : (1 : Int) = (0 : Int) := c31
          exfalso
          omega
        · replace c31 : ¬ (1 : Int) = (0 : Int) := c31
          replace h := tx_aload_n (p' := 35) h em236_34 rfl rfl
          replace h := tx_iload_n (p' := 36) h em236_35 rfl rfl
          replace h := tx_iconst (v := 1) (p' := 37) h em236_36 (by decide +kernel) rfl
          replace h := tx_iadd (p' := 38) h em236_37 rfl
          obtain ⟨r38, μ38, hE38, h⟩ := tx_invV (na := 2) (mn := 234) (as := [.inr (.inl (some 12)), .inl (dd + (1 : Int32))]) (rest := []) (p' := 41) h em236_38 ((congrFun xo_3 150).trans rfl) xm_234 rfl rfl
          obtain ⟨hg38, ⟨rfl, a38l, a38e, a38x, ⟨a384, a385⟩, a38E⟩ | ⟨rfl, p38, f38, a38x, a38f, a384, a385⟩⟩ := hS1 (by omega) _ _ _ _ (by rw [an_add (by rw [show (1 : Int32).toInt = 1 by decide]; omega) (by rw [show (1 : Int32).toInt = 1 by decide]; omega), show (1 : Int32).toInt = 1 by decide, hdd]) hE38 e (by omega) (by omega) hT28
          · have hG38 := pE_tr hG28 hg38
            have hT38 := pE_TV hG38 ht
            obtain ⟨C38, hS38, hl38, hk38, hy38⟩ := hS2 (by omega) _ _ _ (by rw [an_add (by rw [show (1 : Int32).toInt = 1 by decide]; omega) (by rw [show (1 : Int32).toInt = 1 by decide]; omega), show (1 : Int32).toInt = 1 by decide, hdd]) hE38 e (by omega) (by omega) hT28 hS28.1 (by rw [hS28.2 13 14 (by decide) (by decide)]; omega)
            replace h : eT xq_236 _ 41 [some (.inr (.inl (some 12))), some (.inl dd), some (.inl (μ.1 24 (cA μ).toNat))] [.inl (1 : Int32)] μ38 r μ' := h
            rcases tx_if (t := 57) (p' := 44) h em236_41 (by decide) rfl with ⟨c41, h⟩ | ⟨c41, h⟩
            · replace c41 : (1 : Int) = (0 : Int) := c41
              exfalso
              omega
            · replace c41 : ¬ (1 : Int) = (0 : Int) := c41
              replace h := tx_aload_n (p' := 45) h em236_44 rfl rfl
              replace h := tx_bipush (v := 41) (p' := 47) h em236_45 (by decide +kernel) rfl
              obtain ⟨r47, μ47, hE47, h⟩ := tx_invV (na := 2) (mn := 9) (as := [.inr (.inl (some 12)), .inl (41 : Int32)]) (rest := []) (p' := 50) h em236_47 ((congrFun xo_3 89).trans rfl) xm_9 rfl rfl
              have hS47 := sE_w (μ := μ38) (by decide +kernel) (hf_9_0 hE47 (hEn0 (by decide)) hS38.1).2 hS38.1
              obtain ⟨hg47, ⟨rfl, a47k, a47m, a47a, a47e, a474, a475⟩ | ⟨rfl, a47k, a474, a475⟩ | ⟨rfl, a47k, a47m, a474, a475⟩⟩ := acc3 hE47 (by omega) (by omega) hT38 (by decide)
              · have hG47 := pE_tr hG38 hg47
                have hT47 := pE_TV hG47 ht
                replace h : eT xq_236 _ 50 [some (.inr (.inl (some 12))), some (.inl dd), some (.inl (μ.1 24 (cA μ).toNat))] [.inl (1 : Int32)] μ47 r μ' := h
                rcases tx_if (t := 57) (p' := 53) h em236_50 (by decide) rfl with ⟨c50, h⟩ | ⟨c50, h⟩
                · replace c50 : (1 : Int) = (0 : Int) := c50
                  exfalso
                  omega
                · replace c50 : ¬ (1 : Int) = (0 : Int) := c50
                  replace h := tx_iconst (v := 1) (p' := 54) h em236_53 (by decide +kernel) rfl
                  replace h := tx_goto (t := 58) h em236_54 (by decide)
                  obtain ⟨rfl, hμ⟩ := tx_ireturn h em236_58
                  rw [hμ]
                  have hk40 : cK μ (cA μ) = 40 := by unfold cK; omega
                  rw [pE_Kf hG38] at a47k
                  have hk41 : cK μ (cA μ38) = 41 := a47k
                  refine ⟨C38, aP_r hs0.1 (aP_l hs0.1 hS28 hS38) hS47, by omega, by rw [show (13 - 2 * d).toNat = (15 - 2 * (d + 1)).toNat by omega]; exact hk38, fun w _ => ?_⟩
                  have hy := hy38 (40 :: w) (fun x hx => by cases hx; rfl)
                  rw [pE_Kf hG28, pE_Vf hG28, a28a] at hy
                  rw [ys_open ha0 (by omega) hk40 (by omega), hy, ys_close (by omega) (by omega) hk41 (by omega), a47a, show d + 1 - 1 = d by omega]
                  rfl
              · have hG47 := pE_tr hG38 hg47
                have hT47 := pE_TV hG47 ht
                replace h : eT xq_236 _ 50 [some (.inr (.inl (some 12))), some (.inl dd), some (.inl (μ.1 24 (cA μ).toNat))] [.inl (0 : Int32)] μ47 r μ' := h
                rcases tx_if (t := 57) (p' := 53) h em236_50 (by decide) rfl with ⟨c50_1, h⟩ | ⟨c50_1, h⟩
                · replace c50_1 : (0 : Int) = (0 : Int) := c50_1
                  replace h := tx_iconst (v := 0) (p' := 58) h em236_57 (by decide +kernel) rfl
                  obtain ⟨rfl, hμ⟩ := tx_ireturn h em236_58
                  exact n01 hr
                · replace c50_1 : ¬ (0 : Int) = (0 : Int) := c50_1
                  exfalso
                  omega
              · have hG47 := pE_tr hG38 hg47
                have hT47 := pE_TV hG47 ht
                replace h : eT xq_236 _ 50 [some (.inr (.inl (some 12))), some (.inl dd), some (.inl (μ.1 24 (cA μ).toNat))] [.inl (0 : Int32)] μ47 r μ' := h
                rcases tx_if (t := 57) (p' := 53) h em236_50 (by decide) rfl with ⟨c50_2, h⟩ | ⟨c50_2, h⟩
                · replace c50_2 : (0 : Int) = (0 : Int) := c50_2
                  replace h := tx_iconst (v := 0) (p' := 58) h em236_57 (by decide +kernel) rfl
                  obtain ⟨rfl, hμ⟩ := tx_ireturn h em236_58
                  exact n01 hr
                · replace c50_2 : ¬ (0 : Int) = (0 : Int) := c50_2
                  exfalso
                  omega
          · have hG38 := pE_tr hG28 hg38
            have hT38 := pE_TV hG38 ht
            replace h : eT xq_236 _ 41 [some (.inr (.inl (some 12))), some (.inl dd), some (.inl (μ.1 24 (cA μ).toNat))] [.inl (0 : Int32)] μ38 r μ' := h
            rcases tx_if (t := 57) (p' := 44) h em236_41 (by decide) rfl with ⟨c41_1, h⟩ | ⟨c41_1, h⟩
            · replace c41_1 : (0 : Int) = (0 : Int) := c41_1
              replace h := tx_iconst (v := 0) (p' := 58) h em236_57 (by decide +kernel) rfl
              obtain ⟨rfl, hμ⟩ := tx_ireturn h em236_58
              exact n01 hr
            · replace c41_1 : ¬ (0 : Int) = (0 : Int) := c41_1
              exfalso
              omega
      · have hG28 := pE_tr hG hg28
        have hT28 := pE_TV hG28 ht
        replace h : eT xq_236 _ 31 [some (.inr (.inl (some 12))), some (.inl dd), some (.inl (μ.1 24 (cA μ).toNat))] [.inl (0 : Int32)] μ28 r μ' := h
        rcases tx_if (t := 57) (p' := 34) h em236_31 (by decide) rfl with ⟨c31_1, h⟩ | ⟨c31_1, h⟩
        · replace c31_1 : (0 : Int) = (0 : Int) := c31_1
          replace h := tx_iconst (v := 0) (p' := 58) h em236_57 (by decide +kernel) rfl
          obtain ⟨rfl, hμ⟩ := tx_ireturn h em236_58
          exact n01 hr
        · replace c31_1 : ¬ (0 : Int) = (0 : Int) := c31_1
          exfalso
          omega
      · have hG28 := pE_tr hG hg28
        have hT28 := pE_TV hG28 ht
        replace h : eT xq_236 _ 31 [some (.inr (.inl (some 12))), some (.inl dd), some (.inl (μ.1 24 (cA μ).toNat))] [.inl (0 : Int32)] μ28 r μ' := h
        rcases tx_if (t := 57) (p' := 34) h em236_31 (by decide) rfl with ⟨c31_2, h⟩ | ⟨c31_2, h⟩
        · replace c31_2 : (0 : Int) = (0 : Int) := c31_2
          replace h := tx_iconst (v := 0) (p' := 58) h em236_57 (by decide +kernel) rfl
          obtain ⟨rfl, hμ⟩ := tx_ireturn h em236_58
          exact n01 hr
        · replace c31_2 : ¬ (0 : Int) = (0 : Int) := c31_2
          exfalso
          omega
    · replace c14 : ¬ dd.toInt < 6 := c14
      replace h := tx_aload_n (p' := 18) h em236_17 rfl rfl
      replace h := tx_iconst (v := 2) (p' := 19) h em236_18 (by decide +kernel) rfl
      obtain ⟨r19, μ19, hE19, h⟩ := tx_invV (na := 2) (mn := 10) (as := [.inr (.inl (some 12)), .inl (2 : Int32)]) (rest := []) (p' := 22) h em236_19 ((congrFun xo_3 70).trans rfl) xm_10 rfl rfl
      obtain ⟨rfl, hm⟩ := ex_fail hE19 (by have := hT.1; omega)
      replace h : eT xq_236 _ 22 [some (.inr (.inl (some 12))), some (.inl dd), some (.inl (μ.1 24 (cA μ).toNat))] [.inl (0 : Int32)] μ19 r μ' := h
      replace h := tx_goto (t := 58) h em236_22 (by decide)
      obtain ⟨rfl, hμ⟩ := tx_ireturn h em236_58
      exact n01 hr
set_option maxRecDepth 10000 in
set_option maxHeartbeats 4000000 in
theorem part2 {d : Int} (hd0 : 0 ≤ d) (hd6 : d ≤ 6) (hU : uS xq_236 d E1) (hU2 : uS2 xq_236 d (13 - 2 * d).toNat wA) : uS2 xq_235 d (14 - 2 * d).toNat wT := by
  intro dd μ μ' hdd h0 e ha0 ha ht hO hs0
  obtain ⟨r, hr⟩ : ∃ r : Option zV, r = some (.inl 1) := ⟨_, rfl⟩
  rw [← hr] at h0
  obtain ⟨n, h⟩ := tx_in (L := [some (.inr (.inl (some 12))), some (.inl dd), none, none]) h0 rfl
  have hG : pE μ μ := pE_rf
  have hT := ht
  have h400 := ht.1
  have loop : ∀ (n : Nat) (i : Int32) (o : Option zV) (ν : xM), eT xq_235 n 12 [some (.inr (.inl (some 12))), some (.inl dd), some (.inl i), o] [] ν r μ' → r = some (.inl 1) → pE μ ν → cTV ν e → cA μ < cA ν → cA ν ≤ e → 0 ≤ cA ν → 0 ≤ i.toInt → 2 * i.toInt ≤ cA ν → E1 (cK μ (cA ν)) → ∀ C, aP μ ν C → (C.length : Int) ≤ cA ν - cA μ → eOk (14 - 2 * d).toNat C → (∀ w, wT w → ys (cK μ) (cV μ) (cA μ) d false w = C ++ ys (cK μ) (cV μ) (cA ν) d true w) → ∃ C, aP μ μ' C ∧ (C.length : Int) ≤ cA μ' - cA μ ∧ eOk (14 - 2 * d).toNat C ∧ ∀ w, wT w → ys (cK μ) (cV μ) (cA μ) d false w = C ++ ys (cK μ) (cV μ) (cA μ') d true w := by
    intro n
    induction n using Nat.strongRecOn with
    | ind n ih =>
    intro i o ν h hr hG hT hl hle h0a hi0 hi2 hE C hC hCl hCk hCy
    have hTν := hT
    have hGν := hG
    replace h := tx_iload_n (p' := 13) h em235_12 rfl rfl
    replace h := tx_sipush (v := 400) (p' := 16) h em235_13 (by decide +kernel) rfl
    rcases tx_icmp (t := 85) (p' := 19) h em235_16 (by decide) rfl with ⟨c16, h⟩ | ⟨c16, h⟩
    · replace c16 : 400 ≤ i.toInt := c16
      replace h := tx_iconst (v := 1) (p' := 86) h em235_85 (by decide +kernel) rfl
      obtain ⟨rfl, hμ⟩ := tx_ireturn h em235_86
      exfalso
      have := ht.1
      omega
    · replace c16 : ¬ 400 ≤ i.toInt := c16
      replace h := tx_aload_n (p' := 20) h em235_19 rfl rfl
      obtain ⟨r20, μ20, hE20, h⟩ := tx_invV (na := 1) (mn := 13) (as := [.inr (.inl (some 12))]) (rest := []) (p' := 23) h em235_20 ((congrFun xo_3 53).trans rfl) xm_13 rfl rfl
      obtain ⟨rfl, hm⟩ := ex_next hE20 (by have := ht.1; omega)
      rw [hm] at h
      replace h : eT xq_235 _ 23 [some (.inr (.inl (some 12))), some (.inl dd), some (.inl i), o] [.inl (ν.1 24 (cA ν).toNat)] ν r μ' := h
      replace h := tx_bipush (v := 42) (p' := 25) h em235_23 (by decide +kernel) rfl
      rcases tx_icmp (t := 37) (p' := 28) h em235_25 (by decide) rfl with ⟨c25, h⟩ | ⟨c25, h⟩
      · replace c25 : (ν.1 24 (cA ν).toNat).toInt = 42 := c25
        replace h := tx_aload_n (p' := 38) h em235_37 rfl rfl
        obtain ⟨r38, μ38, hE38, h⟩ := tx_invV (na := 1) (mn := 13) (as := [.inr (.inl (some 12))]) (rest := []) (p' := 41) h em235_38 ((congrFun xo_3 53).trans rfl) xm_13 rfl rfl
        obtain ⟨rfl, hm⟩ := ex_next hE38 (by have := ht.1; omega)
        rw [hm] at h
        replace h : eT xq_235 _ 41 [some (.inr (.inl (some 12))), some (.inl dd), some (.inl i), o] [.inl (ν.1 24 (cA ν).toNat)] ν r μ' := h
        replace h := tx_istore_n (p' := 42) h em235_41 rfl
        replace h : eT xq_235 _ 42 [some (.inr (.inl (some 12))), some (.inl dd), some (.inl i), some (.inl (ν.1 24 (cA ν).toNat))] [] ν r μ' := h
        replace h := tx_aload_n (p' := 43) h em235_42 rfl rfl
        replace h := tx_iload_n (p' := 44) h em235_43 rfl rfl
        obtain ⟨r44, μ44, hE44, h⟩ := tx_invV (na := 2) (mn := 9) (as := [.inr (.inl (some 12)), .inl (ν.1 24 (cA ν).toNat)]) (rest := []) (p' := 47) h em235_44 ((congrFun xo_3 89).trans rfl) xm_9 rfl rfl
        have hS44 := sE_w (μ := ν) (by decide +kernel) (hf_9_0 hE44 (hEn0 (by decide)) hC.1).2 hC.1
        obtain ⟨hg44, ⟨rfl, a44k, a44m, a44a, a44e, a444, a445⟩ | ⟨rfl, a44k, a444, a445⟩ | ⟨rfl, a44k, a44m, a444, a445⟩⟩ := acc3 hE44 (by omega) (by omega) hT (by omega)
        · have hG44 := pE_tr hG hg44
          have hT44 := pE_TV hG44 ht
          replace h : eT xq_235 _ 47 [some (.inr (.inl (some 12))), some (.inl dd), some (.inl i), some (.inl (ν.1 24 (cA ν).toNat))] [.inl (1 : Int32)] μ44 r μ' := h
          rcases tx_if (t := 58) (p' := 50) h em235_47 (by decide) rfl with ⟨c47, h⟩ | ⟨c47, h⟩
          · replace c47 : (1 : Int) = (0 : Int) := c47
            exfalso
            omega
          · replace c47 : ¬ (1 : Int) = (0 : Int) := c47
            replace h := tx_aload_n (p' := 51) h em235_50 rfl rfl
            replace h := tx_iload_n (p' := 52) h em235_51 rfl rfl
            obtain ⟨r52, μ52, hE52, h⟩ := tx_invV (na := 2) (mn := 236) (as := [.inr (.inl (some 12)), .inl dd]) (rest := []) (p' := 55) h em235_52 ((congrFun xo_3 166).trans rfl) xm_236 rfl rfl
            obtain ⟨hg52, ⟨rfl, a52l, a52e, a52x, ⟨a524, a525⟩, a52E⟩ | ⟨rfl, p52, f52, a52x, a52f, a524, a525⟩⟩ := hU _ _ _ _ (hdd) hE52 e (by omega) (by omega) hT44
            · have hG52 := pE_tr hG44 hg52
              have hT52 := pE_TV hG52 ht
              obtain ⟨C52, hS52, hl52, hk52, hy52⟩ := hU2 _ _ _ (hdd) hE52 e (by omega) (by omega) hT44 hS44.1 (by rw [hS44.2 13 14 (by decide) (by decide)]; have := hC.2.1; omega)
              replace h : eT xq_235 _ 55 [some (.inr (.inl (some 12))), some (.inl dd), some (.inl i), some (.inl (ν.1 24 (cA ν).toNat))] [.inl (1 : Int32)] μ52 r μ' := h
              rcases tx_if (t := 60) (p' := 58) h em235_55 (by decide) rfl with ⟨c55, h⟩ | ⟨c55, h⟩
              · replace c55 : ¬ (1 : Int) = (0 : Int) := c55
                replace h := tx_aload_n (p' := 61) h em235_60 rfl rfl
                replace h := tx_getc (c := 2) (j := 0) (p' := 64) h em235_61 ((congrFun xo_3 12).trans rfl) rfl rfl rfl
                replace h := tx_iload_n (p' := 65) h em235_64 rfl rfl
                replace h := tx_bipush (v := 42) (p' := 67) h em235_65 (by decide +kernel) rfl
                rcases tx_icmp (t := 74) (p' := 70) h em235_67 (by decide) rfl with ⟨c67, h⟩ | ⟨c67, h⟩
                · replace c67 : ¬ (ν.1 24 (cA ν).toNat).toInt = 42 := c67
                  replace h := tx_iconst (v := 5) (p' := 75) h em235_74 (by decide +kernel) rfl
                  replace h := tx_iconst (v := 0) (p' := 76) h em235_75 (by decide +kernel) rfl
                  obtain ⟨r76, μ76, hE76, h⟩ := tx_invV (na := 3) (mn := 43) (as := [.inr (.inl (some 13)), .inl (5 : Int32), .inl (0 : Int32)]) (rest := []) (p' := 79) h em235_76 ((congrFun xo_3 153).trans rfl) xm_43 rfl rfl
                  have hS76 := ex_add2 hE76 hS52.1 (by have a1 := hS52.2.1; rw [hS44.2 13 14 (by decide) (by decide)] at a1; have := hC.2.1; omega)
                  obtain ⟨rfl, hg76, hb76⟩ := ex_add hE76
                  have ha76 : cA μ76 = cA μ52 := by unfold cA; rw [hb76]
                  have hG76 := pE_tr hG52 hg76
                  have hT76 := pE_TV hG76 ht
                  replace h : eT xq_235 _ 79 [some (.inr (.inl (some 12))), some (.inl dd), some (.inl i), some (.inl (ν.1 24 (cA ν).toNat))] [] μ76 r μ' := h
                  have e1i : (1 : Int32).toInt = 1 := by decide
                  have hi1 : (i + 1).toInt = i.toInt + 1 := by rw [an_add (by rw [e1i]; have := ht.1; omega) (by rw [e1i]; have := ht.1; omega), e1i]
                  replace h := tx_iinc (v := 1) (p' := 82) h em235_79 (by decide +kernel) rfl rfl
                  replace h : eT xq_235 _ 82 [some (.inr (.inl (some 12))), some (.inl dd), some (.inl (i + 1)), some (.inl (ν.1 24 (cA ν).toNat))] [] μ76 r μ' := h
                  obtain ⟨n2, hn2, h⟩ := tx_gotoS (t := 12) h em235_82 (by decide)
                  have k1 := pE_K hG (cA ν)
                  unfold cK at k1
                  have hksg : cK μ (cA ν) = 47 := by unfold cK; omega
                  have hDD := aP_tr (by rw [hS44.2 13 14 (by decide) (by decide)]; have := hC.2.1; omega) hS52 (hS76.2 (by have a1 := hS52.2.1; rw [hS44.2 13 14 (by decide) (by decide)] at a1; have := hC.2.1; have := ht.1; omega))
                  have hCC := aP_tr hs0.1 hC (aP_l (by have := hC.2.1; omega) hS44 hDD)
                  refine ih n2 hn2 _ _ _ h hr hG76 hT76 (by omega) (by omega) (by omega) (by rw [hi1]; omega) (by rw [hi1]; omega) trivial _ hCC ?_ (eOk_bin (by decide) hCk hk52 (by omega) (by omega)) (fun w hw => ?_)
                  · rw [List.length_append, List.length_append]
                    show ((C.length + (C52.length + 1) : Nat) : Int) ≤ _
                    omega
                  · have hy := hy52 (47 :: w) trivial
                    rw [pE_Kf hG44, pE_Vf hG44, a44a] at hy
                    rw [hCy w hw, ys_sign (by omega) (by omega) (by omega), hksg, show isStr 47 = true from rfl, popW_top hw]
                    show C ++ ys (cK μ) (cV μ) (cA ν + 1) d false (47 :: w) = _
                    rw [hy, ys_strong (by omega) (by have := ht.1; omega) (by decide), ha76, List.append_assoc, List.append_assoc]
                    rfl
                · replace c67 : ¬ ¬ (ν.1 24 (cA ν).toNat).toInt = 42 := c67
                  replace h := tx_iconst (v := 4) (p' := 71) h em235_70 (by decide +kernel) rfl
                  replace h := tx_goto (t := 75) h em235_71 (by decide)
                  replace h := tx_iconst (v := 0) (p' := 76) h em235_75 (by decide +kernel) rfl
                  obtain ⟨r76_1, μ76_1, hE76_1, h⟩ := tx_invV (na := 3) (mn := 43) (as := [.inr (.inl (some 13)), .inl (4 : Int32), .inl (0 : Int32)]) (rest := []) (p' := 79) h em235_76 ((congrFun xo_3 153).trans rfl) xm_43 rfl rfl
                  have hS76_1 := ex_add2 hE76_1 hS52.1 (by have a1 := hS52.2.1; rw [hS44.2 13 14 (by decide) (by decide)] at a1; have := hC.2.1; omega)
                  obtain ⟨rfl, hg76_1, hb76_1⟩ := ex_add hE76_1
                  have ha76_1 : cA μ76_1 = cA μ52 := by unfold cA; rw [hb76_1]
                  have hG76_1 := pE_tr hG52 hg76_1
                  have hT76_1 := pE_TV hG76_1 ht
                  replace h : eT xq_235 _ 79 [some (.inr (.inl (some 12))), some (.inl dd), some (.inl i), some (.inl (ν.1 24 (cA ν).toNat))] [] μ76_1 r μ' := h
                  have e1i : (1 : Int32).toInt = 1 := by decide
                  have hi1 : (i + 1).toInt = i.toInt + 1 := by rw [an_add (by rw [e1i]; have := ht.1; omega) (by rw [e1i]; have := ht.1; omega), e1i]
                  replace h := tx_iinc (v := 1) (p' := 82) h em235_79 (by decide +kernel) rfl rfl
                  replace h : eT xq_235 _ 82 [some (.inr (.inl (some 12))), some (.inl dd), some (.inl (i + 1)), some (.inl (ν.1 24 (cA ν).toNat))] [] μ76_1 r μ' := h
                  obtain ⟨n2, hn2, h⟩ := tx_gotoS (t := 12) h em235_82 (by decide)
                  have k1 := pE_K hG (cA ν)
                  unfold cK at k1
                  have hksg : cK μ (cA ν) = 42 := by unfold cK; omega
                  have hDD := aP_tr (by rw [hS44.2 13 14 (by decide) (by decide)]; have := hC.2.1; omega) hS52 (hS76_1.2 (by have a1 := hS52.2.1; rw [hS44.2 13 14 (by decide) (by decide)] at a1; have := hC.2.1; have := ht.1; omega))
                  have hCC := aP_tr hs0.1 hC (aP_l (by have := hC.2.1; omega) hS44 hDD)
                  refine ih n2 hn2 _ _ _ h hr hG76_1 hT76_1 (by omega) (by omega) (by omega) (by rw [hi1]; omega) (by rw [hi1]; omega) trivial _ hCC ?_ (eOk_bin (by decide) hCk hk52 (by omega) (by omega)) (fun w hw => ?_)
                  · rw [List.length_append, List.length_append]
                    show ((C.length + (C52.length + 1) : Nat) : Int) ≤ _
                    omega
                  · have hy := hy52 (42 :: w) trivial
                    rw [pE_Kf hG44, pE_Vf hG44, a44a] at hy
                    rw [hCy w hw, ys_sign (by omega) (by omega) (by omega), hksg, show isStr 42 = true from rfl, popW_top hw]
                    show C ++ ys (cK μ) (cV μ) (cA ν + 1) d false (42 :: w) = _
                    rw [hy, ys_strong (by omega) (by have := ht.1; omega) (by decide), ha76_1, List.append_assoc, List.append_assoc]
                    rfl
              · replace c55 : ¬ ¬ (1 : Int) = (0 : Int) := c55
                exfalso
                omega
            · have hG52 := pE_tr hG44 hg52
              have hT52 := pE_TV hG52 ht
              replace h : eT xq_235 _ 55 [some (.inr (.inl (some 12))), some (.inl dd), some (.inl i), some (.inl (ν.1 24 (cA ν).toNat))] [.inl (0 : Int32)] μ52 r μ' := h
              rcases tx_if (t := 60) (p' := 58) h em235_55 (by decide) rfl with ⟨c55_1, h⟩ | ⟨c55_1, h⟩
              · replace c55_1 : ¬ (0 : Int) = (0 : Int) := c55_1
                exfalso
                omega
              · replace c55_1 : ¬ ¬ (0 : Int) = (0 : Int) := c55_1
                replace h := tx_iconst (v := 0) (p' := 59) h em235_58 (by decide +kernel) rfl
                obtain ⟨rfl, hμ⟩ := tx_ireturn h em235_59
                exact n01 hr
        · have hG44 := pE_tr hG hg44
          have hT44 := pE_TV hG44 ht
          replace h : eT xq_235 _ 47 [some (.inr (.inl (some 12))), some (.inl dd), some (.inl i), some (.inl (ν.1 24 (cA ν).toNat))] [.inl (0 : Int32)] μ44 r μ' := h
          rcases tx_if (t := 58) (p' := 50) h em235_47 (by decide) rfl with ⟨c47_1, h⟩ | ⟨c47_1, h⟩
          · replace c47_1 : (0 : Int) = (0 : Int) := c47_1
            replace h := tx_iconst (v := 0) (p' := 59) h em235_58 (by decide +kernel) rfl
            obtain ⟨rfl, hμ⟩ := tx_ireturn h em235_59
            exact n01 hr
          · replace c47_1 : ¬ (0 : Int) = (0 : Int) := c47_1
            exfalso
            omega
        · have hG44 := pE_tr hG hg44
          have hT44 := pE_TV hG44 ht
          replace h : eT xq_235 _ 47 [some (.inr (.inl (some 12))), some (.inl dd), some (.inl i), some (.inl (ν.1 24 (cA ν).toNat))] [.inl (0 : Int32)] μ44 r μ' := h
          rcases tx_if (t := 58) (p' := 50) h em235_47 (by decide) rfl with ⟨c47_2, h⟩ | ⟨c47_2, h⟩
          · replace c47_2 : (0 : Int) = (0 : Int) := c47_2
            replace h := tx_iconst (v := 0) (p' := 59) h em235_58 (by decide +kernel) rfl
            obtain ⟨rfl, hμ⟩ := tx_ireturn h em235_59
            exact n01 hr
          · replace c47_2 : ¬ (0 : Int) = (0 : Int) := c47_2
            exfalso
            omega
      · replace c25 : ¬ (ν.1 24 (cA ν).toNat).toInt = 42 := c25
        replace h := tx_aload_n (p' := 29) h em235_28 rfl rfl
        obtain ⟨r29, μ29, hE29, h⟩ := tx_invV (na := 1) (mn := 13) (as := [.inr (.inl (some 12))]) (rest := []) (p' := 32) h em235_29 ((congrFun xo_3 53).trans rfl) xm_13 rfl rfl
        obtain ⟨rfl, hm⟩ := ex_next hE29 (by have := ht.1; omega)
        rw [hm] at h
        replace h : eT xq_235 _ 32 [some (.inr (.inl (some 12))), some (.inl dd), some (.inl i), o] [.inl (ν.1 24 (cA ν).toNat)] ν r μ' := h
        replace h := tx_bipush (v := 47) (p' := 34) h em235_32 (by decide +kernel) rfl
        rcases tx_icmp (t := 85) (p' := 37) h em235_34 (by decide) rfl with ⟨c34, h⟩ | ⟨c34, h⟩
        · replace c34 : ¬ (ν.1 24 (cA ν).toNat).toInt = 47 := c34
          replace h := tx_iconst (v := 1) (p' := 86) h em235_85 (by decide +kernel) rfl
          obtain ⟨rfl, hμ⟩ := tx_ireturn h em235_86
          rw [hμ]
          exact ⟨C, hC, hCl, hCk, hCy⟩
        · replace c34 : ¬ ¬ (ν.1 24 (cA ν).toNat).toInt = 47 := c34
          replace h := tx_aload_n (p' := 38) h em235_37 rfl rfl
          obtain ⟨r38_1, μ38_1, hE38_1, h⟩ := tx_invV (na := 1) (mn := 13) (as := [.inr (.inl (some 12))]) (rest := []) (p' := 41) h em235_38 ((congrFun xo_3 53).trans rfl) xm_13 rfl rfl
          obtain ⟨rfl, hm⟩ := ex_next hE38_1 (by have := ht.1; omega)
          rw [hm] at h
          replace h : eT xq_235 _ 41 [some (.inr (.inl (some 12))), some (.inl dd), some (.inl i), o] [.inl (ν.1 24 (cA ν).toNat)] ν r μ' := h
          replace h := tx_istore_n (p' := 42) h em235_41 rfl
          replace h : eT xq_235 _ 42 [some (.inr (.inl (some 12))), some (.inl dd), some (.inl i), some (.inl (ν.1 24 (cA ν).toNat))] [] ν r μ' := h
          replace h := tx_aload_n (p' := 43) h em235_42 rfl rfl
          replace h := tx_iload_n (p' := 44) h em235_43 rfl rfl
          obtain ⟨r44_1, μ44_1, hE44_1, h⟩ := tx_invV (na := 2) (mn := 9) (as := [.inr (.inl (some 12)), .inl (ν.1 24 (cA ν).toNat)]) (rest := []) (p' := 47) h em235_44 ((congrFun xo_3 89).trans rfl) xm_9 rfl rfl
          have hS44_1 := sE_w (μ := ν) (by decide +kernel) (hf_9_0 hE44_1 (hEn0 (by decide)) hC.1).2 hC.1
          obtain ⟨hg44_1, ⟨rfl, a44_1k, a44_1m, a44_1a, a44_1e, a44_14, a44_15⟩ | ⟨rfl, a44_1k, a44_14, a44_15⟩ | ⟨rfl, a44_1k, a44_1m, a44_14, a44_15⟩⟩ := acc3 hE44_1 (by omega) (by omega) hT (by omega)
          · have hG44_1 := pE_tr hG hg44_1
            have hT44_1 := pE_TV hG44_1 ht
            replace h : eT xq_235 _ 47 [some (.inr (.inl (some 12))), some (.inl dd), some (.inl i), some (.inl (ν.1 24 (cA ν).toNat))] [.inl (1 : Int32)] μ44_1 r μ' := h
            rcases tx_if (t := 58) (p' := 50) h em235_47 (by decide) rfl with ⟨c47_3, h⟩ | ⟨c47_3, h⟩
            · replace c47_3 : (1 : Int) = (0 : Int) := c47_3
              exfalso
              omega
            · replace c47_3 : ¬ (1 : Int) = (0 : Int) := c47_3
              replace h := tx_aload_n (p' := 51) h em235_50 rfl rfl
              replace h := tx_iload_n (p' := 52) h em235_51 rfl rfl
              obtain ⟨r52_1, μ52_1, hE52_1, h⟩ := tx_invV (na := 2) (mn := 236) (as := [.inr (.inl (some 12)), .inl dd]) (rest := []) (p' := 55) h em235_52 ((congrFun xo_3 166).trans rfl) xm_236 rfl rfl
              obtain ⟨hg52_1, ⟨rfl, a52_1l, a52_1e, a52_1x, ⟨a52_14, a52_15⟩, a52_1E⟩ | ⟨rfl, p52_1, f52_1, a52_1x, a52_1f, a52_14, a52_15⟩⟩ := hU _ _ _ _ (hdd) hE52_1 e (by omega) (by omega) hT44_1
              · have hG52_1 := pE_tr hG44_1 hg52_1
                have hT52_1 := pE_TV hG52_1 ht
                obtain ⟨C52_1, hS52_1, hl52_1, hk52_1, hy52_1⟩ := hU2 _ _ _ (hdd) hE52_1 e (by omega) (by omega) hT44_1 hS44_1.1 (by rw [hS44_1.2 13 14 (by decide) (by decide)]; have := hC.2.1; omega)
                replace h : eT xq_235 _ 55 [some (.inr (.inl (some 12))), some (.inl dd), some (.inl i), some (.inl (ν.1 24 (cA ν).toNat))] [.inl (1 : Int32)] μ52_1 r μ' := h
                rcases tx_if (t := 60) (p' := 58) h em235_55 (by decide) rfl with ⟨c55_2, h⟩ | ⟨c55_2, h⟩
                · replace c55_2 : ¬ (1 : Int) = (0 : Int) := c55_2
                  replace h := tx_aload_n (p' := 61) h em235_60 rfl rfl
                  replace h := tx_getc (c := 2) (j := 0) (p' := 64) h em235_61 ((congrFun xo_3 12).trans rfl) rfl rfl rfl
                  replace h := tx_iload_n (p' := 65) h em235_64 rfl rfl
                  replace h := tx_bipush (v := 42) (p' := 67) h em235_65 (by decide +kernel) rfl
                  rcases tx_icmp (t := 74) (p' := 70) h em235_67 (by decide) rfl with ⟨c67_1, h⟩ | ⟨c67_1, h⟩
                  · replace c67_1 : ¬ (ν.1 24 (cA ν).toNat).toInt = 42 := c67_1
                    replace h := tx_iconst (v := 5) (p' := 75) h em235_74 (by decide +kernel) rfl
                    replace h := tx_iconst (v := 0) (p' := 76) h em235_75 (by decide +kernel) rfl
                    obtain ⟨r76_2, μ76_2, hE76_2, h⟩ := tx_invV (na := 3) (mn := 43) (as := [.inr (.inl (some 13)), .inl (5 : Int32), .inl (0 : Int32)]) (rest := []) (p' := 79) h em235_76 ((congrFun xo_3 153).trans rfl) xm_43 rfl rfl
                    have hS76_2 := ex_add2 hE76_2 hS52_1.1 (by have a1 := hS52_1.2.1; rw [hS44_1.2 13 14 (by decide) (by decide)] at a1; have := hC.2.1; omega)
                    obtain ⟨rfl, hg76_2, hb76_2⟩ := ex_add hE76_2
                    have ha76_2 : cA μ76_2 = cA μ52_1 := by unfold cA; rw [hb76_2]
                    have hG76_2 := pE_tr hG52_1 hg76_2
                    have hT76_2 := pE_TV hG76_2 ht
                    replace h : eT xq_235 _ 79 [some (.inr (.inl (some 12))), some (.inl dd), some (.inl i), some (.inl (ν.1 24 (cA ν).toNat))] [] μ76_2 r μ' := h
                    have e1i : (1 : Int32).toInt = 1 := by decide
                    have hi1 : (i + 1).toInt = i.toInt + 1 := by rw [an_add (by rw [e1i]; have := ht.1; omega) (by rw [e1i]; have := ht.1; omega), e1i]
                    replace h := tx_iinc (v := 1) (p' := 82) h em235_79 (by decide +kernel) rfl rfl
                    replace h : eT xq_235 _ 82 [some (.inr (.inl (some 12))), some (.inl dd), some (.inl (i + 1)), some (.inl (ν.1 24 (cA ν).toNat))] [] μ76_2 r μ' := h
                    obtain ⟨n2, hn2, h⟩ := tx_gotoS (t := 12) h em235_82 (by decide)
                    have k1 := pE_K hG (cA ν)
                    unfold cK at k1
                    have hksg : cK μ (cA ν) = 47 := by unfold cK; omega
                    have hDD := aP_tr (by rw [hS44_1.2 13 14 (by decide) (by decide)]; have := hC.2.1; omega) hS52_1 (hS76_2.2 (by have a1 := hS52_1.2.1; rw [hS44_1.2 13 14 (by decide) (by decide)] at a1; have := hC.2.1; have := ht.1; omega))
                    have hCC := aP_tr hs0.1 hC (aP_l (by have := hC.2.1; omega) hS44_1 hDD)
                    refine ih n2 hn2 _ _ _ h hr hG76_2 hT76_2 (by omega) (by omega) (by omega) (by rw [hi1]; omega) (by rw [hi1]; omega) trivial _ hCC ?_ (eOk_bin (by decide) hCk hk52_1 (by omega) (by omega)) (fun w hw => ?_)
                    · rw [List.length_append, List.length_append]
                      show ((C.length + (C52_1.length + 1) : Nat) : Int) ≤ _
                      omega
                    · have hy := hy52_1 (47 :: w) trivial
                      rw [pE_Kf hG44_1, pE_Vf hG44_1, a44_1a] at hy
                      rw [hCy w hw, ys_sign (by omega) (by omega) (by omega), hksg, show isStr 47 = true from rfl, popW_top hw]
                      show C ++ ys (cK μ) (cV μ) (cA ν + 1) d false (47 :: w) = _
                      rw [hy, ys_strong (by omega) (by have := ht.1; omega) (by decide), ha76_2, List.append_assoc, List.append_assoc]
                      rfl
                  · replace c67_1 : ¬ ¬ (ν.1 24 (cA ν).toNat).toInt = 42 := c67_1
                    replace h := tx_iconst (v := 4) (p' := 71) h em235_70 (by decide +kernel) rfl
                    replace h := tx_goto (t := 75) h em235_71 (by decide)
                    replace h := tx_iconst (v := 0) (p' := 76) h em235_75 (by decide +kernel) rfl
                    obtain ⟨r76_3, μ76_3, hE76_3, h⟩ := tx_invV (na := 3) (mn := 43) (as := [.inr (.inl (some 13)), .inl (4 : Int32), .inl (0 : Int32)]) (rest := []) (p' := 79) h em235_76 ((congrFun xo_3 153).trans rfl) xm_43 rfl rfl
                    have hS76_3 := ex_add2 hE76_3 hS52_1.1 (by have a1 := hS52_1.2.1; rw [hS44_1.2 13 14 (by decide) (by decide)] at a1; have := hC.2.1; omega)
                    obtain ⟨rfl, hg76_3, hb76_3⟩ := ex_add hE76_3
                    have ha76_3 : cA μ76_3 = cA μ52_1 := by unfold cA; rw [hb76_3]
                    have hG76_3 := pE_tr hG52_1 hg76_3
                    have hT76_3 := pE_TV hG76_3 ht
                    replace h : eT xq_235 _ 79 [some (.inr (.inl (some 12))), some (.inl dd), some (.inl i), some (.inl (ν.1 24 (cA ν).toNat))] [] μ76_3 r μ' := h
                    have e1i : (1 : Int32).toInt = 1 := by decide
                    have hi1 : (i + 1).toInt = i.toInt + 1 := by rw [an_add (by rw [e1i]; have := ht.1; omega) (by rw [e1i]; have := ht.1; omega), e1i]
                    replace h := tx_iinc (v := 1) (p' := 82) h em235_79 (by decide +kernel) rfl rfl
                    replace h : eT xq_235 _ 82 [some (.inr (.inl (some 12))), some (.inl dd), some (.inl (i + 1)), some (.inl (ν.1 24 (cA ν).toNat))] [] μ76_3 r μ' := h
                    obtain ⟨n2, hn2, h⟩ := tx_gotoS (t := 12) h em235_82 (by decide)
                    have k1 := pE_K hG (cA ν)
                    unfold cK at k1
                    have hksg : cK μ (cA ν) = 42 := by unfold cK; omega
                    have hDD := aP_tr (by rw [hS44_1.2 13 14 (by decide) (by decide)]; have := hC.2.1; omega) hS52_1 (hS76_3.2 (by have a1 := hS52_1.2.1; rw [hS44_1.2 13 14 (by decide) (by decide)] at a1; have := hC.2.1; have := ht.1; omega))
                    have hCC := aP_tr hs0.1 hC (aP_l (by have := hC.2.1; omega) hS44_1 hDD)
                    refine ih n2 hn2 _ _ _ h hr hG76_3 hT76_3 (by omega) (by omega) (by omega) (by rw [hi1]; omega) (by rw [hi1]; omega) trivial _ hCC ?_ (eOk_bin (by decide) hCk hk52_1 (by omega) (by omega)) (fun w hw => ?_)
                    · rw [List.length_append, List.length_append]
                      show ((C.length + (C52_1.length + 1) : Nat) : Int) ≤ _
                      omega
                    · have hy := hy52_1 (42 :: w) trivial
                      rw [pE_Kf hG44_1, pE_Vf hG44_1, a44_1a] at hy
                      rw [hCy w hw, ys_sign (by omega) (by omega) (by omega), hksg, show isStr 42 = true from rfl, popW_top hw]
                      show C ++ ys (cK μ) (cV μ) (cA ν + 1) d false (42 :: w) = _
                      rw [hy, ys_strong (by omega) (by have := ht.1; omega) (by decide), ha76_3, List.append_assoc, List.append_assoc]
                      rfl
                · replace c55_2 : ¬ ¬ (1 : Int) = (0 : Int) := c55_2
                  exfalso
                  omega
              · have hG52_1 := pE_tr hG44_1 hg52_1
                have hT52_1 := pE_TV hG52_1 ht
                replace h : eT xq_235 _ 55 [some (.inr (.inl (some 12))), some (.inl dd), some (.inl i), some (.inl (ν.1 24 (cA ν).toNat))] [.inl (0 : Int32)] μ52_1 r μ' := h
                rcases tx_if (t := 60) (p' := 58) h em235_55 (by decide) rfl with ⟨c55_3, h⟩ | ⟨c55_3, h⟩
                · replace c55_3 : ¬ (0 : Int) = (0 : Int) := c55_3
                  exfalso
                  omega
                · replace c55_3 : ¬ ¬ (0 : Int) = (0 : Int) := c55_3
                  replace h := tx_iconst (v := 0) (p' := 59) h em235_58 (by decide +kernel) rfl
                  obtain ⟨rfl, hμ⟩ := tx_ireturn h em235_59
                  exact n01 hr
          · have hG44_1 := pE_tr hG hg44_1
            have hT44_1 := pE_TV hG44_1 ht
            replace h : eT xq_235 _ 47 [some (.inr (.inl (some 12))), some (.inl dd), some (.inl i), some (.inl (ν.1 24 (cA ν).toNat))] [.inl (0 : Int32)] μ44_1 r μ' := h
            rcases tx_if (t := 58) (p' := 50) h em235_47 (by decide) rfl with ⟨c47_4, h⟩ | ⟨c47_4, h⟩
            · replace c47_4 : (0 : Int) = (0 : Int) := c47_4
              replace h := tx_iconst (v := 0) (p' := 59) h em235_58 (by decide +kernel) rfl
              obtain ⟨rfl, hμ⟩ := tx_ireturn h em235_59
              exact n01 hr
            · replace c47_4 : ¬ (0 : Int) = (0 : Int) := c47_4
              exfalso
              omega
          · have hG44_1 := pE_tr hG hg44_1
            have hT44_1 := pE_TV hG44_1 ht
            replace h : eT xq_235 _ 47 [some (.inr (.inl (some 12))), some (.inl dd), some (.inl i), some (.inl (ν.1 24 (cA ν).toNat))] [.inl (0 : Int32)] μ44_1 r μ' := h
            rcases tx_if (t := 58) (p' := 50) h em235_47 (by decide) rfl with ⟨c47_5, h⟩ | ⟨c47_5, h⟩
            · replace c47_5 : (0 : Int) = (0 : Int) := c47_5
              replace h := tx_iconst (v := 0) (p' := 59) h em235_58 (by decide +kernel) rfl
              obtain ⟨rfl, hμ⟩ := tx_ireturn h em235_59
              exact n01 hr
            · replace c47_5 : ¬ (0 : Int) = (0 : Int) := c47_5
              exfalso
              omega
  replace h := tx_aload_n (p' := 1) h em235_0 rfl rfl
  replace h := tx_iload_n (p' := 2) h em235_1 rfl rfl
  obtain ⟨r2, μ2, hE2, h⟩ := tx_invV (na := 2) (mn := 236) (as := [.inr (.inl (some 12)), .inl dd]) (rest := []) (p' := 5) h em235_2 ((congrFun xo_3 166).trans rfl) xm_236 rfl rfl
  obtain ⟨hg2, ⟨rfl, a2l, a2e, a2x, ⟨a24, a25⟩, a2E⟩ | ⟨rfl, p2, f2, a2x, a2f, a24, a25⟩⟩ := hU _ _ _ _ (hdd) hE2 e (by omega) (by omega) hT
  · have hG2 := pE_tr hG hg2
    have hT2 := pE_TV hG2 ht
    obtain ⟨C2, hS2, hl2, hk2, hy2⟩ := hU2 _ _ _ (hdd) hE2 e (by omega) (by omega) hT hO (hs0)
    replace h : eT xq_235 _ 5 [some (.inr (.inl (some 12))), some (.inl dd), none, none] [.inl (1 : Int32)] μ2 r μ' := h
    rcases tx_if (t := 10) (p' := 8) h em235_5 (by decide) rfl with ⟨c5, h⟩ | ⟨c5, h⟩
    · replace c5 : ¬ (1 : Int) = (0 : Int) := c5
      replace h := tx_iconst (v := 0) (p' := 11) h em235_10 (by decide +kernel) rfl
      replace h := tx_istore_n (p' := 12) h em235_11 rfl
      replace h : eT xq_235 _ 12 [some (.inr (.inl (some 12))), some (.inl dd), some (.inl (0 : Int32)), none] [] μ2 r μ' := h
      exact loop _ _ _ _ h hr hG2 hT2 a2l a2e (by omega) (by decide) (by show 2 * (0 : Int) ≤ _; omega) a2E C2 hS2 (by omega) (eOk_mono (by omega) hk2) (fun w hw => hy2 w trivial)
    · replace c5 : ¬ ¬ (1 : Int) = (0 : Int) := c5
      exfalso
      omega
  · have hG2 := pE_tr hG hg2
    have hT2 := pE_TV hG2 ht
    replace h : eT xq_235 _ 5 [some (.inr (.inl (some 12))), some (.inl dd), none, none] [.inl (0 : Int32)] μ2 r μ' := h
    rcases tx_if (t := 10) (p' := 8) h em235_5 (by decide) rfl with ⟨c5_1, h⟩ | ⟨c5_1, h⟩
    · replace c5_1 : ¬ (0 : Int) = (0 : Int) := c5_1
      exfalso
      omega
    · replace c5_1 : ¬ ¬ (0 : Int) = (0 : Int) := c5_1
      replace h := tx_iconst (v := 0) (p' := 9) h em235_8 (by decide +kernel) rfl
      obtain ⟨rfl, hμ⟩ := tx_ireturn h em235_9
      exact n01 hr
set_option maxRecDepth 10000 in
set_option maxHeartbeats 4000000 in
theorem sum2 {d : Int} (hd0 : 0 ≤ d) (hd6 : d ≤ 6) (hU : uS xq_235 d E2) (hU2 : uS2 xq_235 d (14 - 2 * d).toNat wT) : uS2 xq_234 d (15 - 2 * d).toNat wBot := by
  intro dd μ μ' hdd h0 e ha0 ha ht hO hs0
  obtain ⟨r, hr⟩ : ∃ r : Option zV, r = some (.inl 1) := ⟨_, rfl⟩
  rw [← hr] at h0
  obtain ⟨n, h⟩ := tx_in (L := [some (.inr (.inl (some 12))), some (.inl dd), none, none]) h0 rfl
  have hG : pE μ μ := pE_rf
  have hT := ht
  have h400 := ht.1
  have loop : ∀ (n : Nat) (i : Int32) (o : Option zV) (ν : xM), eT xq_234 n 12 [some (.inr (.inl (some 12))), some (.inl dd), some (.inl i), o] [] ν r μ' → r = some (.inl 1) → pE μ ν → cTV ν e → cA μ < cA ν → cA ν ≤ e → 0 ≤ cA ν → 0 ≤ i.toInt → 2 * i.toInt ≤ cA ν → E2 (cK μ (cA ν)) → ∀ C, aP μ ν C → (C.length : Int) ≤ cA ν - cA μ → eOk (15 - 2 * d).toNat C → (∀ w, wBot w → ys (cK μ) (cV μ) (cA μ) d false w = C ++ ys (cK μ) (cV μ) (cA ν) d true w) → ∃ C, aP μ μ' C ∧ (C.length : Int) ≤ cA μ' - cA μ ∧ eOk (15 - 2 * d).toNat C ∧ ∀ w, wBot w → ys (cK μ) (cV μ) (cA μ) d false w = C ++ ys (cK μ) (cV μ) (cA μ') d true w := by
    intro n
    induction n using Nat.strongRecOn with
    | ind n ih =>
    intro i o ν h hr hG hT hl hle h0a hi0 hi2 hE C hC hCl hCk hCy
    have hTν := hT
    have hGν := hG
    replace h := tx_iload_n (p' := 13) h em234_12 rfl rfl
    replace h := tx_sipush (v := 400) (p' := 16) h em234_13 (by decide +kernel) rfl
    rcases tx_icmp (t := 85) (p' := 19) h em234_16 (by decide) rfl with ⟨c16, h⟩ | ⟨c16, h⟩
    · replace c16 : 400 ≤ i.toInt := c16
      replace h := tx_iconst (v := 1) (p' := 86) h em234_85 (by decide +kernel) rfl
      obtain ⟨rfl, hμ⟩ := tx_ireturn h em234_86
      exfalso
      have := ht.1
      omega
    · replace c16 : ¬ 400 ≤ i.toInt := c16
      replace h := tx_aload_n (p' := 20) h em234_19 rfl rfl
      obtain ⟨r20, μ20, hE20, h⟩ := tx_invV (na := 1) (mn := 13) (as := [.inr (.inl (some 12))]) (rest := []) (p' := 23) h em234_20 ((congrFun xo_3 53).trans rfl) xm_13 rfl rfl
      obtain ⟨rfl, hm⟩ := ex_next hE20 (by have := ht.1; omega)
      rw [hm] at h
      replace h : eT xq_234 _ 23 [some (.inr (.inl (some 12))), some (.inl dd), some (.inl i), o] [.inl (ν.1 24 (cA ν).toNat)] ν r μ' := h
      replace h := tx_bipush (v := 43) (p' := 25) h em234_23 (by decide +kernel) rfl
      rcases tx_icmp (t := 37) (p' := 28) h em234_25 (by decide) rfl with ⟨c25, h⟩ | ⟨c25, h⟩
      · replace c25 : (ν.1 24 (cA ν).toNat).toInt = 43 := c25
        replace h := tx_aload_n (p' := 38) h em234_37 rfl rfl
        obtain ⟨r38, μ38, hE38, h⟩ := tx_invV (na := 1) (mn := 13) (as := [.inr (.inl (some 12))]) (rest := []) (p' := 41) h em234_38 ((congrFun xo_3 53).trans rfl) xm_13 rfl rfl
        obtain ⟨rfl, hm⟩ := ex_next hE38 (by have := ht.1; omega)
        rw [hm] at h
        replace h : eT xq_234 _ 41 [some (.inr (.inl (some 12))), some (.inl dd), some (.inl i), o] [.inl (ν.1 24 (cA ν).toNat)] ν r μ' := h
        replace h := tx_istore_n (p' := 42) h em234_41 rfl
        replace h : eT xq_234 _ 42 [some (.inr (.inl (some 12))), some (.inl dd), some (.inl i), some (.inl (ν.1 24 (cA ν).toNat))] [] ν r μ' := h
        replace h := tx_aload_n (p' := 43) h em234_42 rfl rfl
        replace h := tx_iload_n (p' := 44) h em234_43 rfl rfl
        obtain ⟨r44, μ44, hE44, h⟩ := tx_invV (na := 2) (mn := 9) (as := [.inr (.inl (some 12)), .inl (ν.1 24 (cA ν).toNat)]) (rest := []) (p' := 47) h em234_44 ((congrFun xo_3 89).trans rfl) xm_9 rfl rfl
        have hS44 := sE_w (μ := ν) (by decide +kernel) (hf_9_0 hE44 (hEn0 (by decide)) hC.1).2 hC.1
        obtain ⟨hg44, ⟨rfl, a44k, a44m, a44a, a44e, a444, a445⟩ | ⟨rfl, a44k, a444, a445⟩ | ⟨rfl, a44k, a44m, a444, a445⟩⟩ := acc3 hE44 (by omega) (by omega) hT (by omega)
        · have hG44 := pE_tr hG hg44
          have hT44 := pE_TV hG44 ht
          replace h : eT xq_234 _ 47 [some (.inr (.inl (some 12))), some (.inl dd), some (.inl i), some (.inl (ν.1 24 (cA ν).toNat))] [.inl (1 : Int32)] μ44 r μ' := h
          rcases tx_if (t := 58) (p' := 50) h em234_47 (by decide) rfl with ⟨c47, h⟩ | ⟨c47, h⟩
          · replace c47 : (1 : Int) = (0 : Int) := c47
            exfalso
            omega
          · replace c47 : ¬ (1 : Int) = (0 : Int) := c47
            replace h := tx_aload_n (p' := 51) h em234_50 rfl rfl
            replace h := tx_iload_n (p' := 52) h em234_51 rfl rfl
            obtain ⟨r52, μ52, hE52, h⟩ := tx_invV (na := 2) (mn := 235) (as := [.inr (.inl (some 12)), .inl dd]) (rest := []) (p' := 55) h em234_52 ((congrFun xo_3 163).trans rfl) xm_235 rfl rfl
            obtain ⟨hg52, ⟨rfl, a52l, a52e, a52x, ⟨a524, a525⟩, a52E⟩ | ⟨rfl, p52, f52, a52x, a52f, a524, a525⟩⟩ := hU _ _ _ _ (hdd) hE52 e (by omega) (by omega) hT44
            · have hG52 := pE_tr hG44 hg52
              have hT52 := pE_TV hG52 ht
              obtain ⟨C52, hS52, hl52, hk52, hy52⟩ := hU2 _ _ _ (hdd) hE52 e (by omega) (by omega) hT44 hS44.1 (by rw [hS44.2 13 14 (by decide) (by decide)]; have := hC.2.1; omega)
              replace h : eT xq_234 _ 55 [some (.inr (.inl (some 12))), some (.inl dd), some (.inl i), some (.inl (ν.1 24 (cA ν).toNat))] [.inl (1 : Int32)] μ52 r μ' := h
              rcases tx_if (t := 60) (p' := 58) h em234_55 (by decide) rfl with ⟨c55, h⟩ | ⟨c55, h⟩
              · replace c55 : ¬ (1 : Int) = (0 : Int) := c55
                replace h := tx_aload_n (p' := 61) h em234_60 rfl rfl
                replace h := tx_getc (c := 2) (j := 0) (p' := 64) h em234_61 ((congrFun xo_3 12).trans rfl) rfl rfl rfl
                replace h := tx_iload_n (p' := 65) h em234_64 rfl rfl
                replace h := tx_bipush (v := 43) (p' := 67) h em234_65 (by decide +kernel) rfl
                rcases tx_icmp (t := 74) (p' := 70) h em234_67 (by decide) rfl with ⟨c67, h⟩ | ⟨c67, h⟩
                · replace c67 : ¬ (ν.1 24 (cA ν).toNat).toInt = 43 := c67
                  replace h := tx_iconst (v := 3) (p' := 75) h em234_74 (by decide +kernel) rfl
                  replace h := tx_iconst (v := 0) (p' := 76) h em234_75 (by decide +kernel) rfl
                  obtain ⟨r76, μ76, hE76, h⟩ := tx_invV (na := 3) (mn := 43) (as := [.inr (.inl (some 13)), .inl (3 : Int32), .inl (0 : Int32)]) (rest := []) (p' := 79) h em234_76 ((congrFun xo_3 153).trans rfl) xm_43 rfl rfl
                  have hS76 := ex_add2 hE76 hS52.1 (by have a1 := hS52.2.1; rw [hS44.2 13 14 (by decide) (by decide)] at a1; have := hC.2.1; omega)
                  obtain ⟨rfl, hg76, hb76⟩ := ex_add hE76
                  have ha76 : cA μ76 = cA μ52 := by unfold cA; rw [hb76]
                  have hG76 := pE_tr hG52 hg76
                  have hT76 := pE_TV hG76 ht
                  replace h : eT xq_234 _ 79 [some (.inr (.inl (some 12))), some (.inl dd), some (.inl i), some (.inl (ν.1 24 (cA ν).toNat))] [] μ76 r μ' := h
                  have e1i : (1 : Int32).toInt = 1 := by decide
                  have hi1 : (i + 1).toInt = i.toInt + 1 := by rw [an_add (by rw [e1i]; have := ht.1; omega) (by rw [e1i]; have := ht.1; omega), e1i]
                  replace h := tx_iinc (v := 1) (p' := 82) h em234_79 (by decide +kernel) rfl rfl
                  replace h : eT xq_234 _ 82 [some (.inr (.inl (some 12))), some (.inl dd), some (.inl (i + 1)), some (.inl (ν.1 24 (cA ν).toNat))] [] μ76 r μ' := h
                  obtain ⟨n2, hn2, h⟩ := tx_gotoS (t := 12) h em234_82 (by decide)
                  have k1 := pE_K hG (cA ν)
                  unfold cK at k1
                  have hksg : cK μ (cA ν) = 45 := by unfold cK; omega
                  have hDD := aP_tr (by rw [hS44.2 13 14 (by decide) (by decide)]; have := hC.2.1; omega) hS52 (hS76.2 (by have a1 := hS52.2.1; rw [hS44.2 13 14 (by decide) (by decide)] at a1; have := hC.2.1; have := ht.1; omega))
                  have hCC := aP_tr hs0.1 hC (aP_l (by have := hC.2.1; omega) hS44 hDD)
                  refine ih n2 hn2 _ _ _ h hr hG76 hT76 (by omega) (by omega) (by omega) (by rw [hi1]; omega) (by rw [hi1]; omega) (by rw [ha76]; rw [pE_Kf hG44] at a52E; exact a52E) _ hCC ?_ (eOk_bin (by decide) hCk hk52 (by omega) (by omega)) (fun w hw => ?_)
                  · rw [List.length_append, List.length_append]
                    show ((C.length + (C52.length + 1) : Nat) : Int) ≤ _
                    omega
                  · have hy := hy52 (45 :: w) (fun x hx => by cases hx; exact Or.inr (Or.inr rfl))
                    rw [pE_Kf hG44, pE_Vf hG44, a44a] at hy
                    rw [hCy w hw, ys_sign (by omega) (by omega) (by omega), hksg, show isStr 45 = false from rfl, popW_bot hw]
                    show C ++ ys (cK μ) (cV μ) (cA ν + 1) d false (45 :: w) = _
                    rw [hy, ys_weak (by omega) (by have := ht.1; omega) (by decide) (by rw [pE_Kf hG44] at a52E; exact fun q => q.elim a52E.1 a52E.2), ha76, List.append_assoc, List.append_assoc]
                    rfl
                · replace c67 : ¬ ¬ (ν.1 24 (cA ν).toNat).toInt = 43 := c67
                  replace h := tx_iconst (v := 2) (p' := 71) h em234_70 (by decide +kernel) rfl
                  replace h := tx_goto (t := 75) h em234_71 (by decide)
                  replace h := tx_iconst (v := 0) (p' := 76) h em234_75 (by decide +kernel) rfl
                  obtain ⟨r76_1, μ76_1, hE76_1, h⟩ := tx_invV (na := 3) (mn := 43) (as := [.inr (.inl (some 13)), .inl (2 : Int32), .inl (0 : Int32)]) (rest := []) (p' := 79) h em234_76 ((congrFun xo_3 153).trans rfl) xm_43 rfl rfl
                  have hS76_1 := ex_add2 hE76_1 hS52.1 (by have a1 := hS52.2.1; rw [hS44.2 13 14 (by decide) (by decide)] at a1; have := hC.2.1; omega)
                  obtain ⟨rfl, hg76_1, hb76_1⟩ := ex_add hE76_1
                  have ha76_1 : cA μ76_1 = cA μ52 := by unfold cA; rw [hb76_1]
                  have hG76_1 := pE_tr hG52 hg76_1
                  have hT76_1 := pE_TV hG76_1 ht
                  replace h : eT xq_234 _ 79 [some (.inr (.inl (some 12))), some (.inl dd), some (.inl i), some (.inl (ν.1 24 (cA ν).toNat))] [] μ76_1 r μ' := h
                  have e1i : (1 : Int32).toInt = 1 := by decide
                  have hi1 : (i + 1).toInt = i.toInt + 1 := by rw [an_add (by rw [e1i]; have := ht.1; omega) (by rw [e1i]; have := ht.1; omega), e1i]
                  replace h := tx_iinc (v := 1) (p' := 82) h em234_79 (by decide +kernel) rfl rfl
                  replace h : eT xq_234 _ 82 [some (.inr (.inl (some 12))), some (.inl dd), some (.inl (i + 1)), some (.inl (ν.1 24 (cA ν).toNat))] [] μ76_1 r μ' := h
                  obtain ⟨n2, hn2, h⟩ := tx_gotoS (t := 12) h em234_82 (by decide)
                  have k1 := pE_K hG (cA ν)
                  unfold cK at k1
                  have hksg : cK μ (cA ν) = 43 := by unfold cK; omega
                  have hDD := aP_tr (by rw [hS44.2 13 14 (by decide) (by decide)]; have := hC.2.1; omega) hS52 (hS76_1.2 (by have a1 := hS52.2.1; rw [hS44.2 13 14 (by decide) (by decide)] at a1; have := hC.2.1; have := ht.1; omega))
                  have hCC := aP_tr hs0.1 hC (aP_l (by have := hC.2.1; omega) hS44 hDD)
                  refine ih n2 hn2 _ _ _ h hr hG76_1 hT76_1 (by omega) (by omega) (by omega) (by rw [hi1]; omega) (by rw [hi1]; omega) (by rw [ha76_1]; rw [pE_Kf hG44] at a52E; exact a52E) _ hCC ?_ (eOk_bin (by decide) hCk hk52 (by omega) (by omega)) (fun w hw => ?_)
                  · rw [List.length_append, List.length_append]
                    show ((C.length + (C52.length + 1) : Nat) : Int) ≤ _
                    omega
                  · have hy := hy52 (43 :: w) (fun x hx => by cases hx; exact Or.inr (Or.inl rfl))
                    rw [pE_Kf hG44, pE_Vf hG44, a44a] at hy
                    rw [hCy w hw, ys_sign (by omega) (by omega) (by omega), hksg, show isStr 43 = false from rfl, popW_bot hw]
                    show C ++ ys (cK μ) (cV μ) (cA ν + 1) d false (43 :: w) = _
                    rw [hy, ys_weak (by omega) (by have := ht.1; omega) (by decide) (by rw [pE_Kf hG44] at a52E; exact fun q => q.elim a52E.1 a52E.2), ha76_1, List.append_assoc, List.append_assoc]
                    rfl
              · replace c55 : ¬ ¬ (1 : Int) = (0 : Int) := c55
                exfalso
                omega
            · have hG52 := pE_tr hG44 hg52
              have hT52 := pE_TV hG52 ht
              replace h : eT xq_234 _ 55 [some (.inr (.inl (some 12))), some (.inl dd), some (.inl i), some (.inl (ν.1 24 (cA ν).toNat))] [.inl (0 : Int32)] μ52 r μ' := h
              rcases tx_if (t := 60) (p' := 58) h em234_55 (by decide) rfl with ⟨c55_1, h⟩ | ⟨c55_1, h⟩
              · replace c55_1 : ¬ (0 : Int) = (0 : Int) := c55_1
                exfalso
                omega
              · replace c55_1 : ¬ ¬ (0 : Int) = (0 : Int) := c55_1
                replace h := tx_iconst (v := 0) (p' := 59) h em234_58 (by decide +kernel) rfl
                obtain ⟨rfl, hμ⟩ := tx_ireturn h em234_59
                exact n01 hr
        · have hG44 := pE_tr hG hg44
          have hT44 := pE_TV hG44 ht
          replace h : eT xq_234 _ 47 [some (.inr (.inl (some 12))), some (.inl dd), some (.inl i), some (.inl (ν.1 24 (cA ν).toNat))] [.inl (0 : Int32)] μ44 r μ' := h
          rcases tx_if (t := 58) (p' := 50) h em234_47 (by decide) rfl with ⟨c47_1, h⟩ | ⟨c47_1, h⟩
          · replace c47_1 : (0 : Int) = (0 : Int) := c47_1
            replace h := tx_iconst (v := 0) (p' := 59) h em234_58 (by decide +kernel) rfl
            obtain ⟨rfl, hμ⟩ := tx_ireturn h em234_59
            exact n01 hr
          · replace c47_1 : ¬ (0 : Int) = (0 : Int) := c47_1
            exfalso
            omega
        · have hG44 := pE_tr hG hg44
          have hT44 := pE_TV hG44 ht
          replace h : eT xq_234 _ 47 [some (.inr (.inl (some 12))), some (.inl dd), some (.inl i), some (.inl (ν.1 24 (cA ν).toNat))] [.inl (0 : Int32)] μ44 r μ' := h
          rcases tx_if (t := 58) (p' := 50) h em234_47 (by decide) rfl with ⟨c47_2, h⟩ | ⟨c47_2, h⟩
          · replace c47_2 : (0 : Int) = (0 : Int) := c47_2
            replace h := tx_iconst (v := 0) (p' := 59) h em234_58 (by decide +kernel) rfl
            obtain ⟨rfl, hμ⟩ := tx_ireturn h em234_59
            exact n01 hr
          · replace c47_2 : ¬ (0 : Int) = (0 : Int) := c47_2
            exfalso
            omega
      · replace c25 : ¬ (ν.1 24 (cA ν).toNat).toInt = 43 := c25
        replace h := tx_aload_n (p' := 29) h em234_28 rfl rfl
        obtain ⟨r29, μ29, hE29, h⟩ := tx_invV (na := 1) (mn := 13) (as := [.inr (.inl (some 12))]) (rest := []) (p' := 32) h em234_29 ((congrFun xo_3 53).trans rfl) xm_13 rfl rfl
        obtain ⟨rfl, hm⟩ := ex_next hE29 (by have := ht.1; omega)
        rw [hm] at h
        replace h : eT xq_234 _ 32 [some (.inr (.inl (some 12))), some (.inl dd), some (.inl i), o] [.inl (ν.1 24 (cA ν).toNat)] ν r μ' := h
        replace h := tx_bipush (v := 45) (p' := 34) h em234_32 (by decide +kernel) rfl
        rcases tx_icmp (t := 85) (p' := 37) h em234_34 (by decide) rfl with ⟨c34, h⟩ | ⟨c34, h⟩
        · replace c34 : ¬ (ν.1 24 (cA ν).toNat).toInt = 45 := c34
          replace h := tx_iconst (v := 1) (p' := 86) h em234_85 (by decide +kernel) rfl
          obtain ⟨rfl, hμ⟩ := tx_ireturn h em234_86
          rw [hμ]
          exact ⟨C, hC, hCl, hCk, hCy⟩
        · replace c34 : ¬ ¬ (ν.1 24 (cA ν).toNat).toInt = 45 := c34
          replace h := tx_aload_n (p' := 38) h em234_37 rfl rfl
          obtain ⟨r38_1, μ38_1, hE38_1, h⟩ := tx_invV (na := 1) (mn := 13) (as := [.inr (.inl (some 12))]) (rest := []) (p' := 41) h em234_38 ((congrFun xo_3 53).trans rfl) xm_13 rfl rfl
          obtain ⟨rfl, hm⟩ := ex_next hE38_1 (by have := ht.1; omega)
          rw [hm] at h
          replace h : eT xq_234 _ 41 [some (.inr (.inl (some 12))), some (.inl dd), some (.inl i), o] [.inl (ν.1 24 (cA ν).toNat)] ν r μ' := h
          replace h := tx_istore_n (p' := 42) h em234_41 rfl
          replace h : eT xq_234 _ 42 [some (.inr (.inl (some 12))), some (.inl dd), some (.inl i), some (.inl (ν.1 24 (cA ν).toNat))] [] ν r μ' := h
          replace h := tx_aload_n (p' := 43) h em234_42 rfl rfl
          replace h := tx_iload_n (p' := 44) h em234_43 rfl rfl
          obtain ⟨r44_1, μ44_1, hE44_1, h⟩ := tx_invV (na := 2) (mn := 9) (as := [.inr (.inl (some 12)), .inl (ν.1 24 (cA ν).toNat)]) (rest := []) (p' := 47) h em234_44 ((congrFun xo_3 89).trans rfl) xm_9 rfl rfl
          have hS44_1 := sE_w (μ := ν) (by decide +kernel) (hf_9_0 hE44_1 (hEn0 (by decide)) hC.1).2 hC.1
          obtain ⟨hg44_1, ⟨rfl, a44_1k, a44_1m, a44_1a, a44_1e, a44_14, a44_15⟩ | ⟨rfl, a44_1k, a44_14, a44_15⟩ | ⟨rfl, a44_1k, a44_1m, a44_14, a44_15⟩⟩ := acc3 hE44_1 (by omega) (by omega) hT (by omega)
          · have hG44_1 := pE_tr hG hg44_1
            have hT44_1 := pE_TV hG44_1 ht
            replace h : eT xq_234 _ 47 [some (.inr (.inl (some 12))), some (.inl dd), some (.inl i), some (.inl (ν.1 24 (cA ν).toNat))] [.inl (1 : Int32)] μ44_1 r μ' := h
            rcases tx_if (t := 58) (p' := 50) h em234_47 (by decide) rfl with ⟨c47_3, h⟩ | ⟨c47_3, h⟩
            · replace c47_3 : (1 : Int) = (0 : Int) := c47_3
              exfalso
              omega
            · replace c47_3 : ¬ (1 : Int) = (0 : Int) := c47_3
              replace h := tx_aload_n (p' := 51) h em234_50 rfl rfl
              replace h := tx_iload_n (p' := 52) h em234_51 rfl rfl
              obtain ⟨r52_1, μ52_1, hE52_1, h⟩ := tx_invV (na := 2) (mn := 235) (as := [.inr (.inl (some 12)), .inl dd]) (rest := []) (p' := 55) h em234_52 ((congrFun xo_3 163).trans rfl) xm_235 rfl rfl
              obtain ⟨hg52_1, ⟨rfl, a52_1l, a52_1e, a52_1x, ⟨a52_14, a52_15⟩, a52_1E⟩ | ⟨rfl, p52_1, f52_1, a52_1x, a52_1f, a52_14, a52_15⟩⟩ := hU _ _ _ _ (hdd) hE52_1 e (by omega) (by omega) hT44_1
              · have hG52_1 := pE_tr hG44_1 hg52_1
                have hT52_1 := pE_TV hG52_1 ht
                obtain ⟨C52_1, hS52_1, hl52_1, hk52_1, hy52_1⟩ := hU2 _ _ _ (hdd) hE52_1 e (by omega) (by omega) hT44_1 hS44_1.1 (by rw [hS44_1.2 13 14 (by decide) (by decide)]; have := hC.2.1; omega)
                replace h : eT xq_234 _ 55 [some (.inr (.inl (some 12))), some (.inl dd), some (.inl i), some (.inl (ν.1 24 (cA ν).toNat))] [.inl (1 : Int32)] μ52_1 r μ' := h
                rcases tx_if (t := 60) (p' := 58) h em234_55 (by decide) rfl with ⟨c55_2, h⟩ | ⟨c55_2, h⟩
                · replace c55_2 : ¬ (1 : Int) = (0 : Int) := c55_2
                  replace h := tx_aload_n (p' := 61) h em234_60 rfl rfl
                  replace h := tx_getc (c := 2) (j := 0) (p' := 64) h em234_61 ((congrFun xo_3 12).trans rfl) rfl rfl rfl
                  replace h := tx_iload_n (p' := 65) h em234_64 rfl rfl
                  replace h := tx_bipush (v := 43) (p' := 67) h em234_65 (by decide +kernel) rfl
                  rcases tx_icmp (t := 74) (p' := 70) h em234_67 (by decide) rfl with ⟨c67_1, h⟩ | ⟨c67_1, h⟩
                  · replace c67_1 : ¬ (ν.1 24 (cA ν).toNat).toInt = 43 := c67_1
                    replace h := tx_iconst (v := 3) (p' := 75) h em234_74 (by decide +kernel) rfl
                    replace h := tx_iconst (v := 0) (p' := 76) h em234_75 (by decide +kernel) rfl
                    obtain ⟨r76_2, μ76_2, hE76_2, h⟩ := tx_invV (na := 3) (mn := 43) (as := [.inr (.inl (some 13)), .inl (3 : Int32), .inl (0 : Int32)]) (rest := []) (p' := 79) h em234_76 ((congrFun xo_3 153).trans rfl) xm_43 rfl rfl
                    have hS76_2 := ex_add2 hE76_2 hS52_1.1 (by have a1 := hS52_1.2.1; rw [hS44_1.2 13 14 (by decide) (by decide)] at a1; have := hC.2.1; omega)
                    obtain ⟨rfl, hg76_2, hb76_2⟩ := ex_add hE76_2
                    have ha76_2 : cA μ76_2 = cA μ52_1 := by unfold cA; rw [hb76_2]
                    have hG76_2 := pE_tr hG52_1 hg76_2
                    have hT76_2 := pE_TV hG76_2 ht
                    replace h : eT xq_234 _ 79 [some (.inr (.inl (some 12))), some (.inl dd), some (.inl i), some (.inl (ν.1 24 (cA ν).toNat))] [] μ76_2 r μ' := h
                    have e1i : (1 : Int32).toInt = 1 := by decide
                    have hi1 : (i + 1).toInt = i.toInt + 1 := by rw [an_add (by rw [e1i]; have := ht.1; omega) (by rw [e1i]; have := ht.1; omega), e1i]
                    replace h := tx_iinc (v := 1) (p' := 82) h em234_79 (by decide +kernel) rfl rfl
                    replace h : eT xq_234 _ 82 [some (.inr (.inl (some 12))), some (.inl dd), some (.inl (i + 1)), some (.inl (ν.1 24 (cA ν).toNat))] [] μ76_2 r μ' := h
                    obtain ⟨n2, hn2, h⟩ := tx_gotoS (t := 12) h em234_82 (by decide)
                    have k1 := pE_K hG (cA ν)
                    unfold cK at k1
                    have hksg : cK μ (cA ν) = 45 := by unfold cK; omega
                    have hDD := aP_tr (by rw [hS44_1.2 13 14 (by decide) (by decide)]; have := hC.2.1; omega) hS52_1 (hS76_2.2 (by have a1 := hS52_1.2.1; rw [hS44_1.2 13 14 (by decide) (by decide)] at a1; have := hC.2.1; have := ht.1; omega))
                    have hCC := aP_tr hs0.1 hC (aP_l (by have := hC.2.1; omega) hS44_1 hDD)
                    refine ih n2 hn2 _ _ _ h hr hG76_2 hT76_2 (by omega) (by omega) (by omega) (by rw [hi1]; omega) (by rw [hi1]; omega) (by rw [ha76_2]; rw [pE_Kf hG44_1] at a52_1E; exact a52_1E) _ hCC ?_ (eOk_bin (by decide) hCk hk52_1 (by omega) (by omega)) (fun w hw => ?_)
                    · rw [List.length_append, List.length_append]
                      show ((C.length + (C52_1.length + 1) : Nat) : Int) ≤ _
                      omega
                    · have hy := hy52_1 (45 :: w) (fun x hx => by cases hx; exact Or.inr (Or.inr rfl))
                      rw [pE_Kf hG44_1, pE_Vf hG44_1, a44_1a] at hy
                      rw [hCy w hw, ys_sign (by omega) (by omega) (by omega), hksg, show isStr 45 = false from rfl, popW_bot hw]
                      show C ++ ys (cK μ) (cV μ) (cA ν + 1) d false (45 :: w) = _
                      rw [hy, ys_weak (by omega) (by have := ht.1; omega) (by decide) (by rw [pE_Kf hG44_1] at a52_1E; exact fun q => q.elim a52_1E.1 a52_1E.2), ha76_2, List.append_assoc, List.append_assoc]
                      rfl
                  · replace c67_1 : ¬ ¬ (ν.1 24 (cA ν).toNat).toInt = 43 := c67_1
                    replace h := tx_iconst (v := 2) (p' := 71) h em234_70 (by decide +kernel) rfl
                    replace h := tx_goto (t := 75) h em234_71 (by decide)
                    replace h := tx_iconst (v := 0) (p' := 76) h em234_75 (by decide +kernel) rfl
                    obtain ⟨r76_3, μ76_3, hE76_3, h⟩ := tx_invV (na := 3) (mn := 43) (as := [.inr (.inl (some 13)), .inl (2 : Int32), .inl (0 : Int32)]) (rest := []) (p' := 79) h em234_76 ((congrFun xo_3 153).trans rfl) xm_43 rfl rfl
                    have hS76_3 := ex_add2 hE76_3 hS52_1.1 (by have a1 := hS52_1.2.1; rw [hS44_1.2 13 14 (by decide) (by decide)] at a1; have := hC.2.1; omega)
                    obtain ⟨rfl, hg76_3, hb76_3⟩ := ex_add hE76_3
                    have ha76_3 : cA μ76_3 = cA μ52_1 := by unfold cA; rw [hb76_3]
                    have hG76_3 := pE_tr hG52_1 hg76_3
                    have hT76_3 := pE_TV hG76_3 ht
                    replace h : eT xq_234 _ 79 [some (.inr (.inl (some 12))), some (.inl dd), some (.inl i), some (.inl (ν.1 24 (cA ν).toNat))] [] μ76_3 r μ' := h
                    have e1i : (1 : Int32).toInt = 1 := by decide
                    have hi1 : (i + 1).toInt = i.toInt + 1 := by rw [an_add (by rw [e1i]; have := ht.1; omega) (by rw [e1i]; have := ht.1; omega), e1i]
                    replace h := tx_iinc (v := 1) (p' := 82) h em234_79 (by decide +kernel) rfl rfl
                    replace h : eT xq_234 _ 82 [some (.inr (.inl (some 12))), some (.inl dd), some (.inl (i + 1)), some (.inl (ν.1 24 (cA ν).toNat))] [] μ76_3 r μ' := h
                    obtain ⟨n2, hn2, h⟩ := tx_gotoS (t := 12) h em234_82 (by decide)
                    have k1 := pE_K hG (cA ν)
                    unfold cK at k1
                    have hksg : cK μ (cA ν) = 43 := by unfold cK; omega
                    have hDD := aP_tr (by rw [hS44_1.2 13 14 (by decide) (by decide)]; have := hC.2.1; omega) hS52_1 (hS76_3.2 (by have a1 := hS52_1.2.1; rw [hS44_1.2 13 14 (by decide) (by decide)] at a1; have := hC.2.1; have := ht.1; omega))
                    have hCC := aP_tr hs0.1 hC (aP_l (by have := hC.2.1; omega) hS44_1 hDD)
                    refine ih n2 hn2 _ _ _ h hr hG76_3 hT76_3 (by omega) (by omega) (by omega) (by rw [hi1]; omega) (by rw [hi1]; omega) (by rw [ha76_3]; rw [pE_Kf hG44_1] at a52_1E; exact a52_1E) _ hCC ?_ (eOk_bin (by decide) hCk hk52_1 (by omega) (by omega)) (fun w hw => ?_)
                    · rw [List.length_append, List.length_append]
                      show ((C.length + (C52_1.length + 1) : Nat) : Int) ≤ _
                      omega
                    · have hy := hy52_1 (43 :: w) (fun x hx => by cases hx; exact Or.inr (Or.inl rfl))
                      rw [pE_Kf hG44_1, pE_Vf hG44_1, a44_1a] at hy
                      rw [hCy w hw, ys_sign (by omega) (by omega) (by omega), hksg, show isStr 43 = false from rfl, popW_bot hw]
                      show C ++ ys (cK μ) (cV μ) (cA ν + 1) d false (43 :: w) = _
                      rw [hy, ys_weak (by omega) (by have := ht.1; omega) (by decide) (by rw [pE_Kf hG44_1] at a52_1E; exact fun q => q.elim a52_1E.1 a52_1E.2), ha76_3, List.append_assoc, List.append_assoc]
                      rfl
                · replace c55_2 : ¬ ¬ (1 : Int) = (0 : Int) := c55_2
                  exfalso
                  omega
              · have hG52_1 := pE_tr hG44_1 hg52_1
                have hT52_1 := pE_TV hG52_1 ht
                replace h : eT xq_234 _ 55 [some (.inr (.inl (some 12))), some (.inl dd), some (.inl i), some (.inl (ν.1 24 (cA ν).toNat))] [.inl (0 : Int32)] μ52_1 r μ' := h
                rcases tx_if (t := 60) (p' := 58) h em234_55 (by decide) rfl with ⟨c55_3, h⟩ | ⟨c55_3, h⟩
                · replace c55_3 : ¬ (0 : Int) = (0 : Int) := c55_3
                  exfalso
                  omega
                · replace c55_3 : ¬ ¬ (0 : Int) = (0 : Int) := c55_3
                  replace h := tx_iconst (v := 0) (p' := 59) h em234_58 (by decide +kernel) rfl
                  obtain ⟨rfl, hμ⟩ := tx_ireturn h em234_59
                  exact n01 hr
          · have hG44_1 := pE_tr hG hg44_1
            have hT44_1 := pE_TV hG44_1 ht
            replace h : eT xq_234 _ 47 [some (.inr (.inl (some 12))), some (.inl dd), some (.inl i), some (.inl (ν.1 24 (cA ν).toNat))] [.inl (0 : Int32)] μ44_1 r μ' := h
            rcases tx_if (t := 58) (p' := 50) h em234_47 (by decide) rfl with ⟨c47_4, h⟩ | ⟨c47_4, h⟩
            · replace c47_4 : (0 : Int) = (0 : Int) := c47_4
              replace h := tx_iconst (v := 0) (p' := 59) h em234_58 (by decide +kernel) rfl
              obtain ⟨rfl, hμ⟩ := tx_ireturn h em234_59
              exact n01 hr
            · replace c47_4 : ¬ (0 : Int) = (0 : Int) := c47_4
              exfalso
              omega
          · have hG44_1 := pE_tr hG hg44_1
            have hT44_1 := pE_TV hG44_1 ht
            replace h : eT xq_234 _ 47 [some (.inr (.inl (some 12))), some (.inl dd), some (.inl i), some (.inl (ν.1 24 (cA ν).toNat))] [.inl (0 : Int32)] μ44_1 r μ' := h
            rcases tx_if (t := 58) (p' := 50) h em234_47 (by decide) rfl with ⟨c47_5, h⟩ | ⟨c47_5, h⟩
            · replace c47_5 : (0 : Int) = (0 : Int) := c47_5
              replace h := tx_iconst (v := 0) (p' := 59) h em234_58 (by decide +kernel) rfl
              obtain ⟨rfl, hμ⟩ := tx_ireturn h em234_59
              exact n01 hr
            · replace c47_5 : ¬ (0 : Int) = (0 : Int) := c47_5
              exfalso
              omega
  replace h := tx_aload_n (p' := 1) h em234_0 rfl rfl
  replace h := tx_iload_n (p' := 2) h em234_1 rfl rfl
  obtain ⟨r2, μ2, hE2, h⟩ := tx_invV (na := 2) (mn := 235) (as := [.inr (.inl (some 12)), .inl dd]) (rest := []) (p' := 5) h em234_2 ((congrFun xo_3 163).trans rfl) xm_235 rfl rfl
  obtain ⟨hg2, ⟨rfl, a2l, a2e, a2x, ⟨a24, a25⟩, a2E⟩ | ⟨rfl, p2, f2, a2x, a2f, a24, a25⟩⟩ := hU _ _ _ _ (hdd) hE2 e (by omega) (by omega) hT
  · have hG2 := pE_tr hG hg2
    have hT2 := pE_TV hG2 ht
    obtain ⟨C2, hS2, hl2, hk2, hy2⟩ := hU2 _ _ _ (hdd) hE2 e (by omega) (by omega) hT hO (hs0)
    replace h : eT xq_234 _ 5 [some (.inr (.inl (some 12))), some (.inl dd), none, none] [.inl (1 : Int32)] μ2 r μ' := h
    rcases tx_if (t := 10) (p' := 8) h em234_5 (by decide) rfl with ⟨c5, h⟩ | ⟨c5, h⟩
    · replace c5 : ¬ (1 : Int) = (0 : Int) := c5
      replace h := tx_iconst (v := 0) (p' := 11) h em234_10 (by decide +kernel) rfl
      replace h := tx_istore_n (p' := 12) h em234_11 rfl
      replace h : eT xq_234 _ 12 [some (.inr (.inl (some 12))), some (.inl dd), some (.inl (0 : Int32)), none] [] μ2 r μ' := h
      exact loop _ _ _ _ h hr hG2 hT2 a2l a2e (by omega) (by decide) (by show 2 * (0 : Int) ≤ _; omega) a2E C2 hS2 (by omega) (eOk_mono (by omega) hk2) (fun w hw => hy2 w (fun x hx => Or.inl (hw x hx)))
    · replace c5 : ¬ ¬ (1 : Int) = (0 : Int) := c5
      exfalso
      omega
  · have hG2 := pE_tr hG hg2
    have hT2 := pE_TV hG2 ht
    replace h : eT xq_234 _ 5 [some (.inr (.inl (some 12))), some (.inl dd), none, none] [.inl (0 : Int32)] μ2 r μ' := h
    rcases tx_if (t := 10) (p' := 8) h em234_5 (by decide) rfl with ⟨c5_1, h⟩ | ⟨c5_1, h⟩
    · replace c5_1 : ¬ (0 : Int) = (0 : Int) := c5_1
      exfalso
      omega
    · replace c5_1 : ¬ ¬ (0 : Int) = (0 : Int) := c5_1
      replace h := tx_iconst (v := 0) (p' := 9) h em234_8 (by decide +kernel) rfl
      obtain ⟨rfl, hμ⟩ := tx_ireturn h em234_9
      exact n01 hr
theorem expr2 : ∀ (n : Nat) (d : Int), 0 ≤ d → d ≤ 6 → (6 - d).toNat = n → uS2 xq_234 d (15 - 2 * d).toNat wBot := by
  intro n
  induction n with
  | zero =>
    intro d h0 h6 hn
    have u1 := unit_ok (d := d) h0 h6 (fun h => by omega)
    exact sum2 h0 h6 (part_ok u1) (part2 h0 h6 u1 (unit2 h0 h6 (fun h => by omega) (fun h => by omega)))
  | succ n ih =>
    intro d h0 h6 hn
    have u0 := expr_ok n (d + 1) (by omega) (by omega) (by omega)
    have u1 := unit_ok (d := d) h0 h6 (fun _ => u0)
    exact sum2 h0 h6 (part_ok u1) (part2 h0 h6 u1 (unit2 h0 h6 (fun _ => u0) (fun _ => ih (d + 1) (by omega) (by omega) (by omega))))
/-- an expression of the class: what it prints -/
theorem ex_sum2 {μ μ' : xM} {e : Int} (h0 : Ex gx xq_234 [.inr (.inl (some 12)), .inl 0] μ (some (.inl 1)) μ') (ha0 : 0 ≤ cA μ) (ha : cA μ ≤ e) (ht : cTV μ e) (hO : hOK μ) (hs0 : 0 ≤ (μ.1 13 14).toInt ∧ (μ.1 13 14).toInt ≤ 8 + cA μ) : aP μ μ' (ys (cK μ) (cV μ) (cA μ) 0 false []) ∧ ((ys (cK μ) (cV μ) (cA μ) 0 false []).length : Int) ≤ cA μ' - cA μ ∧ eOk 15 (ys (cK μ) (cV μ) (cA μ) 0 false []) := by
  obtain ⟨C, c1, c2, c3, c4⟩ := expr2 6 0 (by omega) (by omega) (by omega) 0 μ μ' (by decide) h0 e ha0 ha ht hO hs0
  obtain ⟨-, h | h⟩ := expr_ok 6 0 (by omega) (by omega) (by omega) 0 μ μ' _ (by decide) h0 e ha0 ha ht
  · obtain ⟨-, g1, g2, -, -, ⟨g3, g4⟩, g5, g6⟩ := h
    have hy := c4 [] (fun x hx => by cases hx)
    rw [ys_end (by omega) (by have := ht.1; omega) (by omega) (by omega)] at hy
    have hy : ys (cK μ) (cV μ) (cA μ) 0 false [] = C ++ [] := hy
    rw [List.append_nil] at hy
    rw [hy]
    exact ⟨c1, c2, c3⟩
  · exact n01 h.1.symm
