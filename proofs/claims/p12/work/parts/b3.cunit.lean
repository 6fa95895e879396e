theorem cA_3 {μ : xM} {v : Int32} : cA (xpi μ 12 3 v) = v.toInt := by unfold cA; rw [xpi_at]
theorem cA_s {μ : xM} (h0 : 0 ≤ cA μ) (h1 : cA μ < 400) : (μ.1 12 3 + 1).toInt = cA μ + 1 := by
  unfold cA at h0 h1 ⊢
  have e1 : (1 : Int32).toInt = 1 := by decide
  rw [an_add (by rw [e1]; omega) (by rw [e1]; omega), e1]
/-- accept, as the account says it -/
theorem acc3 {μ μ' : xM} {r : Option zV} {k : Int32} {e : Int} (h0 : Ex gx xq_9 [.inr (.inl (some 12)), .inl k] μ r μ') (ha0 : 0 ≤ cA μ) (ha : cA μ ≤ e) (ht : cTV μ e) (hk : 2 ≤ k.toInt) : pE μ μ' ∧ ((r = some (.inl 1) ∧ cK μ (cA μ) = k.toInt ∧ cA μ < 400 ∧ cA μ' = cA μ + 1 ∧ cA μ' ≤ e ∧ μ'.1 12 4 = μ.1 12 4 ∧ μ'.1 12 5 = μ.1 12 5) ∨ (r = some (.inl 0) ∧ ¬ cK μ (cA μ) = k.toInt ∧ (μ'.1 12 4).toInt = 1 ∧ (μ'.1 12 5).toInt = cP μ (cA μ)) ∨ (r = some (.inl 0) ∧ cK μ (cA μ) = k.toInt ∧ cA μ = 400 ∧ (μ'.1 12 4).toInt = 2 ∧ (μ'.1 12 5).toInt = cP μ (cA μ))) := by
  have h4 := ht.1.2
  rcases ex_accept h0 (by omega) with ⟨h1, h2, h3, rfl⟩ | ⟨h1, h2, rfl⟩ | ⟨h1, h2, h3, rfl⟩
  · have h5 := cTV_s ht ha h3 (by omega)
    have h6 := cA_s ha0 h3
    exact ⟨pE_p pE_rf (Or.inl rfl), Or.inl ⟨h1, h2, h3, by rw [cA_3, h6], by rw [cA_3, h6]; exact h5, rfl, rfl⟩⟩
  · exact ⟨pE_F pE_rf, Or.inr (Or.inl ⟨h1, h2, rfl, rfl⟩)⟩
  · exact ⟨pE_F pE_rf, Or.inr (Or.inr ⟨h1, h2, h3, rfl, rfl⟩)⟩
theorem int4 {μ : xM} {E a : Int} (ht : cTV μ E) (h0 : 0 ≤ a) (h1 : a ≤ E) (hk : cK μ a = 3) : 0 ≤ cV μ a ∧ cV μ a ≤ 9999 := by
  obtain ⟨-, h2, -⟩ := ht.2.2 a h0 h1
  obtain ⟨h3, h4, h5⟩ := h2 hk
  have h6 := cDg_b (μ := μ) (p := (cP μ a).toNat) (k := (cS μ a).toNat) (fun i hi => h5 i (by omega))
  have h7 : (10 : Int) ^ (cS μ a).toNat ≤ 10000 := by
    have : (cS μ a).toNat = 1 ∨ (cS μ a).toNat = 2 ∨ (cS μ a).toNat = 3 ∨ (cS μ a).toNat = 4 := by omega
    rcases this with e | e | e | e <;> rw [e] <;> decide
  unfold cV
  omega
set_option maxRecDepth 10000 in
set_option maxHeartbeats 4000000 in
theorem unit_ok {d : Int} (hd0 : 0 ≤ d) (hd6 : d ≤ 6) (hS : d < 6 → uS xq_234 (d + 1) E3) : uS xq_236 d E1 := by
  intro dd μ μ' r hdd h0 e ha0 ha ht
  obtain ⟨n, h⟩ := tx_in (L := [some (.inr (.inl (some 12))), some (.inl dd), none]) h0 rfl
  have hG : pE μ μ := pE_rf
  have hT := ht
  have h400 := ht.1
  replace h := tx_aload_n (p' := 1) h em236_0 rfl rfl
  obtain ⟨r1, μ1, hE1, h⟩ := tx_invV (na := 1) (mn := 13) (as := [.inr (.inl (some 12))]) (rest := []) (p' := 4) h em236_1 ((congrFun xo_3 53).trans rfl) xm_13 rfl rfl
  obtain ⟨rfl, hm⟩ := ex_next hE1 (by have := hT.1; omega)
  rw [hm] at h
  replace h : eT xq_236 _ 4 [some (.inr (.inl (some 12))), some (.inl dd), none] [.inl (μ.1 24 (cA μ).toNat)] μ r μ' := h
  replace h := tx_istore_n (p' := 5) h em236_4 rfl
  replace h : eT xq_236 _ 5 [some (.inr (.inl (some 12))), some (.inl dd), some (.inl (μ.1 24 (cA μ).toNat))] [] μ r μ' := h
  replace h := tx_iload_n (p' := 6) h em236_5 rfl rfl
  replace h := tx_bipush (v := 40) (p' := 8) h em236_6 (by decide +kernel) rfl
  rcases tx_icmp (t := 59) (p' := 11) h em236_8 (by decide) rfl with ⟨c8, h⟩ | ⟨c8, h⟩
  · replace c8 : ¬ (μ.1 24 (cA μ).toNat).toInt = 40 := c8
    replace h := tx_iload_n (p' := 60) h em236_59 rfl rfl
    replace h := tx_iconst (v := 3) (p' := 61) h em236_60 (by decide +kernel) rfl
    rcases tx_icmp (t := 90) (p' := 64) h em236_61 (by decide) rfl with ⟨c61, h⟩ | ⟨c61, h⟩
    · replace c61 : ¬ (μ.1 24 (cA μ).toNat).toInt = 3 := c61
      replace h := tx_iload_n (p' := 91) h em236_90 rfl rfl
      replace h := tx_sipush (v := 140) (p' := 94) h em236_91 (by decide +kernel) rfl
      rcases tx_icmp (t := 116) (p' := 97) h em236_94 (by decide) rfl with ⟨c94, h⟩ | ⟨c94, h⟩
      · replace c94 : (μ.1 24 (cA μ).toNat).toInt < 140 := c94
        replace h := tx_aload_n (p' := 117) h em236_116 rfl rfl
        replace h := tx_iconst (v := 1) (p' := 118) h em236_117 (by decide +kernel) rfl
        obtain ⟨r118, μ118, hE118, h⟩ := tx_invV (na := 2) (mn := 10) (as := [.inr (.inl (some 12)), .inl (1 : Int32)]) (rest := []) (p' := 121) h em236_118 ((congrFun xo_3 70).trans rfl) xm_10 rfl rfl
        obtain ⟨rfl, hm⟩ := ex_fail hE118 (by have := hT.1; omega)
        replace h : eT xq_236 _ 121 [some (.inr (.inl (some 12))), some (.inl dd), some (.inl (μ.1 24 (cA μ).toNat))] [.inl (0 : Int32)] μ118 r μ' := h
        obtain ⟨rfl, hμ⟩ := tx_ireturn h em236_121
        rw [hμ, hm]
        exact ⟨pE_F pE_rf, Or.inr ⟨rfl, cA μ, 1, xs_want_f (by omega) (by have := ht.1; omega) ⟨by unfold cK; omega, by unfold cK; omega, by unfold cK; omega⟩, by decide, rfl, rfl⟩⟩
      · replace c94 : ¬ (μ.1 24 (cA μ).toNat).toInt < 140 := c94
        replace h := tx_aload_n (p' := 98) h em236_97 rfl rfl
        replace h := tx_getc (c := 2) (j := 0) (p' := 101) h em236_98 ((congrFun xo_3 12).trans rfl) rfl rfl rfl
        replace h := tx_iconst (v := 1) (p' := 102) h em236_101 (by decide +kernel) rfl
        replace h := tx_iload_n (p' := 103) h em236_102 rfl rfl
        replace h := tx_sipush (v := 140) (p' := 106) h em236_103 (by decide +kernel) rfl
        replace h := tx_isub (p' := 107) h em236_106 rfl
        obtain ⟨r107, μ107, hE107, h⟩ := tx_invV (na := 3) (mn := 43) (as := [.inr (.inl (some 13)), .inl (1 : Int32), .inl ((μ.1 24 (cA μ).toNat) - (140 : Int32))]) (rest := []) (p' := 110) h em236_107 ((congrFun xo_3 153).trans rfl) xm_43 rfl rfl
        obtain ⟨rfl, hg107, hb107⟩ := ex_add hE107
        have ha107 : cA μ107 = cA μ := by unfold cA; rw [hb107]
        have hG107 := pE_tr hG hg107
        have hT107 := pE_TV hG107 ht
        replace h : eT xq_236 _ 110 [some (.inr (.inl (some 12))), some (.inl dd), some (.inl (μ.1 24 (cA μ).toNat))] [] μ107 r μ' := h
        replace h := tx_aload_n (p' := 111) h em236_110 rfl rfl
        replace h := tx_iload_n (p' := 112) h em236_111 rfl rfl
        obtain ⟨r112, μ112, hE112, h⟩ := tx_invV (na := 2) (mn := 9) (as := [.inr (.inl (some 12)), .inl (μ.1 24 (cA μ).toNat)]) (rest := []) (p' := 115) h em236_112 ((congrFun xo_3 89).trans rfl) xm_9 rfl rfl
        obtain ⟨hg112, ⟨rfl, a112k, a112m, a112a, a112e, a1124, a1125⟩ | ⟨rfl, a112k, a1124, a1125⟩ | ⟨rfl, a112k, a112m, a1124, a1125⟩⟩ := acc3 hE112 (by omega) (by omega) hT107 (by omega)
        · have hG112 := pE_tr hG107 hg112
          have hT112 := pE_TV hG112 ht
          replace h : eT xq_236 _ 115 [some (.inr (.inl (some 12))), some (.inl dd), some (.inl (μ.1 24 (cA μ).toNat))] [.inl (1 : Int32)] μ112 r μ' := h
          obtain ⟨rfl, hμ⟩ := tx_ireturn h em236_115
          subst hμ
          have hku : cK μ (cA μ) = 3 ∨ 140 ≤ cK μ (cA μ) := by unfold cK; omega
          rw [pE_Kf hG107, ha107] at a112k
          have e1 := xs_unit (K := cK μ) (d := d) (a := cA μ) (by omega) (by omega) hku
          rw [show cA μ + 1 = cA μ' by omega] at e1
          exact ⟨hG112, Or.inl ⟨rfl, by omega, a112e, e1, ⟨by rw [a1124, hb107], by rw [a1125, hb107]⟩, trivial⟩⟩
        · have hG112 := pE_tr hG107 hg112
          have hT112 := pE_TV hG112 ht
          replace h : eT xq_236 _ 115 [some (.inr (.inl (some 12))), some (.inl dd), some (.inl (μ.1 24 (cA μ).toNat))] [.inl (0 : Int32)] μ112 r μ' := h
          obtain ⟨rfl, hμ⟩ := tx_ireturn h em236_115
          subst hμ
          have hku : cK μ (cA μ) = 3 ∨ 140 ≤ cK μ (cA μ) := by unfold cK; omega
          rw [pE_Kf hG107, ha107] at a112k
          exfalso
          exact a112k rfl
        · have hG112 := pE_tr hG107 hg112
          have hT112 := pE_TV hG112 ht
          replace h : eT xq_236 _ 115 [some (.inr (.inl (some 12))), some (.inl dd), some (.inl (μ.1 24 (cA μ).toNat))] [.inl (0 : Int32)] μ112 r μ' := h
          obtain ⟨rfl, hμ⟩ := tx_ireturn h em236_115
          subst hμ
          have hku : cK μ (cA μ) = 3 ∨ 140 ≤ cK μ (cA μ) := by unfold cK; omega
          rw [pE_Kf hG107, ha107] at a112k
          rw [pE_P hG107, ha107] at a1125
          exact ⟨hG112, Or.inr ⟨rfl, cA μ, 2, xs_unit_f (K := cK μ) (d := d) hku (by omega), by decide, a1124, a1125⟩⟩
    · replace c61 : ¬ ¬ (μ.1 24 (cA μ).toNat).toInt = 3 := c61
      replace h := tx_aload_n (p' := 65) h em236_64 rfl rfl
      replace h := tx_getc (c := 2) (j := 0) (p' := 68) h em236_65 ((congrFun xo_3 12).trans rfl) rfl rfl rfl
      replace h := tx_iconst (v := 0) (p' := 69) h em236_68 (by decide +kernel) rfl
      replace h := tx_aload_n (p' := 70) h em236_69 rfl rfl
      replace h := tx_aload_n (p' := 71) h em236_70 rfl rfl
      replace h := tx_getf (c := 2) (j := 3) (p' := 74) h em236_71 ((congrFun xo_3 40).trans rfl) rfl rfl (by decide) rfl
      replace h := tx_iconst (v := 0) (p' := 75) h em236_74 (by decide +kernel) rfl
      replace h := tx_sipush (v := 9999) (p' := 78) h em236_75 (by decide +kernel) rfl
      obtain ⟨r78, μ78, hE78, h⟩ := tx_invV (na := 4) (mn := 11) (as := [.inr (.inl (some 12)), .inl (μ.1 12 3), .inl (0 : Int32), .inl (9999 : Int32)]) (rest := [.inl (0 : Int32), .inr (.inl (some 13))]) (p' := 81) h em236_78 ((congrFun xo_3 118).trans rfl) xm_11 rfl rfl
      obtain ⟨vv, rfl, hv, hm⟩ := ex_intOf hE78 hT (by show 0 ≤ cA μ; omega) (by show cA μ ≤ e; omega) (by show cK μ (cA μ) = 3; unfold cK; omega)
      have hvb := int4 hT (by show 0 ≤ cA μ; omega) (by show cA μ ≤ e; omega) (by unfold cK; omega)
      replace hm : μ78 = μ := by
        rcases hm with ⟨g1, -, -⟩ | ⟨-, g1⟩
        · exfalso
          have e0 : (0 : Int32).toInt = 0 := by decide
          have e9 : (9999 : Int32).toInt = 9999 := by decide
          replace hv : vv.toInt = cV μ (cA μ) := hv
          omega
        · exact g1
      rw [hm] at h
      replace h : eT xq_236 _ 81 [some (.inr (.inl (some 12))), some (.inl dd), some (.inl (μ.1 24 (cA μ).toNat))] [.inl vv, .inl (0 : Int32), .inr (.inl (some 13))] μ r μ' := h
      obtain ⟨r81, μ81, hE81, h⟩ := tx_invV (na := 3) (mn := 43) (as := [.inr (.inl (some 13)), .inl (0 : Int32), .inl vv]) (rest := []) (p' := 84) h em236_81 ((congrFun xo_3 153).trans rfl) xm_43 rfl rfl
      obtain ⟨rfl, hg81, hb81⟩ := ex_add hE81
      have ha81 : cA μ81 = cA μ := by unfold cA; rw [hb81]
      have hG81 := pE_tr hG hg81
      have hT81 := pE_TV hG81 ht
      replace h : eT xq_236 _ 84 [some (.inr (.inl (some 12))), some (.inl dd), some (.inl (μ.1 24 (cA μ).toNat))] [] μ81 r μ' := h
      replace h := tx_aload_n (p' := 85) h em236_84 rfl rfl
      replace h := tx_iload_n (p' := 86) h em236_85 rfl rfl
      obtain ⟨r86, μ86, hE86, h⟩ := tx_invV (na := 2) (mn := 9) (as := [.inr (.inl (some 12)), .inl (μ.1 24 (cA μ).toNat)]) (rest := []) (p' := 89) h em236_86 ((congrFun xo_3 89).trans rfl) xm_9 rfl rfl
      obtain ⟨hg86, ⟨rfl, a86k, a86m, a86a, a86e, a864, a865⟩ | ⟨rfl, a86k, a864, a865⟩ | ⟨rfl, a86k, a86m, a864, a865⟩⟩ := acc3 hE86 (by omega) (by omega) hT81 (by omega)
      · have hG86 := pE_tr hG81 hg86
        have hT86 := pE_TV hG86 ht
        replace h : eT xq_236 _ 89 [some (.inr (.inl (some 12))), some (.inl dd), some (.inl (μ.1 24 (cA μ).toNat))] [.inl (1 : Int32)] μ86 r μ' := h
        obtain ⟨rfl, hμ⟩ := tx_ireturn h em236_89
        subst hμ
        have hku : cK μ (cA μ) = 3 ∨ 140 ≤ cK μ (cA μ) := by unfold cK; omega
        rw [pE_Kf hG81, ha81] at a86k
        have e1 := xs_unit (K := cK μ) (d := d) (a := cA μ) (by omega) (by omega) hku
        rw [show cA μ + 1 = cA μ' by omega] at e1
        exact ⟨hG86, Or.inl ⟨rfl, by omega, a86e, e1, ⟨by rw [a864, hb81], by rw [a865, hb81]⟩, trivial⟩⟩
      · have hG86 := pE_tr hG81 hg86
        have hT86 := pE_TV hG86 ht
        replace h : eT xq_236 _ 89 [some (.inr (.inl (some 12))), some (.inl dd), some (.inl (μ.1 24 (cA μ).toNat))] [.inl (0 : Int32)] μ86 r μ' := h
        obtain ⟨rfl, hμ⟩ := tx_ireturn h em236_89
        subst hμ
        have hku : cK μ (cA μ) = 3 ∨ 140 ≤ cK μ (cA μ) := by unfold cK; omega
        rw [pE_Kf hG81, ha81] at a86k
        exfalso
        exact a86k rfl
      · have hG86 := pE_tr hG81 hg86
        have hT86 := pE_TV hG86 ht
        replace h : eT xq_236 _ 89 [some (.inr (.inl (some 12))), some (.inl dd), some (.inl (μ.1 24 (cA μ).toNat))] [.inl (0 : Int32)] μ86 r μ' := h
        obtain ⟨rfl, hμ⟩ := tx_ireturn h em236_89
        subst hμ
        have hku : cK μ (cA μ) = 3 ∨ 140 ≤ cK μ (cA μ) := by unfold cK; omega
        rw [pE_Kf hG81, ha81] at a86k
        rw [pE_P hG81, ha81] at a865
        exact ⟨hG86, Or.inr ⟨rfl, cA μ, 2, xs_unit_f (K := cK μ) (d := d) hku (by omega), by decide, a864, a865⟩⟩
  · replace c8 : ¬ ¬ (μ.1 24 (cA μ).toNat).toInt = 40 := c8
    replace h := tx_iload_n (p' := 12) h em236_11 rfl rfl
    replace h := tx_bipush (v := 6) (p' := 14) h em236_12 (by decide +kernel) rfl
    rcases tx_icmp (t := 25) (p' := 17) h em236_14 (by decide) rfl with ⟨c14, h⟩ | ⟨c14, h⟩
    · replace c14 : dd.toInt < 6 := c14
      replace h := tx_aload_n (p' := 26) h em236_25 rfl rfl
      replace h := tx_bipush (v := 40) (p' := 28) h em236_26 (by decide +kernel) rfl
      obtain ⟨r28, μ28, hE28, h⟩ := tx_invV (na := 2) (mn := 9) (as := [.inr (.inl (some 12)), .inl (40 : Int32)]) (rest := []) (p' := 31) h em236_28 ((congrFun xo_3 89).trans rfl) xm_9 rfl rfl
      obtain ⟨hg28, ⟨rfl, a28k, a28m, a28a, a28e, a284, a285⟩ | ⟨rfl, a28k, a284, a285⟩ | ⟨rfl, a28k, a28m, a284, a285⟩⟩ := acc3 hE28 (by omega) (by omega) hT (by decide)
      · have hG28 := pE_tr hG hg28
        have hT28 := pE_TV hG28 ht
        replace h : eT xq_236 _ 31 [some (.inr (.inl (some 12))), some (.inl dd), some (.inl (μ.1 24 (cA μ).toNat))] [.inl (1 : Int32)] μ28 r μ' := h
        rcases tx_if (t := 57) (p' := 34) h em236_31 (by decide) rfl with ⟨c31, h⟩ | ⟨c31, h⟩
        · replace c31 : (1 : Int) = (0 : Int) := c31
          exfalso
          omega
        · replace c31 : ¬ (1 : Int) = (0 : Int) := c31
          replace h := tx_aload_n (p' := 35) h em236_34 rfl rfl
          replace h := tx_iload_n (p' := 36) h em236_35 rfl rfl
          replace h := tx_iconst (v := 1) (p' := 37) h em236_36 (by decide +kernel) rfl
          replace h := tx_iadd (p' := 38) h em236_37 rfl
          obtain ⟨r38, μ38, hE38, h⟩ := tx_invV (na := 2) (mn := 234) (as := [.inr (.inl (some 12)), .inl (dd + (1 : Int32))]) (rest := []) (p' := 41) h em236_38 ((congrFun xo_3 150).trans rfl) xm_234 rfl rfl
          obtain ⟨hg38, ⟨rfl, a38l, a38e, a38x, ⟨a384, a385⟩, a38E⟩ | ⟨rfl, p38, f38, a38x, a38f, a384, a385⟩⟩ := hS (by omega) _ _ _ _ (by rw [an_add (by rw [show (1 : Int32).toInt = 1 by decide]; omega) (by rw [show (1 : Int32).toInt = 1 by decide]; omega), show (1 : Int32).toInt = 1 by decide, hdd]) hE38 e (by omega) (by omega) hT28
          · have hG38 := pE_tr hG28 hg38
            have hT38 := pE_TV hG38 ht
            replace h : eT xq_236 _ 41 [some (.inr (.inl (some 12))), some (.inl dd), some (.inl (μ.1 24 (cA μ).toNat))] [.inl (1 : Int32)] μ38 r μ' := h
            rcases tx_if (t := 57) (p' := 44) h em236_41 (by decide) rfl with ⟨c41, h⟩ | ⟨c41, h⟩
            · replace c41 : (1 : Int) = (0 : Int) := c41
              exfalso
              omega
            · replace c41 : ¬ (1 : Int) = (0 : Int) := c41
              replace h := tx_aload_n (p' := 45) h em236_44 rfl rfl
              replace h := tx_bipush (v := 41) (p' := 47) h em236_45 (by decide +kernel) rfl
              obtain ⟨r47, μ47, hE47, h⟩ := tx_invV (na := 2) (mn := 9) (as := [.inr (.inl (some 12)), .inl (41 : Int32)]) (rest := []) (p' := 50) h em236_47 ((congrFun xo_3 89).trans rfl) xm_9 rfl rfl
              obtain ⟨hg47, ⟨rfl, a47k, a47m, a47a, a47e, a474, a475⟩ | ⟨rfl, a47k, a474, a475⟩ | ⟨rfl, a47k, a47m, a474, a475⟩⟩ := acc3 hE47 (by omega) (by omega) hT38 (by decide)
              · have hG47 := pE_tr hG38 hg47
                have hT47 := pE_TV hG47 ht
                replace h : eT xq_236 _ 50 [some (.inr (.inl (some 12))), some (.inl dd), some (.inl (μ.1 24 (cA μ).toNat))] [.inl (1 : Int32)] μ47 r μ' := h
                rcases tx_if (t := 57) (p' := 53) h em236_50 (by decide) rfl with ⟨c50, h⟩ | ⟨c50, h⟩
                · replace c50 : (1 : Int) = (0 : Int) := c50
                  exfalso
                  omega
                · replace c50 : ¬ (1 : Int) = (0 : Int) := c50
                  replace h := tx_iconst (v := 1) (p' := 54) h em236_53 (by decide +kernel) rfl
                  replace h := tx_goto (t := 58) h em236_54 (by decide)
                  obtain ⟨rfl, hμ⟩ := tx_ireturn h em236_58
                  subst hμ
                  have e0 := xs_open (K := cK μ) (d := d) (a := cA μ) (by omega) (by omega) (by unfold cK; omega) (by omega)
                  rw [pE_Kf hG28, a28a] at a38x
                  rw [pE_Kf hG28] at a38E
                  rw [pE_Kf hG38] at a47k
                  replace a47k : cK μ (cA μ38) = 41 := a47k
                  obtain ⟨⟨E1a, E1b⟩, E1c, E1d⟩ := a38E
                  have e1 := xs_close (K := cK μ) (d := d + 1) (a := cA μ38) (by omega) (by omega) a47k (by omega)
                  rw [show d + 1 - 1 = d by omega, ← a47a] at e1
                  exact ⟨hG47, Or.inl ⟨rfl, by omega, a47e, (e0.trans a38x).trans e1, ⟨by rw [a474, a384, a284], by rw [a475, a385, a285]⟩, trivial⟩⟩
              · have hG47 := pE_tr hG38 hg47
                have hT47 := pE_TV hG47 ht
                replace h : eT xq_236 _ 50 [some (.inr (.inl (some 12))), some (.inl dd), some (.inl (μ.1 24 (cA μ).toNat))] [.inl (0 : Int32)] μ47 r μ' := h
                rcases tx_if (t := 57) (p' := 53) h em236_50 (by decide) rfl with ⟨c50_1, h⟩ | ⟨c50_1, h⟩
                · replace c50_1 : (0 : Int) = (0 : Int) := c50_1
                  replace h := tx_iconst (v := 0) (p' := 58) h em236_57 (by decide +kernel) rfl
                  obtain ⟨rfl, hμ⟩ := tx_ireturn h em236_58
                  subst hμ
                  have e0 := xs_open (K := cK μ) (d := d) (a := cA μ) (by omega) (by omega) (by unfold cK; omega) (by omega)
                  rw [pE_Kf hG28, a28a] at a38x
                  rw [pE_Kf hG28] at a38E
                  rw [pE_Kf hG38] at a47k
                  replace a47k : ¬ cK μ (cA μ38) = 41 := a47k
                  obtain ⟨⟨E1a, E1b⟩, E1c, E1d⟩ := a38E
                  rw [pE_P hG38] at a475
                  have e1 := xs_end_f (K := cK μ) (d := d + 1) (a := cA μ38) (by omega) (by have := ht.1; omega) ⟨E1c, E1d, E1a, E1b⟩ a47k (by omega)
                  exact ⟨hG47, Or.inr ⟨rfl, cA μ38, 1, (e0.trans a38x).trans e1, by decide, a474, a475⟩⟩
                · replace c50_1 : ¬ (0 : Int) = (0 : Int) := c50_1
                  exfalso
                  omega
              · have hG47 := pE_tr hG38 hg47
                have hT47 := pE_TV hG47 ht
                replace h : eT xq_236 _ 50 [some (.inr (.inl (some 12))), some (.inl dd), some (.inl (μ.1 24 (cA μ).toNat))] [.inl (0 : Int32)] μ47 r μ' := h
                rcases tx_if (t := 57) (p' := 53) h em236_50 (by decide) rfl with ⟨c50_2, h⟩ | ⟨c50_2, h⟩
                · replace c50_2 : (0 : Int) = (0 : Int) := c50_2
                  replace h := tx_iconst (v := 0) (p' := 58) h em236_57 (by decide +kernel) rfl
                  obtain ⟨rfl, hμ⟩ := tx_ireturn h em236_58
                  subst hμ
                  have e0 := xs_open (K := cK μ) (d := d) (a := cA μ) (by omega) (by omega) (by unfold cK; omega) (by omega)
                  rw [pE_Kf hG28, a28a] at a38x
                  rw [pE_Kf hG28] at a38E
                  rw [pE_Kf hG38] at a47k
                  replace a47k : cK μ (cA μ38) = 41 := a47k
                  obtain ⟨⟨E1a, E1b⟩, E1c, E1d⟩ := a38E
                  rw [pE_P hG38] at a475
                  have e1 := xs_close_f (K := cK μ) (d := d + 1) (a := cA μ38) a47k (by omega) a47m
                  exact ⟨hG47, Or.inr ⟨rfl, cA μ38, 2, (e0.trans a38x).trans e1, by decide, a474, a475⟩⟩
                · replace c50_2 : ¬ (0 : Int) = (0 : Int) := c50_2
                  exfalso
                  omega
          · have hG38 := pE_tr hG28 hg38
            have hT38 := pE_TV hG38 ht
            replace h : eT xq_236 _ 41 [some (.inr (.inl (some 12))), some (.inl dd), some (.inl (μ.1 24 (cA μ).toNat))] [.inl (0 : Int32)] μ38 r μ' := h
            rcases tx_if (t := 57) (p' := 44) h em236_41 (by decide) rfl with ⟨c41_1, h⟩ | ⟨c41_1, h⟩
            · replace c41_1 : (0 : Int) = (0 : Int) := c41_1
              replace h := tx_iconst (v := 0) (p' := 58) h em236_57 (by decide +kernel) rfl
              obtain ⟨rfl, hμ⟩ := tx_ireturn h em236_58
              subst hμ
              have e0 := xs_open (K := cK μ) (d := d) (a := cA μ) (by omega) (by omega) (by unfold cK; omega) (by omega)
              rw [pE_Kf hG28, a28a] at a38x
              rw [pE_P hG28] at a385
              exact ⟨hG38, Or.inr ⟨rfl, p38, f38, e0.trans a38x, a38f, a384, a385⟩⟩
            · replace c41_1 : ¬ (0 : Int) = (0 : Int) := c41_1
              exfalso
              omega
      · have hG28 := pE_tr hG hg28
        have hT28 := pE_TV hG28 ht
        replace h : eT xq_236 _ 31 [some (.inr (.inl (some 12))), some (.inl dd), some (.inl (μ.1 24 (cA μ).toNat))] [.inl (0 : Int32)] μ28 r μ' := h
        rcases tx_if (t := 57) (p' := 34) h em236_31 (by decide) rfl with ⟨c31_1, h⟩ | ⟨c31_1, h⟩
        · replace c31_1 : (0 : Int) = (0 : Int) := c31_1
          replace h := tx_iconst (v := 0) (p' := 58) h em236_57 (by decide +kernel) rfl
          obtain ⟨rfl, hμ⟩ := tx_ireturn h em236_58
          exfalso
          exact a28k (by show _ = (40 : Int); unfold cK; omega)
        · replace c31_1 : ¬ (0 : Int) = (0 : Int) := c31_1
          exfalso
          omega
      · have hG28 := pE_tr hG hg28
        have hT28 := pE_TV hG28 ht
        replace h : eT xq_236 _ 31 [some (.inr (.inl (some 12))), some (.inl dd), some (.inl (μ.1 24 (cA μ).toNat))] [.inl (0 : Int32)] μ28 r μ' := h
        rcases tx_if (t := 57) (p' := 34) h em236_31 (by decide) rfl with ⟨c31_2, h⟩ | ⟨c31_2, h⟩
        · replace c31_2 : (0 : Int) = (0 : Int) := c31_2
          replace h := tx_iconst (v := 0) (p' := 58) h em236_57 (by decide +kernel) rfl
          obtain ⟨rfl, hμ⟩ := tx_ireturn h em236_58
          subst hμ
          exact ⟨hG28, Or.inr ⟨rfl, cA μ, 2, xs_open_f (by omega) (by omega) (by unfold cK; omega) (Or.inr a28m), by decide, a284, a285⟩⟩
        · replace c31_2 : ¬ (0 : Int) = (0 : Int) := c31_2
          exfalso
          omega
    · replace c14 : ¬ dd.toInt < 6 := c14
      replace h := tx_aload_n (p' := 18) h em236_17 rfl rfl
      replace h := tx_iconst (v := 2) (p' := 19) h em236_18 (by decide +kernel) rfl
      obtain ⟨r19, μ19, hE19, h⟩ := tx_invV (na := 2) (mn := 10) (as := [.inr (.inl (some 12)), .inl (2 : Int32)]) (rest := []) (p' := 22) h em236_19 ((congrFun xo_3 70).trans rfl) xm_10 rfl rfl
      obtain ⟨rfl, hm⟩ := ex_fail hE19 (by have := hT.1; omega)
      replace h : eT xq_236 _ 22 [some (.inr (.inl (some 12))), some (.inl dd), some (.inl (μ.1 24 (cA μ).toNat))] [.inl (0 : Int32)] μ19 r μ' := h
      replace h := tx_goto (t := 58) h em236_22 (by decide)
      obtain ⟨rfl, hμ⟩ := tx_ireturn h em236_58
      rw [hμ, hm]
      exact ⟨pE_F pE_rf, Or.inr ⟨rfl, cA μ, 2, xs_open_f (by omega) (by omega) (by unfold cK; omega) (Or.inl (by omega)), by decide, rfl, rfl⟩⟩
set_option maxRecDepth 10000 in
set_option maxHeartbeats 4000000 in
theorem part_ok {d : Int} (hU : uS xq_236 d E1) : uS xq_235 d E2 := by
  intro dd μ μ' r hdd h0 e ha0 ha ht
  obtain ⟨n, h⟩ := tx_in (L := [some (.inr (.inl (some 12))), some (.inl dd), none, none]) h0 rfl
  have hG : pE μ μ := pE_rf
  have hT := ht
  have h400 := ht.1
  have loop : ∀ (n : Nat) (i : Int32) (o : Option zV) (ν : xM), eT xq_235 n 12 [some (.inr (.inl (some 12))), some (.inl dd), some (.inl i), o] [] ν r μ' → pE μ ν → cTV ν e → cA μ < cA ν → cA ν ≤ e → 0 ≤ cA ν → xs (cK μ) (cA μ) d false = xs (cK μ) (cA ν) d true → ν.1 12 4 = μ.1 12 4 → ν.1 12 5 = μ.1 12 5 → 0 ≤ i.toInt → 2 * i.toInt ≤ cA ν → E1 (cK μ (cA ν)) → uP e d E2 μ r μ' := by
    intro n
    induction n using Nat.strongRecOn with
    | ind n ih =>
    intro i o ν h hG hT hl hle h0a hx h4 h5 hi0 hi2 hE
    have hTν := hT
    have hGν := hG
    replace h := tx_iload_n (p' := 13) h em235_12 rfl rfl
    replace h := tx_sipush (v := 400) (p' := 16) h em235_13 (by decide +kernel) rfl
    rcases tx_icmp (t := 85) (p' := 19) h em235_16 (by decide) rfl with ⟨c16, h⟩ | ⟨c16, h⟩
    · replace c16 : 400 ≤ i.toInt := c16
      replace h := tx_iconst (v := 1) (p' := 86) h em235_85 (by decide +kernel) rfl
      obtain ⟨rfl, hμ⟩ := tx_ireturn h em235_86
      exfalso
      have := ht.1
      omega
    · replace c16 : ¬ 400 ≤ i.toInt := c16
      replace h := tx_aload_n (p' := 20) h em235_19 rfl rfl
      obtain ⟨r20, μ20, hE20, h⟩ := tx_invV (na := 1) (mn := 13) (as := [.inr (.inl (some 12))]) (rest := []) (p' := 23) h em235_20 ((congrFun xo_3 53).trans rfl) xm_13 rfl rfl
      obtain ⟨rfl, hm⟩ := ex_next hE20 (by have := ht.1; omega)
      rw [hm] at h
      replace h : eT xq_235 _ 23 [some (.inr (.inl (some 12))), some (.inl dd), some (.inl i), o] [.inl (ν.1 24 (cA ν).toNat)] ν r μ' := h
      replace h := tx_bipush (v := 42) (p' := 25) h em235_23 (by decide +kernel) rfl
      rcases tx_icmp (t := 37) (p' := 28) h em235_25 (by decide) rfl with ⟨c25, h⟩ | ⟨c25, h⟩
      · replace c25 : (ν.1 24 (cA ν).toNat).toInt = 42 := c25
        replace h := tx_aload_n (p' := 38) h em235_37 rfl rfl
        obtain ⟨r38, μ38, hE38, h⟩ := tx_invV (na := 1) (mn := 13) (as := [.inr (.inl (some 12))]) (rest := []) (p' := 41) h em235_38 ((congrFun xo_3 53).trans rfl) xm_13 rfl rfl
        obtain ⟨rfl, hm⟩ := ex_next hE38 (by have := ht.1; omega)
        rw [hm] at h
        replace h : eT xq_235 _ 41 [some (.inr (.inl (some 12))), some (.inl dd), some (.inl i), o] [.inl (ν.1 24 (cA ν).toNat)] ν r μ' := h
        replace h := tx_istore_n (p' := 42) h em235_41 rfl
        replace h : eT xq_235 _ 42 [some (.inr (.inl (some 12))), some (.inl dd), some (.inl i), some (.inl (ν.1 24 (cA ν).toNat))] [] ν r μ' := h
        replace h := tx_aload_n (p' := 43) h em235_42 rfl rfl
        replace h := tx_iload_n (p' := 44) h em235_43 rfl rfl
        obtain ⟨r44, μ44, hE44, h⟩ := tx_invV (na := 2) (mn := 9) (as := [.inr (.inl (some 12)), .inl (ν.1 24 (cA ν).toNat)]) (rest := []) (p' := 47) h em235_44 ((congrFun xo_3 89).trans rfl) xm_9 rfl rfl
        obtain ⟨hg44, ⟨rfl, a44k, a44m, a44a, a44e, a444, a445⟩ | ⟨rfl, a44k, a444, a445⟩ | ⟨rfl, a44k, a44m, a444, a445⟩⟩ := acc3 hE44 (by omega) (by omega) hT (by omega)
        · have hG44 := pE_tr hG hg44
          have hT44 := pE_TV hG44 ht
          replace h : eT xq_235 _ 47 [some (.inr (.inl (some 12))), some (.inl dd), some (.inl i), some (.inl (ν.1 24 (cA ν).toNat))] [.inl (1 : Int32)] μ44 r μ' := h
          rcases tx_if (t := 58) (p' := 50) h em235_47 (by decide) rfl with ⟨c47, h⟩ | ⟨c47, h⟩
          · replace c47 : (1 : Int) = (0 : Int) := c47
            exfalso
            omega
          · replace c47 : ¬ (1 : Int) = (0 : Int) := c47
            replace h := tx_aload_n (p' := 51) h em235_50 rfl rfl
            replace h := tx_iload_n (p' := 52) h em235_51 rfl rfl
            obtain ⟨r52, μ52, hE52, h⟩ := tx_invV (na := 2) (mn := 236) (as := [.inr (.inl (some 12)), .inl dd]) (rest := []) (p' := 55) h em235_52 ((congrFun xo_3 166).trans rfl) xm_236 rfl rfl
            obtain ⟨hg52, ⟨rfl, a52l, a52e, a52x, ⟨a524, a525⟩, a52E⟩ | ⟨rfl, p52, f52, a52x, a52f, a524, a525⟩⟩ := hU _ _ _ _ (hdd) hE52 e (by omega) (by omega) hT44
            · have hG52 := pE_tr hG44 hg52
              have hT52 := pE_TV hG52 ht
              replace h : eT xq_235 _ 55 [some (.inr (.inl (some 12))), some (.inl dd), some (.inl i), some (.inl (ν.1 24 (cA ν).toNat))] [.inl (1 : Int32)] μ52 r μ' := h
              rcases tx_if (t := 60) (p' := 58) h em235_55 (by decide) rfl with ⟨c55, h⟩ | ⟨c55, h⟩
              · replace c55 : ¬ (1 : Int) = (0 : Int) := c55
                replace h := tx_aload_n (p' := 61) h em235_60 rfl rfl
                replace h := tx_getc (c := 2) (j := 0) (p' := 64) h em235_61 ((congrFun xo_3 12).trans rfl) rfl rfl rfl
                replace h := tx_iload_n (p' := 65) h em235_64 rfl rfl
                replace h := tx_bipush (v := 42) (p' := 67) h em235_65 (by decide +kernel) rfl
                rcases tx_icmp (t := 74) (p' := 70) h em235_67 (by decide) rfl with ⟨c67, h⟩ | ⟨c67, h⟩
                · replace c67 : ¬ (ν.1 24 (cA ν).toNat).toInt = 42 := c67
                  replace h := tx_iconst (v := 5) (p' := 75) h em235_74 (by decide +kernel) rfl
                  replace h := tx_iconst (v := 0) (p' := 76) h em235_75 (by decide +kernel) rfl
                  obtain ⟨r76, μ76, hE76, h⟩ := tx_invV (na := 3) (mn := 43) (as := [.inr (.inl (some 13)), .inl (5 : Int32), .inl (0 : Int32)]) (rest := []) (p' := 79) h em235_76 ((congrFun xo_3 153).trans rfl) xm_43 rfl rfl
                  obtain ⟨rfl, hg76, hb76⟩ := ex_add hE76
                  have ha76 : cA μ76 = cA μ52 := by unfold cA; rw [hb76]
                  have hG76 := pE_tr hG52 hg76
                  have hT76 := pE_TV hG76 ht
                  replace h : eT xq_235 _ 79 [some (.inr (.inl (some 12))), some (.inl dd), some (.inl i), some (.inl (ν.1 24 (cA ν).toNat))] [] μ76 r μ' := h
                  have e1i : (1 : Int32).toInt = 1 := by decide
                  have hi1 : (i + 1).toInt = i.toInt + 1 := by rw [an_add (by rw [e1i]; have := ht.1; omega) (by rw [e1i]; have := ht.1; omega), e1i]
                  replace h := tx_iinc (v := 1) (p' := 82) h em235_79 (by decide +kernel) rfl rfl
                  replace h : eT xq_235 _ 82 [some (.inr (.inl (some 12))), some (.inl dd), some (.inl (i + 1)), some (.inl (ν.1 24 (cA ν).toNat))] [] μ76 r μ' := h
                  obtain ⟨n2, hn2, h⟩ := tx_gotoS (t := 12) h em235_82 (by decide)
                  have k1 := pE_K hG (cA ν)
                  unfold cK at k1
                  have e1 := xs_sign (K := cK μ) (d := d) (a := cA ν) (by omega) (by omega) (by unfold cK; omega)
                  rw [← a44a] at e1
                  rw [pE_Kf hG44] at a52x
                  exact ih n2 hn2 _ _ _ h hG76 hT76 (by omega) (by omega) (by omega) (by rw [ha76]; exact (hx.trans e1).trans a52x) (by rw [hb76, a524, a444, h4]) (by rw [hb76, a525, a445, h5]) (by rw [hi1]; omega) (by rw [hi1]; omega) (trivial)
                · replace c67 : ¬ ¬ (ν.1 24 (cA ν).toNat).toInt = 42 := c67
                  replace h := tx_iconst (v := 4) (p' := 71) h em235_70 (by decide +kernel) rfl
                  replace h := tx_goto (t := 75) h em235_71 (by decide)
                  replace h := tx_iconst (v := 0) (p' := 76) h em235_75 (by decide +kernel) rfl
                  obtain ⟨r76_1, μ76_1, hE76_1, h⟩ := tx_invV (na := 3) (mn := 43) (as := [.inr (.inl (some 13)), .inl (4 : Int32), .inl (0 : Int32)]) (rest := []) (p' := 79) h em235_76 ((congrFun xo_3 153).trans rfl) xm_43 rfl rfl
                  obtain ⟨rfl, hg76_1, hb76_1⟩ := ex_add hE76_1
                  have ha76_1 : cA μ76_1 = cA μ52 := by unfold cA; rw [hb76_1]
                  have hG76_1 := pE_tr hG52 hg76_1
                  have hT76_1 := pE_TV hG76_1 ht
                  replace h : eT xq_235 _ 79 [some (.inr (.inl (some 12))), some (.inl dd), some (.inl i), some (.inl (ν.1 24 (cA ν).toNat))] [] μ76_1 r μ' := h
                  have e1i : (1 : Int32).toInt = 1 := by decide
                  have hi1 : (i + 1).toInt = i.toInt + 1 := by rw [an_add (by rw [e1i]; have := ht.1; omega) (by rw [e1i]; have := ht.1; omega), e1i]
                  replace h := tx_iinc (v := 1) (p' := 82) h em235_79 (by decide +kernel) rfl rfl
                  replace h : eT xq_235 _ 82 [some (.inr (.inl (some 12))), some (.inl dd), some (.inl (i + 1)), some (.inl (ν.1 24 (cA ν).toNat))] [] μ76_1 r μ' := h
                  obtain ⟨n2, hn2, h⟩ := tx_gotoS (t := 12) h em235_82 (by decide)
                  have k1 := pE_K hG (cA ν)
                  unfold cK at k1
                  have e1 := xs_sign (K := cK μ) (d := d) (a := cA ν) (by omega) (by omega) (by unfold cK; omega)
                  rw [← a44a] at e1
                  rw [pE_Kf hG44] at a52x
                  exact ih n2 hn2 _ _ _ h hG76_1 hT76_1 (by omega) (by omega) (by omega) (by rw [ha76_1]; exact (hx.trans e1).trans a52x) (by rw [hb76_1, a524, a444, h4]) (by rw [hb76_1, a525, a445, h5]) (by rw [hi1]; omega) (by rw [hi1]; omega) (trivial)
              · replace c55 : ¬ ¬ (1 : Int) = (0 : Int) := c55
                exfalso
                omega
            · have hG52 := pE_tr hG44 hg52
              have hT52 := pE_TV hG52 ht
              replace h : eT xq_235 _ 55 [some (.inr (.inl (some 12))), some (.inl dd), some (.inl i), some (.inl (ν.1 24 (cA ν).toNat))] [.inl (0 : Int32)] μ52 r μ' := h
              rcases tx_if (t := 60) (p' := 58) h em235_55 (by decide) rfl with ⟨c55_1, h⟩ | ⟨c55_1, h⟩
              · replace c55_1 : ¬ (0 : Int) = (0 : Int) := c55_1
                exfalso
                omega
              · replace c55_1 : ¬ ¬ (0 : Int) = (0 : Int) := c55_1
                replace h := tx_iconst (v := 0) (p' := 59) h em235_58 (by decide +kernel) rfl
                obtain ⟨rfl, hμ⟩ := tx_ireturn h em235_59
                have k1 := pE_K hG (cA ν)
                unfold cK at k1
                have e1 := xs_sign (K := cK μ) (d := d) (a := cA ν) (by omega) (by omega) (by unfold cK; omega)
                rw [← a44a] at e1
                rw [pE_Kf hG44] at a52x
                rw [pE_P hG44] at a525
                rw [hμ]
                exact ⟨hG52, Or.inr ⟨rfl, p52, f52, (hx.trans e1).trans a52x, a52f, a524, a525⟩⟩
        · have hG44 := pE_tr hG hg44
          have hT44 := pE_TV hG44 ht
          replace h : eT xq_235 _ 47 [some (.inr (.inl (some 12))), some (.inl dd), some (.inl i), some (.inl (ν.1 24 (cA ν).toNat))] [.inl (0 : Int32)] μ44 r μ' := h
          rcases tx_if (t := 58) (p' := 50) h em235_47 (by decide) rfl with ⟨c47_1, h⟩ | ⟨c47_1, h⟩
          · replace c47_1 : (0 : Int) = (0 : Int) := c47_1
            replace h := tx_iconst (v := 0) (p' := 59) h em235_58 (by decide +kernel) rfl
            obtain ⟨rfl, hμ⟩ := tx_ireturn h em235_59
            exfalso
            exact a44k rfl
          · replace c47_1 : ¬ (0 : Int) = (0 : Int) := c47_1
            exfalso
            omega
        · have hG44 := pE_tr hG hg44
          have hT44 := pE_TV hG44 ht
          replace h : eT xq_235 _ 47 [some (.inr (.inl (some 12))), some (.inl dd), some (.inl i), some (.inl (ν.1 24 (cA ν).toNat))] [.inl (0 : Int32)] μ44 r μ' := h
          rcases tx_if (t := 58) (p' := 50) h em235_47 (by decide) rfl with ⟨c47_2, h⟩ | ⟨c47_2, h⟩
          · replace c47_2 : (0 : Int) = (0 : Int) := c47_2
            replace h := tx_iconst (v := 0) (p' := 59) h em235_58 (by decide +kernel) rfl
            obtain ⟨rfl, hμ⟩ := tx_ireturn h em235_59
            have k1 := pE_K hG (cA ν)
            rw [hμ]
            unfold cK at a44k k1
            rw [pE_P hG] at a445
            exact ⟨hG44, Or.inr ⟨rfl, cA ν, 2, hx.trans (xs_sign_f (by unfold cK; omega) a44m), by decide, a444, a445⟩⟩
          · replace c47_2 : ¬ (0 : Int) = (0 : Int) := c47_2
            exfalso
            omega
      · replace c25 : ¬ (ν.1 24 (cA ν).toNat).toInt = 42 := c25
        replace h := tx_aload_n (p' := 29) h em235_28 rfl rfl
        obtain ⟨r29, μ29, hE29, h⟩ := tx_invV (na := 1) (mn := 13) (as := [.inr (.inl (some 12))]) (rest := []) (p' := 32) h em235_29 ((congrFun xo_3 53).trans rfl) xm_13 rfl rfl
        obtain ⟨rfl, hm⟩ := ex_next hE29 (by have := ht.1; omega)
        rw [hm] at h
        replace h : eT xq_235 _ 32 [some (.inr (.inl (some 12))), some (.inl dd), some (.inl i), o] [.inl (ν.1 24 (cA ν).toNat)] ν r μ' := h
        replace h := tx_bipush (v := 47) (p' := 34) h em235_32 (by decide +kernel) rfl
        rcases tx_icmp (t := 85) (p' := 37) h em235_34 (by decide) rfl with ⟨c34, h⟩ | ⟨c34, h⟩
        · replace c34 : ¬ (ν.1 24 (cA ν).toNat).toInt = 47 := c34
          replace h := tx_iconst (v := 1) (p' := 86) h em235_85 (by decide +kernel) rfl
          obtain ⟨rfl, hμ⟩ := tx_ireturn h em235_86
          have k1 := pE_K hG (cA ν)
          unfold cK at k1
          rw [hμ]
          exact ⟨hG, Or.inl ⟨rfl, hl, hle, hx, ⟨h4, h5⟩, ⟨by unfold cK; omega, by unfold cK; omega⟩⟩⟩
        · replace c34 : ¬ ¬ (ν.1 24 (cA ν).toNat).toInt = 47 := c34
          replace h := tx_aload_n (p' := 38) h em235_37 rfl rfl
          obtain ⟨r38_1, μ38_1, hE38_1, h⟩ := tx_invV (na := 1) (mn := 13) (as := [.inr (.inl (some 12))]) (rest := []) (p' := 41) h em235_38 ((congrFun xo_3 53).trans rfl) xm_13 rfl rfl
          obtain ⟨rfl, hm⟩ := ex_next hE38_1 (by have := ht.1; omega)
          rw [hm] at h
          replace h : eT xq_235 _ 41 [some (.inr (.inl (some 12))), some (.inl dd), some (.inl i), o] [.inl (ν.1 24 (cA ν).toNat)] ν r μ' := h
          replace h := tx_istore_n (p' := 42) h em235_41 rfl
          replace h : eT xq_235 _ 42 [some (.inr (.inl (some 12))), some (.inl dd), some (.inl i), some (.inl (ν.1 24 (cA ν).toNat))] [] ν r μ' := h
          replace h := tx_aload_n (p' := 43) h em235_42 rfl rfl
          replace h := tx_iload_n (p' := 44) h em235_43 rfl rfl
          obtain ⟨r44_1, μ44_1, hE44_1, h⟩ := tx_invV (na := 2) (mn := 9) (as := [.inr (.inl (some 12)), .inl (ν.1 24 (cA ν).toNat)]) (rest := []) (p' := 47) h em235_44 ((congrFun xo_3 89).trans rfl) xm_9 rfl rfl
          obtain ⟨hg44_1, ⟨rfl, a44_1k, a44_1m, a44_1a, a44_1e, a44_14, a44_15⟩ | ⟨rfl, a44_1k, a44_14, a44_15⟩ | ⟨rfl, a44_1k, a44_1m, a44_14, a44_15⟩⟩ := acc3 hE44_1 (by omega) (by omega) hT (by omega)
          · have hG44_1 := pE_tr hG hg44_1
            have hT44_1 := pE_TV hG44_1 ht
            replace h : eT xq_235 _ 47 [some (.inr (.inl (some 12))), some (.inl dd), some (.inl i), some (.inl (ν.1 24 (cA ν).toNat))] [.inl (1 : Int32)] μ44_1 r μ' := h
            rcases tx_if (t := 58) (p' := 50) h em235_47 (by decide) rfl with ⟨c47_3, h⟩ | ⟨c47_3, h⟩
            · replace c47_3 : (1 : Int) = (0 : Int) := c47_3
              exfalso
              omega
            · replace c47_3 : ¬ (1 : Int) = (0 : Int) := c47_3
              replace h := tx_aload_n (p' := 51) h em235_50 rfl rfl
              replace h := tx_iload_n (p' := 52) h em235_51 rfl rfl
              obtain ⟨r52_1, μ52_1, hE52_1, h⟩ := tx_invV (na := 2) (mn := 236) (as := [.inr (.inl (some 12)), .inl dd]) (rest := []) (p' := 55) h em235_52 ((congrFun xo_3 166).trans rfl) xm_236 rfl rfl
              obtain ⟨hg52_1, ⟨rfl, a52_1l, a52_1e, a52_1x, ⟨a52_14, a52_15⟩, a52_1E⟩ | ⟨rfl, p52_1, f52_1, a52_1x, a52_1f, a52_14, a52_15⟩⟩ := hU _ _ _ _ (hdd) hE52_1 e (by omega) (by omega) hT44_1
              · have hG52_1 := pE_tr hG44_1 hg52_1
                have hT52_1 := pE_TV hG52_1 ht
                replace h : eT xq_235 _ 55 [some (.inr (.inl (some 12))), some (.inl dd), some (.inl i), some (.inl (ν.1 24 (cA ν).toNat))] [.inl (1 : Int32)] μ52_1 r μ' := h
                rcases tx_if (t := 60) (p' := 58) h em235_55 (by decide) rfl with ⟨c55_2, h⟩ | ⟨c55_2, h⟩
                · replace c55_2 : ¬ (1 : Int) = (0 : Int) := c55_2
                  replace h := tx_aload_n (p' := 61) h em235_60 rfl rfl
                  replace h := tx_getc (c := 2) (j := 0) (p' := 64) h em235_61 ((congrFun xo_3 12).trans rfl) rfl rfl rfl
                  replace h := tx_iload_n (p' := 65) h em235_64 rfl rfl
                  replace h := tx_bipush (v := 42) (p' := 67) h em235_65 (by decide +kernel) rfl
                  rcases tx_icmp (t := 74) (p' := 70) h em235_67 (by decide) rfl with ⟨c67_1, h⟩ | ⟨c67_1, h⟩
                  · replace c67_1 : ¬ (ν.1 24 (cA ν).toNat).toInt = 42 := c67_1
                    replace h := tx_iconst (v := 5) (p' := 75) h em235_74 (by decide +kernel) rfl
                    replace h := tx_iconst (v := 0) (p' := 76) h em235_75 (by decide +kernel) rfl
                    obtain ⟨r76_2, μ76_2, hE76_2, h⟩ := tx_invV (na := 3) (mn := 43) (as := [.inr (.inl (some 13)), .inl (5 : Int32), .inl (0 : Int32)]) (rest := []) (p' := 79) h em235_76 ((congrFun xo_3 153).trans rfl) xm_43 rfl rfl
                    obtain ⟨rfl, hg76_2, hb76_2⟩ := ex_add hE76_2
                    have ha76_2 : cA μ76_2 = cA μ52_1 := by unfold cA; rw [hb76_2]
                    have hG76_2 := pE_tr hG52_1 hg76_2
                    have hT76_2 := pE_TV hG76_2 ht
                    replace h : eT xq_235 _ 79 [some (.inr (.inl (some 12))), some (.inl dd), some (.inl i), some (.inl (ν.1 24 (cA ν).toNat))] [] μ76_2 r μ' := h
                    have e1i : (1 : Int32).toInt = 1 := by decide
                    have hi1 : (i + 1).toInt = i.toInt + 1 := by rw [an_add (by rw [e1i]; have := ht.1; omega) (by rw [e1i]; have := ht.1; omega), e1i]
                    replace h := tx_iinc (v := 1) (p' := 82) h em235_79 (by decide +kernel) rfl rfl
                    replace h : eT xq_235 _ 82 [some (.inr (.inl (some 12))), some (.inl dd), some (.inl (i + 1)), some (.inl (ν.1 24 (cA ν).toNat))] [] μ76_2 r μ' := h
                    obtain ⟨n2, hn2, h⟩ := tx_gotoS (t := 12) h em235_82 (by decide)
                    have k1 := pE_K hG (cA ν)
                    unfold cK at k1
                    have e1 := xs_sign (K := cK μ) (d := d) (a := cA ν) (by omega) (by omega) (by unfold cK; omega)
                    rw [← a44_1a] at e1
                    rw [pE_Kf hG44_1] at a52_1x
                    exact ih n2 hn2 _ _ _ h hG76_2 hT76_2 (by omega) (by omega) (by omega) (by rw [ha76_2]; exact (hx.trans e1).trans a52_1x) (by rw [hb76_2, a52_14, a44_14, h4]) (by rw [hb76_2, a52_15, a44_15, h5]) (by rw [hi1]; omega) (by rw [hi1]; omega) (trivial)
                  · replace c67_1 : ¬ ¬ (ν.1 24 (cA ν).toNat).toInt = 42 := c67_1
                    replace h := tx_iconst (v := 4) (p' := 71) h em235_70 (by decide +kernel) rfl
                    replace h := tx_goto (t := 75) h em235_71 (by decide)
                    replace h := tx_iconst (v := 0) (p' := 76) h em235_75 (by decide +kernel) rfl
                    obtain ⟨r76_3, μ76_3, hE76_3, h⟩ := tx_invV (na := 3) (mn := 43) (as := [.inr (.inl (some 13)), .inl (4 : Int32), .inl (0 : Int32)]) (rest := []) (p' := 79) h em235_76 ((congrFun xo_3 153).trans rfl) xm_43 rfl rfl
                    obtain ⟨rfl, hg76_3, hb76_3⟩ := ex_add hE76_3
                    have ha76_3 : cA μ76_3 = cA μ52_1 := by unfold cA; rw [hb76_3]
                    have hG76_3 := pE_tr hG52_1 hg76_3
                    have hT76_3 := pE_TV hG76_3 ht
                    replace h : eT xq_235 _ 79 [some (.inr (.inl (some 12))), some (.inl dd), some (.inl i), some (.inl (ν.1 24 (cA ν).toNat))] [] μ76_3 r μ' := h
                    have e1i : (1 : Int32).toInt = 1 := by decide
                    have hi1 : (i + 1).toInt = i.toInt + 1 := by rw [an_add (by rw [e1i]; have := ht.1; omega) (by rw [e1i]; have := ht.1; omega), e1i]
                    replace h := tx_iinc (v := 1) (p' := 82) h em235_79 (by decide +kernel) rfl rfl
                    replace h : eT xq_235 _ 82 [some (.inr (.inl (some 12))), some (.inl dd), some (.inl (i + 1)), some (.inl (ν.1 24 (cA ν).toNat))] [] μ76_3 r μ' := h
                    obtain ⟨n2, hn2, h⟩ := tx_gotoS (t := 12) h em235_82 (by decide)
                    have k1 := pE_K hG (cA ν)
                    unfold cK at k1
                    have e1 := xs_sign (K := cK μ) (d := d) (a := cA ν) (by omega) (by omega) (by unfold cK; omega)
                    rw [← a44_1a] at e1
                    rw [pE_Kf hG44_1] at a52_1x
                    exact ih n2 hn2 _ _ _ h hG76_3 hT76_3 (by omega) (by omega) (by omega) (by rw [ha76_3]; exact (hx.trans e1).trans a52_1x) (by rw [hb76_3, a52_14, a44_14, h4]) (by rw [hb76_3, a52_15, a44_15, h5]) (by rw [hi1]; omega) (by rw [hi1]; omega) (trivial)
                · replace c55_2 : ¬ ¬ (1 : Int) = (0 : Int) := c55_2
                  exfalso
                  omega
              · have hG52_1 := pE_tr hG44_1 hg52_1
                have hT52_1 := pE_TV hG52_1 ht
                replace h : eT xq_235 _ 55 [some (.inr (.inl (some 12))), some (.inl dd), some (.inl i), some (.inl (ν.1 24 (cA ν).toNat))] [.inl (0 : Int32)] μ52_1 r μ' := h
                rcases tx_if (t := 60) (p' := 58) h em235_55 (by decide) rfl with ⟨c55_3, h⟩ | ⟨c55_3, h⟩
                · replace c55_3 : ¬ (0 : Int) = (0 : Int) := c55_3
                  exfalso
                  omega
                · replace c55_3 : ¬ ¬ (0 : Int) = (0 : Int) := c55_3
                  replace h := tx_iconst (v := 0) (p' := 59) h em235_58 (by decide +kernel) rfl
                  obtain ⟨rfl, hμ⟩ := tx_ireturn h em235_59
                  have k1 := pE_K hG (cA ν)
                  unfold cK at k1
                  have e1 := xs_sign (K := cK μ) (d := d) (a := cA ν) (by omega) (by omega) (by unfold cK; omega)
                  rw [← a44_1a] at e1
                  rw [pE_Kf hG44_1] at a52_1x
                  rw [pE_P hG44_1] at a52_15
                  rw [hμ]
                  exact ⟨hG52_1, Or.inr ⟨rfl, p52_1, f52_1, (hx.trans e1).trans a52_1x, a52_1f, a52_14, a52_15⟩⟩
          · have hG44_1 := pE_tr hG hg44_1
            have hT44_1 := pE_TV hG44_1 ht
            replace h : eT xq_235 _ 47 [some (.inr (.inl (some 12))), some (.inl dd), some (.inl i), some (.inl (ν.1 24 (cA ν).toNat))] [.inl (0 : Int32)] μ44_1 r μ' := h
            rcases tx_if (t := 58) (p' := 50) h em235_47 (by decide) rfl with ⟨c47_4, h⟩ | ⟨c47_4, h⟩
            · replace c47_4 : (0 : Int) = (0 : Int) := c47_4
              replace h := tx_iconst (v := 0) (p' := 59) h em235_58 (by decide +kernel) rfl
              obtain ⟨rfl, hμ⟩ := tx_ireturn h em235_59
              exfalso
              exact a44_1k rfl
            · replace c47_4 : ¬ (0 : Int) = (0 : Int) := c47_4
              exfalso
              omega
          · have hG44_1 := pE_tr hG hg44_1
            have hT44_1 := pE_TV hG44_1 ht
            replace h : eT xq_235 _ 47 [some (.inr (.inl (some 12))), some (.inl dd), some (.inl i), some (.inl (ν.1 24 (cA ν).toNat))] [.inl (0 : Int32)] μ44_1 r μ' := h
            rcases tx_if (t := 58) (p' := 50) h em235_47 (by decide) rfl with ⟨c47_5, h⟩ | ⟨c47_5, h⟩
            · replace c47_5 : (0 : Int) = (0 : Int) := c47_5
              replace h := tx_iconst (v := 0) (p' := 59) h em235_58 (by decide +kernel) rfl
              obtain ⟨rfl, hμ⟩ := tx_ireturn h em235_59
              have k1 := pE_K hG (cA ν)
              rw [hμ]
              unfold cK at a44_1k k1
              rw [pE_P hG] at a44_15
              exact ⟨hG44_1, Or.inr ⟨rfl, cA ν, 2, hx.trans (xs_sign_f (by unfold cK; omega) a44_1m), by decide, a44_14, a44_15⟩⟩
            · replace c47_5 : ¬ (0 : Int) = (0 : Int) := c47_5
              exfalso
              omega
  replace h := tx_aload_n (p' := 1) h em235_0 rfl rfl
  replace h := tx_iload_n (p' := 2) h em235_1 rfl rfl
  obtain ⟨r2, μ2, hE2, h⟩ := tx_invV (na := 2) (mn := 236) (as := [.inr (.inl (some 12)), .inl dd]) (rest := []) (p' := 5) h em235_2 ((congrFun xo_3 166).trans rfl) xm_236 rfl rfl
  obtain ⟨hg2, ⟨rfl, a2l, a2e, a2x, ⟨a24, a25⟩, a2E⟩ | ⟨rfl, p2, f2, a2x, a2f, a24, a25⟩⟩ := hU _ _ _ _ (hdd) hE2 e (by omega) (by omega) hT
  · have hG2 := pE_tr hG hg2
    have hT2 := pE_TV hG2 ht
    replace h : eT xq_235 _ 5 [some (.inr (.inl (some 12))), some (.inl dd), none, none] [.inl (1 : Int32)] μ2 r μ' := h
    rcases tx_if (t := 10) (p' := 8) h em235_5 (by decide) rfl with ⟨c5, h⟩ | ⟨c5, h⟩
    · replace c5 : ¬ (1 : Int) = (0 : Int) := c5
      replace h := tx_iconst (v := 0) (p' := 11) h em235_10 (by decide +kernel) rfl
      replace h := tx_istore_n (p' := 12) h em235_11 rfl
      replace h : eT xq_235 _ 12 [some (.inr (.inl (some 12))), some (.inl dd), some (.inl (0 : Int32)), none] [] μ2 r μ' := h
      exact loop _ _ _ _ h hG2 hT2 a2l a2e (by omega) a2x a24 a25 (by decide) (by show 2 * (0 : Int) ≤ _; omega) a2E
    · replace c5 : ¬ ¬ (1 : Int) = (0 : Int) := c5
      exfalso
      omega
  · have hG2 := pE_tr hG hg2
    have hT2 := pE_TV hG2 ht
    replace h : eT xq_235 _ 5 [some (.inr (.inl (some 12))), some (.inl dd), none, none] [.inl (0 : Int32)] μ2 r μ' := h
    rcases tx_if (t := 10) (p' := 8) h em235_5 (by decide) rfl with ⟨c5_1, h⟩ | ⟨c5_1, h⟩
    · replace c5_1 : ¬ (0 : Int) = (0 : Int) := c5_1
      exfalso
      omega
    · replace c5_1 : ¬ ¬ (0 : Int) = (0 : Int) := c5_1
      replace h := tx_iconst (v := 0) (p' := 9) h em235_8 (by decide +kernel) rfl
      obtain ⟨rfl, hμ⟩ := tx_ireturn h em235_9
      rw [hμ]
      exact ⟨hG2, Or.inr ⟨rfl, p2, f2, a2x, a2f, a24, a25⟩⟩
set_option maxRecDepth 10000 in
set_option maxHeartbeats 4000000 in
theorem sum_ok {d : Int} (hU : uS xq_235 d E2) : uS xq_234 d E3 := by
  intro dd μ μ' r hdd h0 e ha0 ha ht
  obtain ⟨n, h⟩ := tx_in (L := [some (.inr (.inl (some 12))), some (.inl dd), none, none]) h0 rfl
  have hG : pE μ μ := pE_rf
  have hT := ht
  have h400 := ht.1
  have loop : ∀ (n : Nat) (i : Int32) (o : Option zV) (ν : xM), eT xq_234 n 12 [some (.inr (.inl (some 12))), some (.inl dd), some (.inl i), o] [] ν r μ' → pE μ ν → cTV ν e → cA μ < cA ν → cA ν ≤ e → 0 ≤ cA ν → xs (cK μ) (cA μ) d false = xs (cK μ) (cA ν) d true → ν.1 12 4 = μ.1 12 4 → ν.1 12 5 = μ.1 12 5 → 0 ≤ i.toInt → 2 * i.toInt ≤ cA ν → E2 (cK μ (cA ν)) → uP e d E3 μ r μ' := by
    intro n
    induction n using Nat.strongRecOn with
    | ind n ih =>
    intro i o ν h hG hT hl hle h0a hx h4 h5 hi0 hi2 hE
    have hTν := hT
    have hGν := hG
    replace h := tx_iload_n (p' := 13) h em234_12 rfl rfl
    replace h := tx_sipush (v := 400) (p' := 16) h em234_13 (by decide +kernel) rfl
    rcases tx_icmp (t := 85) (p' := 19) h em234_16 (by decide) rfl with ⟨c16, h⟩ | ⟨c16, h⟩
    · replace c16 : 400 ≤ i.toInt := c16
      replace h := tx_iconst (v := 1) (p' := 86) h em234_85 (by decide +kernel) rfl
      obtain ⟨rfl, hμ⟩ := tx_ireturn h em234_86
      exfalso
      have := ht.1
      omega
    · replace c16 : ¬ 400 ≤ i.toInt := c16
      replace h := tx_aload_n (p' := 20) h em234_19 rfl rfl
      obtain ⟨r20, μ20, hE20, h⟩ := tx_invV (na := 1) (mn := 13) (as := [.inr (.inl (some 12))]) (rest := []) (p' := 23) h em234_20 ((congrFun xo_3 53).trans rfl) xm_13 rfl rfl
      obtain ⟨rfl, hm⟩ := ex_next hE20 (by have := ht.1; omega)
      rw [hm] at h
      replace h : eT xq_234 _ 23 [some (.inr (.inl (some 12))), some (.inl dd), some (.inl i), o] [.inl (ν.1 24 (cA ν).toNat)] ν r μ' := h
      replace h := tx_bipush (v := 43) (p' := 25) h em234_23 (by decide +kernel) rfl
      rcases tx_icmp (t := 37) (p' := 28) h em234_25 (by decide) rfl with ⟨c25, h⟩ | ⟨c25, h⟩
      · replace c25 : (ν.1 24 (cA ν).toNat).toInt = 43 := c25
        replace h := tx_aload_n (p' := 38) h em234_37 rfl rfl
        obtain ⟨r38, μ38, hE38, h⟩ := tx_invV (na := 1) (mn := 13) (as := [.inr (.inl (some 12))]) (rest := []) (p' := 41) h em234_38 ((congrFun xo_3 53).trans rfl) xm_13 rfl rfl
        obtain ⟨rfl, hm⟩ := ex_next hE38 (by have := ht.1; omega)
        rw [hm] at h
        replace h : eT xq_234 _ 41 [some (.inr (.inl (some 12))), some (.inl dd), some (.inl i), o] [.inl (ν.1 24 (cA ν).toNat)] ν r μ' := h
        replace h := tx_istore_n (p' := 42) h em234_41 rfl
        replace h : eT xq_234 _ 42 [some (.inr (.inl (some 12))), some (.inl dd), some (.inl i), some (.inl (ν.1 24 (cA ν).toNat))] [] ν r μ' := h
        replace h := tx_aload_n (p' := 43) h em234_42 rfl rfl
        replace h := tx_iload_n (p' := 44) h em234_43 rfl rfl
        obtain ⟨r44, μ44, hE44, h⟩ := tx_invV (na := 2) (mn := 9) (as := [.inr (.inl (some 12)), .inl (ν.1 24 (cA ν).toNat)]) (rest := []) (p' := 47) h em234_44 ((congrFun xo_3 89).trans rfl) xm_9 rfl rfl
        obtain ⟨hg44, ⟨rfl, a44k, a44m, a44a, a44e, a444, a445⟩ | ⟨rfl, a44k, a444, a445⟩ | ⟨rfl, a44k, a44m, a444, a445⟩⟩ := acc3 hE44 (by omega) (by omega) hT (by omega)
        · have hG44 := pE_tr hG hg44
          have hT44 := pE_TV hG44 ht
          replace h : eT xq_234 _ 47 [some (.inr (.inl (some 12))), some (.inl dd), some (.inl i), some (.inl (ν.1 24 (cA ν).toNat))] [.inl (1 : Int32)] μ44 r μ' := h
          rcases tx_if (t := 58) (p' := 50) h em234_47 (by decide) rfl with ⟨c47, h⟩ | ⟨c47, h⟩
          · replace c47 : (1 : Int) = (0 : Int) := c47
            exfalso
            omega
          · replace c47 : ¬ (1 : Int) = (0 : Int) := c47
            replace h := tx_aload_n (p' := 51) h em234_50 rfl rfl
            replace h := tx_iload_n (p' := 52) h em234_51 rfl rfl
            obtain ⟨r52, μ52, hE52, h⟩ := tx_invV (na := 2) (mn := 235) (as := [.inr (.inl (some 12)), .inl dd]) (rest := []) (p' := 55) h em234_52 ((congrFun xo_3 163).trans rfl) xm_235 rfl rfl
            obtain ⟨hg52, ⟨rfl, a52l, a52e, a52x, ⟨a524, a525⟩, a52E⟩ | ⟨rfl, p52, f52, a52x, a52f, a524, a525⟩⟩ := hU _ _ _ _ (hdd) hE52 e (by omega) (by omega) hT44
            · have hG52 := pE_tr hG44 hg52
              have hT52 := pE_TV hG52 ht
              replace h : eT xq_234 _ 55 [some (.inr (.inl (some 12))), some (.inl dd), some (.inl i), some (.inl (ν.1 24 (cA ν).toNat))] [.inl (1 : Int32)] μ52 r μ' := h
              rcases tx_if (t := 60) (p' := 58) h em234_55 (by decide) rfl with ⟨c55, h⟩ | ⟨c55, h⟩
              · replace c55 : ¬ (1 : Int) = (0 : Int) := c55
                replace h := tx_aload_n (p' := 61) h em234_60 rfl rfl
                replace h := tx_getc (c := 2) (j := 0) (p' := 64) h em234_61 ((congrFun xo_3 12).trans rfl) rfl rfl rfl
                replace h := tx_iload_n (p' := 65) h em234_64 rfl rfl
                replace h := tx_bipush (v := 43) (p' := 67) h em234_65 (by decide +kernel) rfl
                rcases tx_icmp (t := 74) (p' := 70) h em234_67 (by decide) rfl with ⟨c67, h⟩ | ⟨c67, h⟩
                · replace c67 : ¬ (ν.1 24 (cA ν).toNat).toInt = 43 := c67
                  replace h := tx_iconst (v := 3) (p' := 75) h em234_74 (by decide +kernel) rfl
                  replace h := tx_iconst (v := 0) (p' := 76) h em234_75 (by decide +kernel) rfl
                  obtain ⟨r76, μ76, hE76, h⟩ := tx_invV (na := 3) (mn := 43) (as := [.inr (.inl (some 13)), .inl (3 : Int32), .inl (0 : Int32)]) (rest := []) (p' := 79) h em234_76 ((congrFun xo_3 153).trans rfl) xm_43 rfl rfl
                  obtain ⟨rfl, hg76, hb76⟩ := ex_add hE76
                  have ha76 : cA μ76 = cA μ52 := by unfold cA; rw [hb76]
                  have hG76 := pE_tr hG52 hg76
                  have hT76 := pE_TV hG76 ht
                  replace h : eT xq_234 _ 79 [some (.inr (.inl (some 12))), some (.inl dd), some (.inl i), some (.inl (ν.1 24 (cA ν).toNat))] [] μ76 r μ' := h
                  have e1i : (1 : Int32).toInt = 1 := by decide
                  have hi1 : (i + 1).toInt = i.toInt + 1 := by rw [an_add (by rw [e1i]; have := ht.1; omega) (by rw [e1i]; have := ht.1; omega), e1i]
                  replace h := tx_iinc (v := 1) (p' := 82) h em234_79 (by decide +kernel) rfl rfl
                  replace h : eT xq_234 _ 82 [some (.inr (.inl (some 12))), some (.inl dd), some (.inl (i + 1)), some (.inl (ν.1 24 (cA ν).toNat))] [] μ76 r μ' := h
                  obtain ⟨n2, hn2, h⟩ := tx_gotoS (t := 12) h em234_82 (by decide)
                  have k1 := pE_K hG (cA ν)
                  unfold cK at k1
                  have e1 := xs_sign (K := cK μ) (d := d) (a := cA ν) (by omega) (by omega) (by unfold cK; omega)
                  rw [← a44a] at e1
                  rw [pE_Kf hG44] at a52x
                  rw [pE_Kf hG44] at a52E
                  exact ih n2 hn2 _ _ _ h hG76 hT76 (by omega) (by omega) (by omega) (by rw [ha76]; exact (hx.trans e1).trans a52x) (by rw [hb76, a524, a444, h4]) (by rw [hb76, a525, a445, h5]) (by rw [hi1]; omega) (by rw [hi1]; omega) (by rw [ha76]; exact a52E)
                · replace c67 : ¬ ¬ (ν.1 24 (cA ν).toNat).toInt = 43 := c67
                  replace h := tx_iconst (v := 2) (p' := 71) h em234_70 (by decide +kernel) rfl
                  replace h := tx_goto (t := 75) h em234_71 (by decide)
                  replace h := tx_iconst (v := 0) (p' := 76) h em234_75 (by decide +kernel) rfl
                  obtain ⟨r76_1, μ76_1, hE76_1, h⟩ := tx_invV (na := 3) (mn := 43) (as := [.inr (.inl (some 13)), .inl (2 : Int32), .inl (0 : Int32)]) (rest := []) (p' := 79) h em234_76 ((congrFun xo_3 153).trans rfl) xm_43 rfl rfl
                  obtain ⟨rfl, hg76_1, hb76_1⟩ := ex_add hE76_1
                  have ha76_1 : cA μ76_1 = cA μ52 := by unfold cA; rw [hb76_1]
                  have hG76_1 := pE_tr hG52 hg76_1
                  have hT76_1 := pE_TV hG76_1 ht
                  replace h : eT xq_234 _ 79 [some (.inr (.inl (some 12))), some (.inl dd), some (.inl i), some (.inl (ν.1 24 (cA ν).toNat))] [] μ76_1 r μ' := h
                  have e1i : (1 : Int32).toInt = 1 := by decide
                  have hi1 : (i + 1).toInt = i.toInt + 1 := by rw [an_add (by rw [e1i]; have := ht.1; omega) (by rw [e1i]; have := ht.1; omega), e1i]
                  replace h := tx_iinc (v := 1) (p' := 82) h em234_79 (by decide +kernel) rfl rfl
                  replace h : eT xq_234 _ 82 [some (.inr (.inl (some 12))), some (.inl dd), some (.inl (i + 1)), some (.inl (ν.1 24 (cA ν).toNat))] [] μ76_1 r μ' := h
                  obtain ⟨n2, hn2, h⟩ := tx_gotoS (t := 12) h em234_82 (by decide)
                  have k1 := pE_K hG (cA ν)
                  unfold cK at k1
                  have e1 := xs_sign (K := cK μ) (d := d) (a := cA ν) (by omega) (by omega) (by unfold cK; omega)
                  rw [← a44a] at e1
                  rw [pE_Kf hG44] at a52x
                  rw [pE_Kf hG44] at a52E
                  exact ih n2 hn2 _ _ _ h hG76_1 hT76_1 (by omega) (by omega) (by omega) (by rw [ha76_1]; exact (hx.trans e1).trans a52x) (by rw [hb76_1, a524, a444, h4]) (by rw [hb76_1, a525, a445, h5]) (by rw [hi1]; omega) (by rw [hi1]; omega) (by rw [ha76_1]; exact a52E)
              · replace c55 : ¬ ¬ (1 : Int) = (0 : Int) := c55
                exfalso
                omega
            · have hG52 := pE_tr hG44 hg52
              have hT52 := pE_TV hG52 ht
              replace h : eT xq_234 _ 55 [some (.inr (.inl (some 12))), some (.inl dd), some (.inl i), some (.inl (ν.1 24 (cA ν).toNat))] [.inl (0 : Int32)] μ52 r μ' := h
              rcases tx_if (t := 60) (p' := 58) h em234_55 (by decide) rfl with ⟨c55_1, h⟩ | ⟨c55_1, h⟩
              · replace c55_1 : ¬ (0 : Int) = (0 : Int) := c55_1
                exfalso
                omega
              · replace c55_1 : ¬ ¬ (0 : Int) = (0 : Int) := c55_1
                replace h := tx_iconst (v := 0) (p' := 59) h em234_58 (by decide +kernel) rfl
                obtain ⟨rfl, hμ⟩ := tx_ireturn h em234_59
                have k1 := pE_K hG (cA ν)
                unfold cK at k1
                have e1 := xs_sign (K := cK μ) (d := d) (a := cA ν) (by omega) (by omega) (by unfold cK; omega)
                rw [← a44a] at e1
                rw [pE_Kf hG44] at a52x
                rw [pE_P hG44] at a525
                rw [hμ]
                exact ⟨hG52, Or.inr ⟨rfl, p52, f52, (hx.trans e1).trans a52x, a52f, a524, a525⟩⟩
        · have hG44 := pE_tr hG hg44
          have hT44 := pE_TV hG44 ht
          replace h : eT xq_234 _ 47 [some (.inr (.inl (some 12))), some (.inl dd), some (.inl i), some (.inl (ν.1 24 (cA ν).toNat))] [.inl (0 : Int32)] μ44 r μ' := h
          rcases tx_if (t := 58) (p' := 50) h em234_47 (by decide) rfl with ⟨c47_1, h⟩ | ⟨c47_1, h⟩
          · replace c47_1 : (0 : Int) = (0 : Int) := c47_1
            replace h := tx_iconst (v := 0) (p' := 59) h em234_58 (by decide +kernel) rfl
            obtain ⟨rfl, hμ⟩ := tx_ireturn h em234_59
            exfalso
            exact a44k rfl
          · replace c47_1 : ¬ (0 : Int) = (0 : Int) := c47_1
            exfalso
            omega
        · have hG44 := pE_tr hG hg44
          have hT44 := pE_TV hG44 ht
          replace h : eT xq_234 _ 47 [some (.inr (.inl (some 12))), some (.inl dd), some (.inl i), some (.inl (ν.1 24 (cA ν).toNat))] [.inl (0 : Int32)] μ44 r μ' := h
          rcases tx_if (t := 58) (p' := 50) h em234_47 (by decide) rfl with ⟨c47_2, h⟩ | ⟨c47_2, h⟩
          · replace c47_2 : (0 : Int) = (0 : Int) := c47_2
            replace h := tx_iconst (v := 0) (p' := 59) h em234_58 (by decide +kernel) rfl
            obtain ⟨rfl, hμ⟩ := tx_ireturn h em234_59
            have k1 := pE_K hG (cA ν)
            rw [hμ]
            unfold cK at a44k k1
            rw [pE_P hG] at a445
            exact ⟨hG44, Or.inr ⟨rfl, cA ν, 2, hx.trans (xs_sign_f (by unfold cK; omega) a44m), by decide, a444, a445⟩⟩
          · replace c47_2 : ¬ (0 : Int) = (0 : Int) := c47_2
            exfalso
            omega
      · replace c25 : ¬ (ν.1 24 (cA ν).toNat).toInt = 43 := c25
        replace h := tx_aload_n (p' := 29) h em234_28 rfl rfl
        obtain ⟨r29, μ29, hE29, h⟩ := tx_invV (na := 1) (mn := 13) (as := [.inr (.inl (some 12))]) (rest := []) (p' := 32) h em234_29 ((congrFun xo_3 53).trans rfl) xm_13 rfl rfl
        obtain ⟨rfl, hm⟩ := ex_next hE29 (by have := ht.1; omega)
        rw [hm] at h
        replace h : eT xq_234 _ 32 [some (.inr (.inl (some 12))), some (.inl dd), some (.inl i), o] [.inl (ν.1 24 (cA ν).toNat)] ν r μ' := h
        replace h := tx_bipush (v := 45) (p' := 34) h em234_32 (by decide +kernel) rfl
        rcases tx_icmp (t := 85) (p' := 37) h em234_34 (by decide) rfl with ⟨c34, h⟩ | ⟨c34, h⟩
        · replace c34 : ¬ (ν.1 24 (cA ν).toNat).toInt = 45 := c34
          replace h := tx_iconst (v := 1) (p' := 86) h em234_85 (by decide +kernel) rfl
          obtain ⟨rfl, hμ⟩ := tx_ireturn h em234_86
          have k1 := pE_K hG (cA ν)
          unfold cK at k1
          rw [hμ]
          exact ⟨hG, Or.inl ⟨rfl, hl, hle, hx, ⟨h4, h5⟩, ⟨hE, by unfold cK; omega, by unfold cK; omega⟩⟩⟩
        · replace c34 : ¬ ¬ (ν.1 24 (cA ν).toNat).toInt = 45 := c34
          replace h := tx_aload_n (p' := 38) h em234_37 rfl rfl
          obtain ⟨r38_1, μ38_1, hE38_1, h⟩ := tx_invV (na := 1) (mn := 13) (as := [.inr (.inl (some 12))]) (rest := []) (p' := 41) h em234_38 ((congrFun xo_3 53).trans rfl) xm_13 rfl rfl
          obtain ⟨rfl, hm⟩ := ex_next hE38_1 (by have := ht.1; omega)
          rw [hm] at h
          replace h : eT xq_234 _ 41 [some (.inr (.inl (some 12))), some (.inl dd), some (.inl i), o] [.inl (ν.1 24 (cA ν).toNat)] ν r μ' := h
          replace h := tx_istore_n (p' := 42) h em234_41 rfl
          replace h : eT xq_234 _ 42 [some (.inr (.inl (some 12))), some (.inl dd), some (.inl i), some (.inl (ν.1 24 (cA ν).toNat))] [] ν r μ' := h
          replace h := tx_aload_n (p' := 43) h em234_42 rfl rfl
          replace h := tx_iload_n (p' := 44) h em234_43 rfl rfl
          obtain ⟨r44_1, μ44_1, hE44_1, h⟩ := tx_invV (na := 2) (mn := 9) (as := [.inr (.inl (some 12)), .inl (ν.1 24 (cA ν).toNat)]) (rest := []) (p' := 47) h em234_44 ((congrFun xo_3 89).trans rfl) xm_9 rfl rfl
          obtain ⟨hg44_1, ⟨rfl, a44_1k, a44_1m, a44_1a, a44_1e, a44_14, a44_15⟩ | ⟨rfl, a44_1k, a44_14, a44_15⟩ | ⟨rfl, a44_1k, a44_1m, a44_14, a44_15⟩⟩ := acc3 hE44_1 (by omega) (by omega) hT (by omega)
          · have hG44_1 := pE_tr hG hg44_1
            have hT44_1 := pE_TV hG44_1 ht
            replace h : eT xq_234 _ 47 [some (.inr (.inl (some 12))), some (.inl dd), some (.inl i), some (.inl (ν.1 24 (cA ν).toNat))] [.inl (1 : Int32)] μ44_1 r μ' := h
            rcases tx_if (t := 58) (p' := 50) h em234_47 (by decide) rfl with ⟨c47_3, h⟩ | ⟨c47_3, h⟩
            · replace c47_3 : (1 : Int) = (0 : Int) := c47_3
              exfalso
              omega
            · replace c47_3 : ¬ (1 : Int) = (0 : Int) := c47_3
              replace h := tx_aload_n (p' := 51) h em234_50 rfl rfl
              replace h := tx_iload_n (p' := 52) h em234_51 rfl rfl
              obtain ⟨r52_1, μ52_1, hE52_1, h⟩ := tx_invV (na := 2) (mn := 235) (as := [.inr (.inl (some 12)), .inl dd]) (rest := []) (p' := 55) h em234_52 ((congrFun xo_3 163).trans rfl) xm_235 rfl rfl
              obtain ⟨hg52_1, ⟨rfl, a52_1l, a52_1e, a52_1x, ⟨a52_14, a52_15⟩, a52_1E⟩ | ⟨rfl, p52_1, f52_1, a52_1x, a52_1f, a52_14, a52_15⟩⟩ := hU _ _ _ _ (hdd) hE52_1 e (by omega) (by omega) hT44_1
              · have hG52_1 := pE_tr hG44_1 hg52_1
                have hT52_1 := pE_TV hG52_1 ht
                replace h : eT xq_234 _ 55 [some (.inr (.inl (some 12))), some (.inl dd), some (.inl i), some (.inl (ν.1 24 (cA ν).toNat))] [.inl (1 : Int32)] μ52_1 r μ' := h
                rcases tx_if (t := 60) (p' := 58) h em234_55 (by decide) rfl with ⟨c55_2, h⟩ | ⟨c55_2, h⟩
                · replace c55_2 : ¬ (1 : Int) = (0 : Int) := c55_2
                  replace h := tx_aload_n (p' := 61) h em234_60 rfl rfl
                  replace h := tx_getc (c := 2) (j := 0) (p' := 64) h em234_61 ((congrFun xo_3 12).trans rfl) rfl rfl rfl
                  replace h := tx_iload_n (p' := 65) h em234_64 rfl rfl
                  replace h := tx_bipush (v := 43) (p' := 67) h em234_65 (by decide +kernel) rfl
                  rcases tx_icmp (t := 74) (p' := 70) h em234_67 (by decide) rfl with ⟨c67_1, h⟩ | ⟨c67_1, h⟩
                  · replace c67_1 : ¬ (ν.1 24 (cA ν).toNat).toInt = 43 := c67_1
                    replace h := tx_iconst (v := 3) (p' := 75) h em234_74 (by decide +kernel) rfl
                    replace h := tx_iconst (v := 0) (p' := 76) h em234_75 (by decide +kernel) rfl
                    obtain ⟨r76_2, μ76_2, hE76_2, h⟩ := tx_invV (na := 3) (mn := 43) (as := [.inr (.inl (some 13)), .inl (3 : Int32), .inl (0 : Int32)]) (rest := []) (p' := 79) h em234_76 ((congrFun xo_3 153).trans rfl) xm_43 rfl rfl
                    obtain ⟨rfl, hg76_2, hb76_2⟩ := ex_add hE76_2
                    have ha76_2 : cA μ76_2 = cA μ52_1 := by unfold cA; rw [hb76_2]
                    have hG76_2 := pE_tr hG52_1 hg76_2
                    have hT76_2 := pE_TV hG76_2 ht
                    replace h : eT xq_234 _ 79 [some (.inr (.inl (some 12))), some (.inl dd), some (.inl i), some (.inl (ν.1 24 (cA ν).toNat))] [] μ76_2 r μ' := h
                    have e1i : (1 : Int32).toInt = 1 := by decide
                    have hi1 : (i + 1).toInt = i.toInt + 1 := by rw [an_add (by rw [e1i]; have := ht.1; omega) (by rw [e1i]; have := ht.1; omega), e1i]
                    replace h := tx_iinc (v := 1) (p' := 82) h em234_79 (by decide +kernel) rfl rfl
                    replace h : eT xq_234 _ 82 [some (.inr (.inl (some 12))), some (.inl dd), some (.inl (i + 1)), some (.inl (ν.1 24 (cA ν).toNat))] [] μ76_2 r μ' := h
                    obtain ⟨n2, hn2, h⟩ := tx_gotoS (t := 12) h em234_82 (by decide)
                    have k1 := pE_K hG (cA ν)
                    unfold cK at k1
                    have e1 := xs_sign (K := cK μ) (d := d) (a := cA ν) (by omega) (by omega) (by unfold cK; omega)
                    rw [← a44_1a] at e1
                    rw [pE_Kf hG44_1] at a52_1x
                    rw [pE_Kf hG44_1] at a52_1E
                    exact ih n2 hn2 _ _ _ h hG76_2 hT76_2 (by omega) (by omega) (by omega) (by rw [ha76_2]; exact (hx.trans e1).trans a52_1x) (by rw [hb76_2, a52_14, a44_14, h4]) (by rw [hb76_2, a52_15, a44_15, h5]) (by rw [hi1]; omega) (by rw [hi1]; omega) (by rw [ha76_2]; exact a52_1E)
                  · replace c67_1 : ¬ ¬ (ν.1 24 (cA ν).toNat).toInt = 43 := c67_1
                    replace h := tx_iconst (v := 2) (p' := 71) h em234_70 (by decide +kernel) rfl
                    replace h := tx_goto (t := 75) h em234_71 (by decide)
                    replace h := tx_iconst (v := 0) (p' := 76) h em234_75 (by decide +kernel) rfl
                    obtain ⟨r76_3, μ76_3, hE76_3, h⟩ := tx_invV (na := 3) (mn := 43) (as := [.inr (.inl (some 13)), .inl (2 : Int32), .inl (0 : Int32)]) (rest := []) (p' := 79) h em234_76 ((congrFun xo_3 153).trans rfl) xm_43 rfl rfl
                    obtain ⟨rfl, hg76_3, hb76_3⟩ := ex_add hE76_3
                    have ha76_3 : cA μ76_3 = cA μ52_1 := by unfold cA; rw [hb76_3]
                    have hG76_3 := pE_tr hG52_1 hg76_3
                    have hT76_3 := pE_TV hG76_3 ht
                    replace h : eT xq_234 _ 79 [some (.inr (.inl (some 12))), some (.inl dd), some (.inl i), some (.inl (ν.1 24 (cA ν).toNat))] [] μ76_3 r μ' := h
                    have e1i : (1 : Int32).toInt = 1 := by decide
                    have hi1 : (i + 1).toInt = i.toInt + 1 := by rw [an_add (by rw [e1i]; have := ht.1; omega) (by rw [e1i]; have := ht.1; omega), e1i]
                    replace h := tx_iinc (v := 1) (p' := 82) h em234_79 (by decide +kernel) rfl rfl
                    replace h : eT xq_234 _ 82 [some (.inr (.inl (some 12))), some (.inl dd), some (.inl (i + 1)), some (.inl (ν.1 24 (cA ν).toNat))] [] μ76_3 r μ' := h
                    obtain ⟨n2, hn2, h⟩ := tx_gotoS (t := 12) h em234_82 (by decide)
                    have k1 := pE_K hG (cA ν)
                    unfold cK at k1
                    have e1 := xs_sign (K := cK μ) (d := d) (a := cA ν) (by omega) (by omega) (by unfold cK; omega)
                    rw [← a44_1a] at e1
                    rw [pE_Kf hG44_1] at a52_1x
                    rw [pE_Kf hG44_1] at a52_1E
                    exact ih n2 hn2 _ _ _ h hG76_3 hT76_3 (by omega) (by omega) (by omega) (by rw [ha76_3]; exact (hx.trans e1).trans a52_1x) (by rw [hb76_3, a52_14, a44_14, h4]) (by rw [hb76_3, a52_15, a44_15, h5]) (by rw [hi1]; omega) (by rw [hi1]; omega) (by rw [ha76_3]; exact a52_1E)
                · replace c55_2 : ¬ ¬ (1 : Int) = (0 : Int) := c55_2
                  exfalso
                  omega
              · have hG52_1 := pE_tr hG44_1 hg52_1
                have hT52_1 := pE_TV hG52_1 ht
                replace h : eT xq_234 _ 55 [some (.inr (.inl (some 12))), some (.inl dd), some (.inl i), some (.inl (ν.1 24 (cA ν).toNat))] [.inl (0 : Int32)] μ52_1 r μ' := h
                rcases tx_if (t := 60) (p' := 58) h em234_55 (by decide) rfl with ⟨c55_3, h⟩ | ⟨c55_3, h⟩
                · replace c55_3 : ¬ (0 : Int) = (0 : Int) := c55_3
                  exfalso
                  omega
                · replace c55_3 : ¬ ¬ (0 : Int) = (0 : Int) := c55_3
                  replace h := tx_iconst (v := 0) (p' := 59) h em234_58 (by decide +kernel) rfl
                  obtain ⟨rfl, hμ⟩ := tx_ireturn h em234_59
                  have k1 := pE_K hG (cA ν)
                  unfold cK at k1
                  have e1 := xs_sign (K := cK μ) (d := d) (a := cA ν) (by omega) (by omega) (by unfold cK; omega)
                  rw [← a44_1a] at e1
                  rw [pE_Kf hG44_1] at a52_1x
                  rw [pE_P hG44_1] at a52_15
                  rw [hμ]
                  exact ⟨hG52_1, Or.inr ⟨rfl, p52_1, f52_1, (hx.trans e1).trans a52_1x, a52_1f, a52_14, a52_15⟩⟩
          · have hG44_1 := pE_tr hG hg44_1
            have hT44_1 := pE_TV hG44_1 ht
            replace h : eT xq_234 _ 47 [some (.inr (.inl (some 12))), some (.inl dd), some (.inl i), some (.inl (ν.1 24 (cA ν).toNat))] [.inl (0 : Int32)] μ44_1 r μ' := h
            rcases tx_if (t := 58) (p' := 50) h em234_47 (by decide) rfl with ⟨c47_4, h⟩ | ⟨c47_4, h⟩
            · replace c47_4 : (0 : Int) = (0 : Int) := c47_4
              replace h := tx_iconst (v := 0) (p' := 59) h em234_58 (by decide +kernel) rfl
              obtain ⟨rfl, hμ⟩ := tx_ireturn h em234_59
              exfalso
              exact a44_1k rfl
            · replace c47_4 : ¬ (0 : Int) = (0 : Int) := c47_4
              exfalso
              omega
          · have hG44_1 := pE_tr hG hg44_1
            have hT44_1 := pE_TV hG44_1 ht
            replace h : eT xq_234 _ 47 [some (.inr (.inl (some 12))), some (.inl dd), some (.inl i), some (.inl (ν.1 24 (cA ν).toNat))] [.inl (0 : Int32)] μ44_1 r μ' := h
            rcases tx_if (t := 58) (p' := 50) h em234_47 (by decide) rfl with ⟨c47_5, h⟩ | ⟨c47_5, h⟩
            · replace c47_5 : (0 : Int) = (0 : Int) := c47_5
              replace h := tx_iconst (v := 0) (p' := 59) h em234_58 (by decide +kernel) rfl
              obtain ⟨rfl, hμ⟩ := tx_ireturn h em234_59
              have k1 := pE_K hG (cA ν)
              rw [hμ]
              unfold cK at a44_1k k1
              rw [pE_P hG] at a44_15
              exact ⟨hG44_1, Or.inr ⟨rfl, cA ν, 2, hx.trans (xs_sign_f (by unfold cK; omega) a44_1m), by decide, a44_14, a44_15⟩⟩
            · replace c47_5 : ¬ (0 : Int) = (0 : Int) := c47_5
              exfalso
              omega
  replace h := tx_aload_n (p' := 1) h em234_0 rfl rfl
  replace h := tx_iload_n (p' := 2) h em234_1 rfl rfl
  obtain ⟨r2, μ2, hE2, h⟩ := tx_invV (na := 2) (mn := 235) (as := [.inr (.inl (some 12)), .inl dd]) (rest := []) (p' := 5) h em234_2 ((congrFun xo_3 163).trans rfl) xm_235 rfl rfl
  obtain ⟨hg2, ⟨rfl, a2l, a2e, a2x, ⟨a24, a25⟩, a2E⟩ | ⟨rfl, p2, f2, a2x, a2f, a24, a25⟩⟩ := hU _ _ _ _ (hdd) hE2 e (by omega) (by omega) hT
  · have hG2 := pE_tr hG hg2
    have hT2 := pE_TV hG2 ht
    replace h : eT xq_234 _ 5 [some (.inr (.inl (some 12))), some (.inl dd), none, none] [.inl (1 : Int32)] μ2 r μ' := h
    rcases tx_if (t := 10) (p' := 8) h em234_5 (by decide) rfl with ⟨c5, h⟩ | ⟨c5, h⟩
    · replace c5 : ¬ (1 : Int) = (0 : Int) := c5
      replace h := tx_iconst (v := 0) (p' := 11) h em234_10 (by decide +kernel) rfl
      replace h := tx_istore_n (p' := 12) h em234_11 rfl
      replace h : eT xq_234 _ 12 [some (.inr (.inl (some 12))), some (.inl dd), some (.inl (0 : Int32)), none] [] μ2 r μ' := h
      exact loop _ _ _ _ h hG2 hT2 a2l a2e (by omega) a2x a24 a25 (by decide) (by show 2 * (0 : Int) ≤ _; omega) a2E
    · replace c5 : ¬ ¬ (1 : Int) = (0 : Int) := c5
      exfalso
      omega
  · have hG2 := pE_tr hG hg2
    have hT2 := pE_TV hG2 ht
    replace h : eT xq_234 _ 5 [some (.inr (.inl (some 12))), some (.inl dd), none, none] [.inl (0 : Int32)] μ2 r μ' := h
    rcases tx_if (t := 10) (p' := 8) h em234_5 (by decide) rfl with ⟨c5_1, h⟩ | ⟨c5_1, h⟩
    · replace c5_1 : ¬ (0 : Int) = (0 : Int) := c5_1
      exfalso
      omega
    · replace c5_1 : ¬ ¬ (0 : Int) = (0 : Int) := c5_1
      replace h := tx_iconst (v := 0) (p' := 9) h em234_8 (by decide +kernel) rfl
      obtain ⟨rfl, hμ⟩ := tx_ireturn h em234_9
      rw [hμ]
      exact ⟨hG2, Or.inr ⟨rfl, p2, f2, a2x, a2f, a24, a25⟩⟩
theorem expr_ok : ∀ (n : Nat) (d : Int), 0 ≤ d → d ≤ 6 → (6 - d).toNat = n → uS xq_234 d E3 := by
  intro n
  induction n with
  | zero =>
    intro d h0 h6 hn
    exact sum_ok (part_ok (unit_ok h0 h6 (fun h => by omega)))
  | succ n ih =>
    intro d h0 h6 hn
    exact sum_ok (part_ok (unit_ok h0 h6 (fun h => ih (d + 1) (by omega) (by omega) (by omega))))
/-- an expression of the class -/
theorem ex_sum {μ μ' : xM} {r : Option zV} {e : Int} (h0 : Ex gx xq_234 [.inr (.inl (some 12)), .inl 0] μ r μ') (ha0 : 0 ≤ cA μ) (ha : cA μ ≤ e) (ht : cTV μ e) : pE μ μ' ∧ ((r = some (.inl 1) ∧ cA μ < cA μ' ∧ cA μ' ≤ e ∧ pEx (cK μ) (cA μ) = (cA μ', 0) ∧ μ'.1 12 4 = μ.1 12 4 ∧ μ'.1 12 5 = μ.1 12 5) ∨ (r = some (.inl 0) ∧ ∃ p f : Int, pEx (cK μ) (cA μ) = (p, f) ∧ ¬ f = 0 ∧ (μ'.1 12 4).toInt = f ∧ (μ'.1 12 5).toInt = cP μ p)) := by
  obtain ⟨g, h | h⟩ := expr_ok 6 0 (by omega) (by omega) (by omega) 0 μ μ' r (by decide) h0 e ha0 ha ht
  · obtain ⟨h1, h2, h3, h4, ⟨h5, h6⟩, ⟨h7, h8⟩, h9, h10⟩ := h
    refine ⟨g, Or.inl ⟨h1, h2, h3, ?_, h5, h6⟩⟩
    unfold pEx
    rw [h4]
    exact xs_end (by omega) (by have := ht.1; omega) ⟨h9, h10, h7, h8⟩ rfl
  · exact ⟨g, Or.inr h⟩
