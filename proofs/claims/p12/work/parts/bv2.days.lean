/-! ===== days ===== -/
def pSe (S : kSt) : Int32 := Int32.ofInt S.2.2.1.2.2
theorem cS9_sd {S : kSt} {μ : xM} (h : cS9 S μ) : μ.1 2 3 = pSe S := by
  have e : (μ.1 2 3).toInt = S.2.2.1.2.2 := h.2.2.1.1.2.2.2.2
  unfold pSe
  rw [← e, Int32.ofInt_toInt]
theorem rS9_sd {S : kSt} {s : Nat} {μ : xM} (h : rS9 S s μ) : μ.1 93 (μ.1 75 2).toInt.toNat = pSe S := by
  have e : (μ.1 93 s).toInt = S.2.2.1.2.2 := h.2.2.1.1.2.2.2.2
  rw [show (μ.1 75 2).toInt.toNat = s by have := h.2.1.2; omega]
  unfold pSe
  rw [← e, Int32.ofInt_toInt]
theorem xco_6 {μ : xM} : (xco μ).1 75 6 = μ.1 93 (μ.1 75 2).toInt.toNat := by
  unfold xco
  rw [xpi_ne (fun q => absurd q.2 (by decide)), xpi_ne (fun q => absurd q.2 (by decide)), xpi_at]
theorem xco_7 {μ : xM} : (xco μ).1 75 7 = 0 := by
  unfold xco
  rw [xpi_ne (fun q => absurd q.2 (by decide)), xpi_at]
theorem gT9_tr {μ ν ω : xM} (h1 : gT9 μ ν) (h2 : gT9 ν ω) : gT9 μ ω := ⟨fun a j p q => (h2.1 a j p q).trans (h1.1 a j p q), h2.2.trans h1.2⟩
theorem gT9_P {μ ν : xM} (h : gP9 μ ν) : gT9 μ ν := ⟨fun a j p q => h.1 a j (by omega) (by omega) (by omega) (by omega) (by omega) (by omega) (fun z => q ⟨z.1, by omega⟩), h.2⟩
theorem gT9_rf {μ : xM} : gT9 μ μ := ⟨fun _ _ _ _ => rfl, rfl⟩
abbrev xq_80 : xP := (⟨"CapitalCase", "days", "(I)I"⟩, prog_1_method_22_code, 2, (some .int))
abbrev xq_132 : xP := (⟨"CapitalCaseModel", "days", "(I)I"⟩, prog_14_method_82_code, 2, (some .int))
abbrev xq_152 : xP := (⟨"CapitalCaseModel", "isLong", "(I)Z"⟩, prog_14_method_101_code, 1, (some .boolean))
set_option maxRecDepth 10000 in
set_option maxHeartbeats 4000000 in
theorem ex_cdays {nn : Int32} {S : kSt} {ρ : Nat → Int32} {m : Nat} {G : Nat → Nat → Int32} {Z : Nat → Option (Nat → Int32)} {μ μ' : xM} {r : Option zV} (h0 : Ex gx xq_80 [.inr (.inl (some 0)), .inl nn] μ r μ') (hO : hOK μ) (hP : pOK9 μ) (hS : cS9 S μ) (hT : tw9 S 28 ρ μ) (hI : hsI μ) (hL : hsL S Z m G μ) (hp : pI S ρ) : (r = some (.inl (-1)) ∧ μ' = μ ∧ ¬ (0 ≤ nn.toInt ∧ nn.toInt ≤ 60)) ∨ (nn.toInt = 0 ∧ r = some (.inl (ρ 386)) ∧ μ' = μ) ∨ ((0 < nn.toInt ∧ nn.toInt ≤ 60) ∧ r = some (.inl (pDys S 0 (pSe S) nn.toInt.toNat ρ 386)) ∧ tw9 S 28 (pDys S 0 (pSe S) nn.toInt.toNat ρ) μ' ∧ hsL S Z (min 30 (m + 1)) (gcons ρ G) μ' ∧ hsI μ' ∧ hOK μ' ∧ pOK9 μ' ∧ cS9 S μ') := by
  obtain ⟨n, h⟩ := tx_in (L := [some (.inr (.inl (some 0))), some (.inl nn)]) h0 rfl
  replace h := tx_iload_n (p' := 1) h em80_0 rfl rfl
  rcases tx_if (t := 10) (p' := 4) h em80_1 (by decide) rfl with ⟨c1, h⟩ | ⟨c1, h⟩
  · replace c1 : nn.toInt < 0 := c1
    replace h := tx_iconst (v := (-1)) (p' := 11) h em80_10 (by decide +kernel) rfl
    obtain ⟨rfl, hμ⟩ := tx_ireturn h em80_11
    exact Or.inl ⟨rfl, hμ, by omega⟩
  · replace c1 : ¬ nn.toInt < 0 := c1
    replace h := tx_iload_n (p' := 5) h em80_4 rfl rfl
    replace h := tx_bipush (v := 60) (p' := 7) h em80_5 (by decide +kernel) rfl
    rcases tx_icmp (t := 12) (p' := 10) h em80_7 (by decide) rfl with ⟨c7, h⟩ | ⟨c7, h⟩
    · replace c7 : nn.toInt ≤ 60 := c7
      replace h := tx_iload_n (p' := 13) h em80_12 rfl rfl
      rcases tx_if (t := 46) (p' := 16) h em80_13 (by decide) rfl with ⟨c13, h⟩ | ⟨c13, h⟩
      · replace c13 : nn.toInt ≤ 0 := c13
        replace h := tx_aload_n (p' := 47) h em80_46 rfl rfl
        replace h := tx_getc (c := 11) (j := 1) (p' := 50) h em80_47 ((congrFun xo_0 39).trans rfl) rfl rfl rfl
        replace h := tx_getf (c := 8) (j := 7) (p' := 53) h em80_50 ((congrFun xo_0 190).trans rfl) rfl rfl (by decide) rfl
        obtain ⟨rfl, hμ⟩ := tx_ireturn h em80_53
        exact Or.inr (Or.inl ⟨by omega, congrArg (fun x => some (Sum.inl x)) hT.1.2.2.1, hμ⟩)
      · replace c13 : ¬ nn.toInt ≤ 0 := c13
        replace h := tx_aload_n (p' := 17) h em80_16 rfl rfl
        replace h := tx_getc (c := 11) (j := 8) (p' := 20) h em80_17 ((congrFun xo_0 49).trans rfl) rfl rfl rfl
        replace h := tx_aload_n (p' := 21) h em80_20 rfl rfl
        replace h := tx_getc (c := 11) (j := 1) (p' := 24) h em80_21 ((congrFun xo_0 39).trans rfl) rfl rfl rfl
        obtain ⟨r24, μ24, hE24, h⟩ := tx_invV (na := 2) (mn := 0) (as := [.inr (.inl (some 40)), .inr (.inl (some 28))]) (rest := []) (p' := 27) h em80_24 ((congrFun xo_0 220).trans rfl) xm_0 rfl rfl
        have hN := hO.1
        obtain ⟨rfl, hO4, hI4, n0, n1, n2, c, hc, ht, hk⟩ := ex_keep hE24 hO hI (by have := hL.2.1; have := hL.2.2.1; omega)
        have hL4 := hsL_keep hS.1 hO hI hL hT hI4 n1 n2 hc ht hk
        have hcN := (hI4.2.1 41 _ c (Or.inl ⟨rfl, by omega⟩) hc).1
        have e4 : ∀ a j, a < 119 → a ≠ 40 → μ24.1 a j = μ.1 a j := fun a j q z => hk.1 a j (by omega) z (by omega)
        have hT4 := tw9_cg hT (fun a j q1 q2 => e4 a j (by omega) (by omega))
        have hS4 := cS9_cg hS (fun k j a b => e4 k j (by omega) (by omega))
        have hP4 : pOK9 μ24 := fun p hp j hj => (hk.2.1 p j (by omega) (fun q => by omega)).trans (hP p hp j hj)
        replace h : eT xq_80 _ 27 [some (.inr (.inl (some 0))), some (.inl nn)] [] μ24 r μ' := h
        replace h := tx_aload_n (p' := 28) h em80_27 rfl rfl
        replace h := tx_getc (c := 11) (j := 3) (p' := 31) h em80_28 ((congrFun xo_0 82).trans rfl) rfl rfl rfl
        replace h := tx_aload_n (p' := 32) h em80_31 rfl rfl
        replace h := tx_getc (c := 11) (j := 1) (p' := 35) h em80_32 ((congrFun xo_0 39).trans rfl) rfl rfl rfl
        replace h := tx_iload_n (p' := 36) h em80_35 rfl rfl
        replace h := tx_aload_n (p' := 37) h em80_36 rfl rfl
        replace h := tx_getc (c := 11) (j := 0) (p' := 40) h em80_37 ((congrFun xo_0 23).trans rfl) rfl rfl rfl
        replace h := tx_getf (c := 6) (j := 3) (p' := 43) h em80_40 ((congrFun xo_0 249).trans rfl) rfl rfl (by decide) rfl
        obtain ⟨r43, μ43, hE43, h⟩ := tx_invV (na := 4) (mn := 35) (as := [.inr (.inl (some 51)), .inr (.inl (some 28)), .inl nn, .inl (μ24.1 2 3)]) (rest := []) (p' := 46) h em80_43 ((congrFun xo_0 252).trans rfl) xm_35 rfl rfl
        rw [cS9_sd hS4] at hE43
        obtain ⟨rfl, y1, hT5⟩ := ex_cpass_28 hE43 hO4 hS4 hT4 hp (by omega)
        replace h : eT xq_80 _ 46 [some (.inr (.inl (some 0))), some (.inl nn)] [] μ43 r μ' := h
        replace h := tx_aload_n (p' := 47) h em80_46 rfl rfl
        replace h := tx_getc (c := 11) (j := 1) (p' := 50) h em80_47 ((congrFun xo_0 39).trans rfl) rfl rfl rfl
        replace h := tx_getf (c := 8) (j := 7) (p' := 53) h em80_50 ((congrFun xo_0 190).trans rfl) rfl rfl (by decide) rfl
        obtain ⟨rfl, hμ⟩ := tx_ireturn h em80_53
        rw [hμ]
        have e7 := hT5.1.2.2.1
        refine Or.inr (Or.inr ⟨⟨by omega, by omega⟩, congrArg (fun x => some (Sum.inl x)) e7, hT5, ?_, hsI_2 y1.2 hI4, hOK_2 y1.2 hO4, pOK9_2 y1.2 hP4, cS9_y hS4 y1 (by decide)⟩)
        exact hsL_cg hI4 hL4 y1.2 ⟨y1.1 40 1 (by decide) (by decide) (by decide) (by decide) (by decide), y1.1 40 2 (by decide) (by decide) (by decide) (by decide) (by decide)⟩ (fun a j q => y1.1 a j (by omega) (by omega) (by omega) (by omega) (by omega))
    · replace c7 : ¬ nn.toInt ≤ 60 := c7
      replace h := tx_iconst (v := (-1)) (p' := 11) h em80_10 (by decide +kernel) rfl
      obtain ⟨rfl, hμ⟩ := tx_ireturn h em80_11
      exact Or.inl ⟨rfl, hμ, by omega⟩
set_option maxRecDepth 10000 in
set_option maxHeartbeats 4000000 in
theorem ex_misLong {a : Int32} {μ μ' : xM} {r : Option zV} (h0 : Ex gx xq_152 [.inl a] μ r μ') : μ' = μ ∧ ((r = some (.inl 1) ∧ 0 ≤ a.toInt ∧ a.toInt ≤ 60) ∨ (r = some (.inl 0) ∧ ¬ (0 ≤ a.toInt ∧ a.toInt ≤ 60))) := by
  obtain ⟨n, h⟩ := tx_in (L := [some (.inl a)]) h0 rfl
  have e60 : (60 : Int32).toInt = 60 := by decide
  have e0i : (0 : Int32).toInt = 0 := by decide
  replace h := tx_iload_n (p' := 1) h em152_0 rfl rfl
  replace h := tx_iconst (v := 0) (p' := 2) h em152_1 (by decide +kernel) rfl
  replace h := tx_bipush (v := 60) (p' := 4) h em152_2 (by decide +kernel) rfl
  obtain ⟨r4, μ4, hE4, h⟩ := tx_invS (na := 3) (mn := 148) (as := [.inl a, .inl (0 : Int32), .inl (60 : Int32)]) (rest := []) (p' := 7) h em152_4 ((congrFun xo_12 324).trans rfl) xm_148 rfl rfl
  obtain ⟨hm, ⟨rfl, i41, i42⟩ | ⟨rfl, i41⟩⟩ := ex_in hE4
  · rw [hm] at h
    replace h : eT xq_152 _ 7 [some (.inl a)] [.inl (1 : Int32)] μ r μ' := h
    obtain ⟨rfl, hμ⟩ := tx_ireturn h em152_7
    first
      | exact ⟨hμ, Or.inl ⟨rfl, by omega, by omega⟩⟩
      | exact ⟨hμ, Or.inr ⟨rfl, by omega⟩⟩
  · rw [hm] at h
    replace h : eT xq_152 _ 7 [some (.inl a)] [.inl (0 : Int32)] μ r μ' := h
    obtain ⟨rfl, hμ⟩ := tx_ireturn h em152_7
    first
      | exact ⟨hμ, Or.inl ⟨rfl, by omega, by omega⟩⟩
      | exact ⟨hμ, Or.inr ⟨rfl, by omega⟩⟩
set_option maxRecDepth 10000 in
set_option maxHeartbeats 4000000 in
theorem ex_mdays {nn : Int32} {S : kSt} {s m : Nat} {G : Nat → Nat → Int32} {μ μ' : xM} {r : Option zV} (h0 : Ex gx xq_132 [.inr (.inl (some 75)), .inl nn] μ r μ') (hS : rS9 S s μ) (hH : mH m G μ) (hp : pI S (rNow μ)) : (r = some (.inl (-1)) ∧ μ' = μ ∧ ¬ (0 ≤ nn.toInt ∧ nn.toInt ≤ 60)) ∨ (nn.toInt = 0 ∧ r = some (.inl (rNow μ 386)) ∧ μ' = μ) ∨ ((0 < nn.toInt ∧ nn.toInt ≤ 60) ∧ r = some (.inl (pDys S 0 (pSe S) nn.toInt.toNat (rNow μ) 386)) ∧ gT9 μ μ' ∧ (∀ x, x < 390 → μ'.1 107 x = pDys S 0 (pSe S) nn.toInt.toNat (rNow μ) x) ∧ mH (min 30 (m + 1)) (gcons (fun x => μ.1 107 x) G) μ') := by
  obtain ⟨n, h⟩ := tx_in (L := [some (.inr (.inl (some 75))), some (.inl nn)]) h0 rfl
  replace h := tx_iload_n (p' := 1) h em132_0 rfl rfl
  obtain ⟨r1, μ1, hE1, h⟩ := tx_invS (na := 1) (mn := 152) (as := [.inl nn]) (rest := []) (p' := 4) h em132_1 ((congrFun xo_12 430).trans rfl) xm_152 rfl rfl
  obtain ⟨hm1, ⟨rfl, v1, v2⟩ | ⟨rfl, v1⟩⟩ := ex_misLong hE1
  · rw [hm1] at h
    replace h : eT xq_132 _ 4 [some (.inr (.inl (some 75))), some (.inl nn)] [.inl (1 : Int32)] μ r μ' := h
    rcases tx_if (t := 9) (p' := 7) h em132_4 (by decide) rfl with ⟨c4, h⟩ | ⟨c4, h⟩
    · replace c4 : ¬ (1 : Int) = (0 : Int) := c4
      replace h := tx_iload_n (p' := 10) h em132_9 rfl rfl
      rcases tx_if (t := 22) (p' := 13) h em132_10 (by decide) rfl with ⟨c10, h⟩ | ⟨c10, h⟩
      · replace c10 : ¬ nn.toInt = 0 := c10
        replace h := tx_aload_n (p' := 23) h em132_22 rfl rfl
        obtain ⟨r23, μ23, hE23, h⟩ := tx_invV (na := 1) (mn := 129) (as := [.inr (.inl (some 75))]) (rest := []) (p' := 26) h em132_23 ((congrFun xo_12 411).trans rfl) xm_129 rfl rfl
        obtain ⟨rfl, hmc⟩ := ex_copies hE23
        replace hmc : μ23 = xco μ := hmc
        rw [hmc] at h
        replace h : eT xq_132 _ 26 [some (.inr (.inl (some 75))), some (.inl nn)] [] (xco μ) r μ' := h
        replace h := tx_aload_n (p' := 27) h em132_26 rfl rfl
        replace h := tx_iload_n (p' := 28) h em132_27 rfl rfl
        obtain ⟨r28, μ28, hE28, h⟩ := tx_invV (na := 2) (mn := 143) (as := [.inr (.inl (some 75)), .inl nn]) (rest := []) (p' := 31) h em132_28 ((congrFun xo_12 433).trans rfl) xm_143 rfl rfl
        have hS2 := rS9_S hS xco_g
        obtain ⟨rfl, k1, k2⟩ := ex_mgoes hE28 hS2 (by rw [xco_row]; exact hp) (by omega)
        rw [xco_row, xco_7, xco_6, rS9_sd hS] at k2
        have hH2 : mH m G μ28 := mH_cg hH ((k1.1 75 10 (by decide) (by decide) (by decide) (by decide) (by decide) (by decide) (by decide)).trans (xco_ne (by decide) (by decide))) (fun j => (k1.1 112 j (by decide) (by decide) (by decide) (by decide) (by decide) (by decide) (fun q => absurd q.1 (by decide))).trans (xco_ne (by decide) (fun q => absurd q.1 (by decide))))
        have e107 : (fun x => μ28.1 107 x) = fun x => μ.1 107 x := by
          funext x
          exact (k1.1 107 x (by decide) (by decide) (by decide) (by decide) (by decide) (by decide) (fun q => absurd q.1 (by decide))).trans (xco_ne (by decide) (fun q => absurd q.1 (by decide)))
        replace h : eT xq_132 _ 31 [some (.inr (.inl (some 75))), some (.inl nn)] [] μ28 r μ' := h
        replace h := tx_aload_n (p' := 32) h em132_31 rfl rfl
        obtain ⟨r32, μ32, hE32, h⟩ := tx_invV (na := 1) (mn := 181) (as := [.inr (.inl (some 75))]) (rest := []) (p' := 35) h em132_32 ((congrFun xo_12 424).trans rfl) xm_181 rfl rfl
        obtain ⟨rfl, y1, y2, y3, y4⟩ := ex_records hE32 hH2
        rw [e107] at y1
        have z9 := (y2 386 (by decide)).trans (congrFun k2 386)
        replace h : eT xq_132 _ 35 [some (.inr (.inl (some 75))), some (.inl nn)] [] μ32 r μ' := h
        replace h := tx_aload_n (p' := 36) h em132_35 rfl rfl
        replace h := tx_getc (c := 12) (j := 1) (p' := 39) h em132_36 ((congrFun xo_12 113).trans rfl) rfl rfl rfl
        replace h := tx_sipush (v := 386) (p' := 42) h em132_39 (by decide +kernel) rfl
        obtain ⟨hb42, h⟩ := tx_iald (len := 390) (p' := 43) h em132_42 rfl rfl
        replace hb42 : (0 : Int) ≤ 386 ∧ (386 : Int) < 390 := hb42
        replace h : eT xq_132 _ 43 [some (.inr (.inl (some 75))), some (.inl nn)] [.inl (μ32.1 107 386)] μ32 r μ' := h
        obtain ⟨rfl, hμ⟩ := tx_ireturn h em132_43
        rw [hμ]
        refine Or.inr (Or.inr ⟨⟨by omega, by omega⟩, congrArg (fun x => some (Sum.inl x)) z9, ?_, fun x hx => (y2 x hx).trans (congrFun k2 x), y1⟩)
        exact gT9_tr (gT9_S xco_g) (gT9_tr (gT9_P k1) ⟨fun a j p q => y3 a j (by omega) (by omega) (fun z => q ⟨z.1, by omega⟩), y4⟩)
      · replace c10 : ¬ ¬ nn.toInt = 0 := c10
        replace h := tx_aload_n (p' := 14) h em132_13 rfl rfl
        replace h := tx_getc (c := 12) (j := 1) (p' := 17) h em132_14 ((congrFun xo_12 113).trans rfl) rfl rfl rfl
        replace h := tx_sipush (v := 386) (p' := 20) h em132_17 (by decide +kernel) rfl
        obtain ⟨hb20, h⟩ := tx_iald (len := 390) (p' := 21) h em132_20 rfl rfl
        replace hb20 : (0 : Int) ≤ 386 ∧ (386 : Int) < 390 := hb20
        replace h : eT xq_132 _ 21 [some (.inr (.inl (some 75))), some (.inl nn)] [.inl (μ.1 107 386)] μ r μ' := h
        obtain ⟨rfl, hμ⟩ := tx_ireturn h em132_21
        exact Or.inr (Or.inl ⟨by omega, congrArg (fun x => some (Sum.inl x)) (rNow_lt (by decide)).symm, hμ⟩)
    · replace c4 : ¬ ¬ (1 : Int) = (0 : Int) := c4
      exfalso
      omega
  · rw [hm1] at h
    replace h : eT xq_132 _ 4 [some (.inr (.inl (some 75))), some (.inl nn)] [.inl (0 : Int32)] μ r μ' := h
    rcases tx_if (t := 9) (p' := 7) h em132_4 (by decide) rfl with ⟨c4_1, h⟩ | ⟨c4_1, h⟩
    · replace c4_1 : ¬ (0 : Int) = (0 : Int) := c4_1
      exfalso
      omega
    · replace c4_1 : ¬ ¬ (0 : Int) = (0 : Int) := c4_1
      replace h := tx_iconst (v := (-1)) (p' := 8) h em132_7 (by decide +kernel) rfl
      obtain ⟨rfl, hμ⟩ := tx_ireturn h em132_8
      exact Or.inl ⟨rfl, hμ, by omega⟩
set_option maxRecDepth 10000 in
set_option maxHeartbeats 4000000 in
theorem zT_days {nn : Int32} {S : kSt} {s m : Nat} {G : Nat → Nat → Int32} {Z : Nat → Option (Nat → Int32)} {μ μ1 μ2 : xM} {r r' : Option zV} (hz : zT9 S s m G Z μ) (h1 : Ex gx xq_80 [.inr (.inl (some 0)), .inl nn] μ r μ1) (h2 : Ex gx xq_132 [.inr (.inl (some 75)), .inl nn] μ1 r' μ2) : (∃ x : Int32, r = some (.inl x) ∧ r' = some (.inl x)) ∧ ∃ m' G', zT9 S s m' G' Z μ2 := by
  obtain ⟨hO, hP, hI, hS, hR, hT, hL, hH, ⟨hp, hpG⟩, hz⟩ := hz
  have e := rE_w (by decide +kernel) (hf_80_0 h1 (hEn0 (by decide)) hO).2 hO
  have hR1 : rS9 S s μ1 := rS9_cg hR (fun k j a b => e k j (by omega) (by omega)) (e 75 2 (by decide) (by decide))
  have hH1 : mH m G μ1 := mH_cg hH (e 75 10 (by decide) (by decide)) (fun j => e 112 j (by decide) (by decide))
  have eN := rNow_cg e
  have hz1 : zH S Z μ1 := zH_cg hz (fun j => hSt (hf_80_0 h1 (hEn0 (by decide)) hO).2 hO (by decide) (hpA_ok (by decide +kernel) j)) (fun j => e 117 j (by decide) (by decide)) (fun j => e 118 j (by decide) (by decide))
  have hn : ∀ x, x < 390 → μ1.1 107 x = rNow μ x := fun x hx => by rw [← eN, rNow_lt hx]
  have hc := ex_cdays h1 hO hP hS hT hI hL hp
  have hm := ex_mdays h2 hR1 hH1 (by rw [eN]; exact hp)
  rcases hc with ⟨rfl, c1, c2⟩ | ⟨k1, rfl, c1⟩ | ⟨k1, rfl, c6, c7, c8, c9, cb, cc⟩
  · rcases hm with ⟨rfl, m1, m2⟩ | ⟨m1, rfl, m2⟩ | ⟨m1, rfl, g, m6, m7⟩
    · subst c1 m1
      exact ⟨⟨_, rfl, rfl⟩, m, G, hO, hP, hI, hS, hR, hT, hL, hH, ⟨hp, hpG⟩, hz⟩
    · exfalso; omega
    · exfalso; omega
  · rcases hm with ⟨rfl, m1, m2⟩ | ⟨m1, rfl, m2⟩ | ⟨m1, rfl, g, m6, m7⟩
    · exfalso; omega
    · subst c1 m2
      exact ⟨⟨_, rfl, rfl⟩, m, G, hO, hP, hI, hS, hR, hT, hL, hH, ⟨hp, hpG⟩, hz⟩
    · exfalso; omega
  · rcases hm with ⟨rfl, m1, m2⟩ | ⟨m1, rfl, m2⟩ | ⟨m1, rfl, g, m6, m7⟩
    · exfalso; omega
    · exfalso; omega
    · refine ⟨⟨_, rfl, by rw [eN]⟩, _, _, zT_2 c9 cb c8 cc c6 c7 hR1 g (mH_r m7 (fun i hi x hx => ?_)) (fun x hx => ?_) (pI_dys hS.1 hp _) (pG_c hp hpG) hz1⟩
      · cases i with
        | zero => exact (hn x hx).symm
        | succ i => rfl
      · rw [m6 x hx, eN]
