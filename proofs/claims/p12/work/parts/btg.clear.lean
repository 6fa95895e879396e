/-! ===== clear ===== -/
def pClr (S : kSt) (v : Nat) (ρ : Nat → Int32) : Nat → Int32 := pUp (pCl S v (kV S v).1.length ρ) (320 + v) (if ρ (320 + v) = 2 then 3 else 0)
theorem rNow_lt {μ : xM} {x : Nat} (h : x < 390) : rNow μ x = μ.1 107 x := if_pos h
theorem tw9_lift {S : kSt} {vn : Nat} {v : Int32} {ρ : Nat → Int32} {μ μ' : xM} (hW : kWf S) (h : tw9 S 28 ρ μ) (hv : v.toInt = (vn : Int)) (hvn : vn < S.2.1.length) (hs : stS ρ vn) (g : gTy μ μ') (t : twA 28 (pCl S vn (kV S vn).1.length ρ) μ') (f : ∀ j, μ'.1 33 j = μ.1 33 j) (s : μ'.1 28 5 = μ.1 28 5 &&& (((1 : Int32) <<< (v &&& 31)) ^^^ (-1 : Int32))) : tw9 S 28 (pClr S vn ρ) μ' := by
  have hV7 := hW.2.1
  have bv : v = Int32.ofNat vn := ofN hv
  have oo : ∀ x, 80 ≤ x → pCl S vn (kV S vn).1.length ρ x = ρ x := fun x a => pCl_hi hW _ (Nat.le_refl _) (fun i hi => ((h.2 vn hvn).2.2.2 hs i hi).2.2) x a
  unfold pClr
  refine ⟨twA_r t (fun j hj => pUp_ne (by omega)), fun w hw => ?_⟩
  obtain ⟨b1, b2, b3, b4⟩ := h.2 w hw
  have e6 : μ'.1 28 6 = μ.1 28 6 := g.1 28 6 (by decide) (by decide) (by decide)
  rw [s, bv, xb_clr (by omega) (by omega), e6]
  by_cases q : w = vn
  · subst q
    have u : pUp (pCl S w (kV S w).1.length ρ) (320 + w) (if ρ (320 + w) = 2 then 3 else 0) (320 + w) = if ρ (320 + w) = 2 then 3 else 0 := pUp_at
    have uS : ¬ stS (pUp (pCl S w (kV S w).1.length ρ) (320 + w) (if ρ (320 + w) = 2 then 3 else 0)) w := fun z => by
      unfold stS at z
      rw [u] at z
      by_cases y : ρ (320 + w) = 2
      · rw [if_pos y] at z; exact absurd z (by decide)
      · rw [if_neg y] at z; exact absurd z (by decide)
    have uD : stD (pUp (pCl S w (kV S w).1.length ρ) (320 + w) (if ρ (320 + w) = 2 then 3 else 0)) w ↔ stD ρ w := by
      unfold stD stS at *
      rw [u]
      by_cases y : ρ (320 + w) = 2
      · rw [if_pos y, y]; decide
      · rw [if_neg y]
        rcases hs with z | z
        · rw [z]; decide
        · exact absurd z y
    refine ⟨⟨fun z => by simp at z, fun z => absurd z uS⟩, b2.trans uD.symm, ?_, fun z => absurd z uS⟩
    by_cases y : ρ (320 + w) = 2
    · exact Or.inr (Or.inr (uD.mpr (Or.inl y)))
    · exact Or.inl (by rw [u, if_neg y])
  · have u : pUp (pCl S vn (kV S vn).1.length ρ) (320 + vn) (if ρ (320 + vn) = 2 then 3 else 0) (320 + w) = ρ (320 + w) := by rw [pUp_ne (by omega)]; exact oo _ (by omega)
    have uS : stS (pUp (pCl S vn (kV S vn).1.length ρ) (320 + vn) (if ρ (320 + vn) = 2 then 3 else 0)) w ↔ stS ρ w := by unfold stS; rw [u]
    have uD : stD (pUp (pCl S vn (kV S vn).1.length ρ) (320 + vn) (if ρ (320 + vn) = 2 then 3 else 0)) w ↔ stD ρ w := by unfold stD; rw [u]
    rw [uS, uD, u, decide_eq_false q, Bool.not_false, Bool.and_true]
    refine ⟨b1, b2, b3, fun z i hi => ?_⟩
    show μ'.1 33 _ = _ ∧ _
    rw [f, pUp_ne (by omega), oo _ (by omega)]
    exact b4 z i hi
abbrev xq_77 : xP := (⟨"CapitalCase", "clear", "(I)Z"⟩, prog_1_method_19_code, 2, (some .boolean))
abbrev xq_127 : xP := (⟨"CapitalCaseModel", "clear", "(I)Z"⟩, prog_14_method_78_code, 2, (some .boolean))
set_option maxRecDepth 10000 in
set_option maxHeartbeats 4000000 in
theorem ex_cclear {v : Int32} {S : kSt} {ρ : Nat → Int32} {m : Nat} {G : Nat → Nat → Int32} {Z : Nat → Option (Nat → Int32)} {μ μ' : xM} {r : Option zV} (h0 : Ex gx xq_77 [.inr (.inl (some 0)), .inl v] μ r μ') (hO : hOK μ) (hP : pOK9 μ) (hS : cS9 S μ) (hT : tw9 S 28 ρ μ) (hI : hsI μ) (hL : hsL S Z m G μ) : (r = some (.inl 0) ∧ μ' = μ ∧ ∀ vm : Nat, v.toInt = (vm : Int) → vm < S.2.1.length → ¬ stS ρ vm) ∨ (r = some (.inl 1) ∧ ∃ vn : Nat, v.toInt = (vn : Int) ∧ vn < S.2.1.length ∧ stS ρ vn ∧ tw9 S 28 (pClr S vn ρ) μ' ∧ hsL S Z (min 30 (m + 1)) (gcons ρ G) μ' ∧ hsI μ' ∧ hOK μ' ∧ pOK9 μ' ∧ cS9 S μ') := by
  obtain ⟨n, h⟩ := tx_in (L := [some (.inr (.inl (some 0))), some (.inl v)]) h0 rfl
  have hV7 := hS.1.2.1
  replace h := tx_aload_n (p' := 1) h em77_0 rfl rfl
  replace h := tx_iload_n (p' := 2) h em77_1 rfl rfl
  obtain ⟨r2, μ2, hE2, h⟩ := tx_invV (na := 2) (mn := 91) (as := [.inr (.inl (some 0)), .inl v]) (rest := []) (p' := 5) h em77_2 ((congrFun xo_0 175).trans rfl) xm_91 rfl rfl
  obtain ⟨hm1, ⟨rfl, v1, v2⟩ | ⟨rfl, v1⟩⟩ := ex_cisVerse hE2 hS.2.2.1.1.2.1
  · rw [hm1] at h
    obtain ⟨vn, hv⟩ : ∃ vn : Nat, v.toInt = (vn : Int) := ⟨v.toInt.toNat, by omega⟩
    have hvn : vn < S.2.1.length := by omega
    replace h : eT xq_77 _ 5 [some (.inr (.inl (some 0))), some (.inl v)] [.inl (1 : Int32)] μ r μ' := h
    rcases tx_if (t := 22) (p' := 8) h em77_5 (by decide) rfl with ⟨c5, h⟩ | ⟨c5, h⟩
    · replace c5 : (1 : Int) = (0 : Int) := c5
      exfalso
      omega
    · replace c5 : ¬ (1 : Int) = (0 : Int) := c5
      replace h := tx_aload_n (p' := 9) h em77_8 rfl rfl
      replace h := tx_getc (c := 11) (j := 1) (p' := 12) h em77_9 ((congrFun xo_0 39).trans rfl) rfl rfl rfl
      replace h := tx_getf (c := 8) (j := 5) (p' := 15) h em77_12 ((congrFun xo_0 196).trans rfl) rfl rfl (by decide) rfl
      replace h := tx_iload_n (p' := 16) h em77_15 rfl rfl
      replace h := tx_ishr (p' := 17) h em77_16 rfl
      replace h := tx_iconst (v := 1) (p' := 18) h em77_17 (by decide +kernel) rfl
      replace h := tx_iand (p' := 19) h em77_18 rfl
      rcases tx_if (t := 24) (p' := 22) h em77_19 (by decide) rfl with ⟨c19, h⟩ | ⟨c19, h⟩
      · replace c19 : ¬ (((μ.1 28 5) >>> (v &&& 31)) &&& (1 : Int32)).toInt = 0 := c19
        replace h := tx_aload_n (p' := 25) h em77_24 rfl rfl
        replace h := tx_getc (c := 11) (j := 8) (p' := 28) h em77_25 ((congrFun xo_0 49).trans rfl) rfl rfl rfl
        replace h := tx_aload_n (p' := 29) h em77_28 rfl rfl
        replace h := tx_getc (c := 11) (j := 1) (p' := 32) h em77_29 ((congrFun xo_0 39).trans rfl) rfl rfl rfl
        obtain ⟨r32, μ32, hE32, h⟩ := tx_invV (na := 2) (mn := 0) (as := [.inr (.inl (some 40)), .inr (.inl (some 28))]) (rest := []) (p' := 35) h em77_32 ((congrFun xo_0 220).trans rfl) xm_0 rfl rfl
        have hN := hO.1
        obtain ⟨rfl, hO4, hI4, n0, n1, n2, c, hc, ht, hk⟩ := ex_keep hE32 hO hI (by have := hL.2.1; have := hL.2.2.1; omega)
        have hL4 := hsL_keep hS.1 hO hI hL hT hI4 n1 n2 hc ht hk
        have hcN := (hI4.2.1 41 _ c (Or.inl ⟨rfl, by omega⟩) hc).1
        have e4 : ∀ a j, a < 119 → a ≠ 40 → μ32.1 a j = μ.1 a j := fun a j q z => hk.1 a j (by omega) z (by omega)
        have hT4 := tw9_cg hT (fun a j q1 q2 => e4 a j (by omega) (by omega))
        have hS4 := cS9_cg hS (fun k j a b => e4 k j (by omega) (by omega))
        have hP4 : pOK9 μ32 := fun p hp j hj => (hk.2.1 p j (by omega) (fun q => by omega)).trans (hP p hp j hj)
        replace h : eT xq_77 _ 35 [some (.inr (.inl (some 0))), some (.inl v)] [] μ32 r μ' := h
        replace h := tx_aload_n (p' := 36) h em77_35 rfl rfl
        replace h := tx_getc (c := 11) (j := 1) (p' := 39) h em77_36 ((congrFun xo_0 39).trans rfl) rfl rfl rfl
        replace h := tx_aload_n (p' := 40) h em77_39 rfl rfl
        replace h := tx_getc (c := 11) (j := 0) (p' := 43) h em77_40 ((congrFun xo_0 23).trans rfl) rfl rfl rfl
        replace h := tx_iload_n (p' := 44) h em77_43 rfl rfl
        obtain ⟨r44, μ44, hE44, h⟩ := tx_invV (na := 3) (mn := 55) (as := [.inr (.inl (some 28)), .inr (.inl (some 2)), .inl v]) (rest := []) (p' := 47) h em77_44 ((congrFun xo_0 238).trans rfl) xm_55 rfl rfl
        have bv : v = Int32.ofNat vn := ofN hv
        rw [bv, xb_t (show vn < 7 by omega)] at c19
        have hst : stS ρ vn := (hT.2 vn hvn).1.mp (by
          by_cases z : xb (μ.1 28 5) vn = true
          · exact z
          · rw [if_neg z] at c19; exact absurd rfl c19)
        obtain ⟨rfl, y1, y2, y3, y4⟩ := ex_clift hE44 hO4 hS4 hT4.1 hv hvn (fun i hi => (hT4.2 vn hvn).2.2.2 hst i hi)
        replace h : eT xq_77 _ 47 [some (.inr (.inl (some 0))), some (.inl v)] [] μ44 r μ' := h
        replace h := tx_iconst (v := 1) (p' := 48) h em77_47 (by decide +kernel) rfl
        obtain ⟨rfl, hμ⟩ := tx_ireturn h em77_48
        rw [hμ]
        refine Or.inr ⟨rfl, vn, hv, hvn, hst, ?_, ?_, hsI_2 y1.2 hI4, hOK_2 y1.2 hO4, pOK9_2 y1.2 hP4, cS9_T hS4 y1⟩
        · exact tw9_lift hS.1 hT4 hv hvn hst y1 y2 y3 y4
        · exact hsL_cg hI4 hL4 y1.2 ⟨y1.1 40 1 (by decide) (by decide) (by decide), y1.1 40 2 (by decide) (by decide) (by decide)⟩ (fun a j q => y1.1 a j (by omega) (by omega) (by omega))
      · replace c19 : ¬ ¬ (((μ.1 28 5) >>> (v &&& 31)) &&& (1 : Int32)).toInt = 0 := c19
        replace h := tx_iconst (v := 0) (p' := 23) h em77_22 (by decide +kernel) rfl
        obtain ⟨rfl, hμ⟩ := tx_ireturn h em77_23
        have bv : v = Int32.ofNat vn := ofN hv
        rw [bv, xb_t (show vn < 7 by omega)] at c19
        exact Or.inl ⟨rfl, hμ, fun vm g1 g2 g3 => by
          rw [show vm = vn by omega] at g3
          rw [if_pos ((hT.2 vn hvn).1.mpr g3)] at c19
          exact c19 (by decide)⟩
  · rw [hm1] at h
    replace h : eT xq_77 _ 5 [some (.inr (.inl (some 0))), some (.inl v)] [.inl (0 : Int32)] μ r μ' := h
    rcases tx_if (t := 22) (p' := 8) h em77_5 (by decide) rfl with ⟨c5_1, h⟩ | ⟨c5_1, h⟩
    · replace c5_1 : (0 : Int) = (0 : Int) := c5_1
      replace h := tx_iconst (v := 0) (p' := 23) h em77_22 (by decide +kernel) rfl
      obtain ⟨rfl, hμ⟩ := tx_ireturn h em77_23
      exact Or.inl ⟨rfl, hμ, fun vm g1 g2 g3 => by exfalso; omega⟩
    · replace c5_1 : ¬ (0 : Int) = (0 : Int) := c5_1
      exfalso
      omega
set_option maxRecDepth 10000 in
set_option maxHeartbeats 4000000 in
theorem ex_mclear {v : Int32} {S : kSt} {s m : Nat} {G : Nat → Nat → Int32} {μ μ' : xM} {r : Option zV} (h0 : Ex gx xq_127 [.inr (.inl (some 75)), .inl v] μ r μ') (hS : rS9 S s μ) (hH : mH m G μ) (hF : ∀ vm, vm < S.2.1.length → stS (rNow μ) vm → ∀ i, i < (kV S vm).1.length → (rNow μ (330 + 8 * vm + i)).toInt ≤ 4) : (r = some (.inl 0) ∧ gS9 μ μ' ∧ (∀ j, μ'.1 107 j = μ.1 107 j) ∧ mH m G μ' ∧ ∀ vm : Nat, v.toInt = (vm : Int) → vm < S.2.1.length → ¬ stS (rNow μ) vm) ∨ (r = some (.inl 1) ∧ gS9 μ μ' ∧ ∃ vn : Nat, v.toInt = (vn : Int) ∧ vn < S.2.1.length ∧ stS (rNow μ) vn ∧ (∀ x, x < 390 → μ'.1 107 x = pClr S vn (rNow μ) x) ∧ mH (min 30 (m + 1)) (gcons (fun x => μ.1 107 x) G) μ') := by
  obtain ⟨n, h⟩ := tx_in (L := [some (.inr (.inl (some 75))), some (.inl v)]) h0 rfl
  replace h := tx_aload_n (p' := 1) h em127_0 rfl rfl
  replace h := tx_iload_n (p' := 2) h em127_1 rfl rfl
  obtain ⟨r2, μ2, hE2, h⟩ := tx_invV (na := 2) (mn := 155) (as := [.inr (.inl (some 75)), .inl v]) (rest := []) (p' := 5) h em127_2 ((congrFun xo_12 417).trans rfl) xm_155 rfl rfl
  obtain ⟨hm1, ⟨rfl, v1, v2⟩ | ⟨rfl, v1⟩⟩ := ex_misVerse (V := (S.2.1.length : Int)) hE2 (by rw [show (μ.1 75 2).toInt.toNat = s by have := hS.2.1.2; omega]; exact hS.2.2.1.1.2.1) ⟨by omega, by have := hS.1.1.2.1; omega⟩
  · rw [hm1] at h
    obtain ⟨vn, hv⟩ : ∃ vn : Nat, v.toInt = (vn : Int) := ⟨v.toInt.toNat, by omega⟩
    have hvn : vn < S.2.1.length := by omega
    have hV7 := hS.1.1.2.1
    have e320 : (320 : Int32).toInt = 320 := by decide
    have u1 : ((320 : Int32) + v).toInt.toNat = 320 + vn := by
      have : ((320 : Int32) + v).toInt = 320 + (vn : Int) := by rw [an_add (by rw [e320]; omega) (by rw [e320]; omega), e320, hv]
      omega
    have hr1 : rNow μ (320 + vn) = μ.1 107 (320 + vn) := rNow_lt (by omega)
    replace h : eT xq_127 _ 5 [some (.inr (.inl (some 75))), some (.inl v)] [.inl (1 : Int32)] μ r μ' := h
    rcases tx_if (t := 36) (p' := 8) h em127_5 (by decide) rfl with ⟨c5, h⟩ | ⟨c5, h⟩
    · replace c5 : (1 : Int) = (0 : Int) := c5
      exfalso
      omega
    · replace c5 : ¬ (1 : Int) = (0 : Int) := c5
      replace h := tx_aload_n (p' := 9) h em127_8 rfl rfl
      replace h := tx_getc (c := 12) (j := 1) (p' := 12) h em127_9 ((congrFun xo_12 113).trans rfl) rfl rfl rfl
      replace h := tx_sipush (v := 320) (p' := 15) h em127_12 (by decide +kernel) rfl
      replace h := tx_iload_n (p' := 16) h em127_15 rfl rfl
      replace h := tx_iadd (p' := 17) h em127_16 rfl
      obtain ⟨hb17, h⟩ := tx_iald (len := 390) (p' := 18) h em127_17 rfl rfl
      replace hb17 : (0 : Int) ≤ ((320 : Int32) + v).toInt ∧ ((320 : Int32) + v).toInt < 390 := hb17
      replace h := tx_iconst (v := 1) (p' := 19) h em127_18 (by decide +kernel) rfl
      rcases tx_icmp (t := 38) (p' := 22) h em127_19 (by decide) rfl with ⟨c19, h⟩ | ⟨c19, h⟩
      · replace c19 : (μ.1 107 ((320 : Int32) + v).toInt.toNat).toInt = 1 := c19
        replace h := tx_aload_n (p' := 39) h em127_38 rfl rfl
        obtain ⟨r39, μ39, hE39, h⟩ := tx_invV (na := 1) (mn := 129) (as := [.inr (.inl (some 75))]) (rest := []) (p' := 42) h em127_39 ((congrFun xo_12 411).trans rfl) xm_129 rfl rfl
        obtain ⟨rfl, hmc⟩ := ex_copies hE39
        replace hmc : μ39 = xco μ := hmc
        rw [hmc] at h
        replace h : eT xq_127 _ 42 [some (.inr (.inl (some 75))), some (.inl v)] [] (xco μ) r μ' := h
        replace h := tx_aload_n (p' := 43) h em127_42 rfl rfl
        replace h := tx_iload_n (p' := 44) h em127_43 rfl rfl
        obtain ⟨r44, μ44, hE44, h⟩ := tx_invV (na := 2) (mn := 128) (as := [.inr (.inl (some 75)), .inl v]) (rest := []) (p' := 47) h em127_44 ((congrFun xo_12 380).trans rfl) xm_128 rfl rfl
        rw [u1] at c19
        have hst : stS (rNow μ) vn := by
          unfold stS
          rw [hr1]
          exact Or.inl (Int32.toInt_inj.mp (c19.trans (by decide)))
        have hS2 := rS9_S hS xco_g
        have hcq := ex_clears hE44 hS2 hv hvn (fun i hi => by rw [show (xco μ).1 108 (330 + 8 * vn + i) = rNow μ (330 + 8 * vn + i) from congrFun xco_row _]; exact hF vn hvn hst i hi)
        rw [xco_row] at hcq
        obtain ⟨rfl, g2, w3⟩ := hcq
        replace h : eT xq_127 _ 47 [some (.inr (.inl (some 75))), some (.inl v)] [] μ44 r μ' := h
        replace h := tx_aload_n (p' := 48) h em127_47 rfl rfl
        replace h := tx_getc (c := 12) (j := 0) (p' := 51) h em127_48 ((congrFun xo_12 116).trans rfl) rfl rfl rfl
        replace h := tx_sipush (v := 320) (p' := 54) h em127_51 (by decide +kernel) rfl
        replace h := tx_iload_n (p' := 55) h em127_54 rfl rfl
        replace h := tx_iadd (p' := 56) h em127_55 rfl
        replace h := tx_aload_n (p' := 57) h em127_56 rfl rfl
        replace h := tx_getc (c := 12) (j := 0) (p' := 60) h em127_57 ((congrFun xo_12 116).trans rfl) rfl rfl rfl
        replace h := tx_sipush (v := 320) (p' := 63) h em127_60 (by decide +kernel) rfl
        replace h := tx_iload_n (p' := 64) h em127_63 rfl rfl
        replace h := tx_iadd (p' := 65) h em127_64 rfl
        obtain ⟨hb65, h⟩ := tx_iald (len := 390) (p' := 66) h em127_65 rfl rfl
        replace hb65 : (0 : Int) ≤ ((320 : Int32) + v).toInt ∧ ((320 : Int32) + v).toInt < 390 := hb65
        replace h := tx_iconst (v := 2) (p' := 67) h em127_66 (by decide +kernel) rfl
        rcases tx_icmp (t := 74) (p' := 70) h em127_67 (by decide) rfl with ⟨c67, h⟩ | ⟨c67, h⟩
        · replace c67 : ¬ (μ44.1 108 ((320 : Int32) + v).toInt.toNat).toInt = 2 := c67
          replace h := tx_iconst (v := 0) (p' := 75) h em127_74 (by decide +kernel) rfl
          obtain ⟨hb75, h⟩ := tx_iast (len := 390) (p' := 76) h em127_75 rfl rfl
          replace hb75 : (0 : Int) ≤ ((320 : Int32) + v).toInt ∧ ((320 : Int32) + v).toInt < 390 := hb75
          replace h := tx_aload_n (p' := 77) h em127_76 rfl rfl
          obtain ⟨r77, μ77, hE77, h⟩ := tx_invV (na := 1) (mn := 181) (as := [.inr (.inl (some 75))]) (rest := []) (p' := 80) h em127_77 ((congrFun xo_12 424).trans rfl) xm_181 rfl rfl
          rw [u1] at hE77
          have g2b : gR (xco μ) (xpi μ44 108 (320 + vn) (0 : Int32)) := gR_i g2
          have g3 := gS9_R xco_g g2b
          have e107 : (fun x => (xpi μ44 108 (320 + vn) (0 : Int32)).1 107 x) = fun x => μ.1 107 x := by
            funext x
            exact (gR_c g2b (by decide) (by decide) (by decide) (by decide)).trans (xco_ne (by decide) (fun q => absurd q.1 (by decide)))
          have hH2 : mH m G (xpi μ44 108 (320 + vn) (0 : Int32)) := mH_cg hH ((g2b.1 75 10 (by decide) (by decide) (by decide) (by decide)).trans (xco_ne (by decide) (by decide))) (fun j => (gR_c g2b (by decide) (by decide) (by decide) (by decide)).trans (xco_ne (by decide) (fun q => absurd q.1 (by decide))))
          obtain ⟨rfl, y1, y2, y3, y4⟩ := ex_records hE77 hH2
          rw [e107] at y1
          replace h : eT xq_127 _ 80 [some (.inr (.inl (some 75))), some (.inl v)] [] μ77 r μ' := h
          replace h := tx_iconst (v := 1) (p' := 81) h em127_80 (by decide +kernel) rfl
          obtain ⟨rfl, hμ⟩ := tx_ireturn h em127_81
          rw [u1] at c67
          have hpv : μ44.1 108 (320 + vn) = rNow μ (320 + vn) := (congrFun w3 _).trans (pCl_hi hS.1.1 _ (Nat.le_refl _) (hF vn hvn hst) _ (by omega))
          rw [hpv] at c67
          have hcv : (if rNow μ (320 + vn) = 2 then (3 : Int32) else 0) = (0 : Int32) := if_neg (fun q => by rw [q] at c67; exact c67 (by decide))
          rw [hμ]
          refine Or.inr ⟨rfl, ⟨fun a j b1 b2 b3 b4 b5 b6 => (y3 a j b3 b5 (fun q => b6 ⟨q.1, by omega⟩)).trans (g3.1 a j b1 b2 b3 b4 b5 b6), y4.trans g3.2⟩, vn, hv, hvn, hst, fun x hx => ?_, y1⟩
          rw [y2 x hx]
          unfold pClr
          rw [hcv, ← w3]
          exact congrFun row_i x
        · replace c67 : ¬ ¬ (μ44.1 108 ((320 : Int32) + v).toInt.toNat).toInt = 2 := c67
          replace h := tx_iconst (v := 3) (p' := 71) h em127_70 (by decide +kernel) rfl
          replace h := tx_goto (t := 75) h em127_71 (by decide)
          obtain ⟨hb75_1, h⟩ := tx_iast (len := 390) (p' := 76) h em127_75 rfl rfl
          replace hb75_1 : (0 : Int) ≤ ((320 : Int32) + v).toInt ∧ ((320 : Int32) + v).toInt < 390 := hb75_1
          replace h := tx_aload_n (p' := 77) h em127_76 rfl rfl
          obtain ⟨r77_1, μ77_1, hE77_1, h⟩ := tx_invV (na := 1) (mn := 181) (as := [.inr (.inl (some 75))]) (rest := []) (p' := 80) h em127_77 ((congrFun xo_12 424).trans rfl) xm_181 rfl rfl
          rw [u1] at hE77_1
          have g2b : gR (xco μ) (xpi μ44 108 (320 + vn) (3 : Int32)) := gR_i g2
          have g3 := gS9_R xco_g g2b
          have e107 : (fun x => (xpi μ44 108 (320 + vn) (3 : Int32)).1 107 x) = fun x => μ.1 107 x := by
            funext x
            exact (gR_c g2b (by decide) (by decide) (by decide) (by decide)).trans (xco_ne (by decide) (fun q => absurd q.1 (by decide)))
          have hH2 : mH m G (xpi μ44 108 (320 + vn) (3 : Int32)) := mH_cg hH ((g2b.1 75 10 (by decide) (by decide) (by decide) (by decide)).trans (xco_ne (by decide) (by decide))) (fun j => (gR_c g2b (by decide) (by decide) (by decide) (by decide)).trans (xco_ne (by decide) (fun q => absurd q.1 (by decide))))
          obtain ⟨rfl, y1, y2, y3, y4⟩ := ex_records hE77_1 hH2
          rw [e107] at y1
          replace h : eT xq_127 _ 80 [some (.inr (.inl (some 75))), some (.inl v)] [] μ77_1 r μ' := h
          replace h := tx_iconst (v := 1) (p' := 81) h em127_80 (by decide +kernel) rfl
          obtain ⟨rfl, hμ⟩ := tx_ireturn h em127_81
          rw [u1] at c67
          have hpv : μ44.1 108 (320 + vn) = rNow μ (320 + vn) := (congrFun w3 _).trans (pCl_hi hS.1.1 _ (Nat.le_refl _) (hF vn hvn hst) _ (by omega))
          rw [hpv] at c67
          have hcv : (if rNow μ (320 + vn) = 2 then (3 : Int32) else 0) = (3 : Int32) := if_pos (Int32.toInt_inj.mp ((Decidable.of_not_not c67).trans (by decide)))
          rw [hμ]
          refine Or.inr ⟨rfl, ⟨fun a j b1 b2 b3 b4 b5 b6 => (y3 a j b3 b5 (fun q => b6 ⟨q.1, by omega⟩)).trans (g3.1 a j b1 b2 b3 b4 b5 b6), y4.trans g3.2⟩, vn, hv, hvn, hst, fun x hx => ?_, y1⟩
          rw [y2 x hx]
          unfold pClr
          rw [hcv, ← w3]
          exact congrFun row_i x
      · replace c19 : ¬ (μ.1 107 ((320 : Int32) + v).toInt.toNat).toInt = 1 := c19
        replace h := tx_aload_n (p' := 23) h em127_22 rfl rfl
        replace h := tx_getc (c := 12) (j := 1) (p' := 26) h em127_23 ((congrFun xo_12 113).trans rfl) rfl rfl rfl
        replace h := tx_sipush (v := 320) (p' := 29) h em127_26 (by decide +kernel) rfl
        replace h := tx_iload_n (p' := 30) h em127_29 rfl rfl
        replace h := tx_iadd (p' := 31) h em127_30 rfl
        obtain ⟨hb31, h⟩ := tx_iald (len := 390) (p' := 32) h em127_31 rfl rfl
        replace hb31 : (0 : Int) ≤ ((320 : Int32) + v).toInt ∧ ((320 : Int32) + v).toInt < 390 := hb31
        replace h := tx_iconst (v := 2) (p' := 33) h em127_32 (by decide +kernel) rfl
        rcases tx_icmp (t := 38) (p' := 36) h em127_33 (by decide) rfl with ⟨c33, h⟩ | ⟨c33, h⟩
        · replace c33 : (μ.1 107 ((320 : Int32) + v).toInt.toNat).toInt = 2 := c33
          replace h := tx_aload_n (p' := 39) h em127_38 rfl rfl
          obtain ⟨r39_1, μ39_1, hE39_1, h⟩ := tx_invV (na := 1) (mn := 129) (as := [.inr (.inl (some 75))]) (rest := []) (p' := 42) h em127_39 ((congrFun xo_12 411).trans rfl) xm_129 rfl rfl
          obtain ⟨rfl, hmc⟩ := ex_copies hE39_1
          replace hmc : μ39_1 = xco μ := hmc
          rw [hmc] at h
          replace h : eT xq_127 _ 42 [some (.inr (.inl (some 75))), some (.inl v)] [] (xco μ) r μ' := h
          replace h := tx_aload_n (p' := 43) h em127_42 rfl rfl
          replace h := tx_iload_n (p' := 44) h em127_43 rfl rfl
          obtain ⟨r44_1, μ44_1, hE44_1, h⟩ := tx_invV (na := 2) (mn := 128) (as := [.inr (.inl (some 75)), .inl v]) (rest := []) (p' := 47) h em127_44 ((congrFun xo_12 380).trans rfl) xm_128 rfl rfl
          rw [u1] at c33
          have hst : stS (rNow μ) vn := by
            unfold stS
            rw [hr1]
            exact Or.inr (Int32.toInt_inj.mp (c33.trans (by decide)))
          have hS2 := rS9_S hS xco_g
          have hcq := ex_clears hE44_1 hS2 hv hvn (fun i hi => by rw [show (xco μ).1 108 (330 + 8 * vn + i) = rNow μ (330 + 8 * vn + i) from congrFun xco_row _]; exact hF vn hvn hst i hi)
          rw [xco_row] at hcq
          obtain ⟨rfl, g2, w3⟩ := hcq
          replace h : eT xq_127 _ 47 [some (.inr (.inl (some 75))), some (.inl v)] [] μ44_1 r μ' := h
          replace h := tx_aload_n (p' := 48) h em127_47 rfl rfl
          replace h := tx_getc (c := 12) (j := 0) (p' := 51) h em127_48 ((congrFun xo_12 116).trans rfl) rfl rfl rfl
          replace h := tx_sipush (v := 320) (p' := 54) h em127_51 (by decide +kernel) rfl
          replace h := tx_iload_n (p' := 55) h em127_54 rfl rfl
          replace h := tx_iadd (p' := 56) h em127_55 rfl
          replace h := tx_aload_n (p' := 57) h em127_56 rfl rfl
          replace h := tx_getc (c := 12) (j := 0) (p' := 60) h em127_57 ((congrFun xo_12 116).trans rfl) rfl rfl rfl
          replace h := tx_sipush (v := 320) (p' := 63) h em127_60 (by decide +kernel) rfl
          replace h := tx_iload_n (p' := 64) h em127_63 rfl rfl
          replace h := tx_iadd (p' := 65) h em127_64 rfl
          obtain ⟨hb65_1, h⟩ := tx_iald (len := 390) (p' := 66) h em127_65 rfl rfl
          replace hb65_1 : (0 : Int) ≤ ((320 : Int32) + v).toInt ∧ ((320 : Int32) + v).toInt < 390 := hb65_1
          replace h := tx_iconst (v := 2) (p' := 67) h em127_66 (by decide +kernel) rfl
          rcases tx_icmp (t := 74) (p' := 70) h em127_67 (by decide) rfl with ⟨c67_1, h⟩ | ⟨c67_1, h⟩
          · replace c67_1 : ¬ (μ44_1.1 108 ((320 : Int32) + v).toInt.toNat).toInt = 2 := c67_1
            replace h := tx_iconst (v := 0) (p' := 75) h em127_74 (by decide +kernel) rfl
            obtain ⟨hb75_2, h⟩ := tx_iast (len := 390) (p' := 76) h em127_75 rfl rfl
            replace hb75_2 : (0 : Int) ≤ ((320 : Int32) + v).toInt ∧ ((320 : Int32) + v).toInt < 390 := hb75_2
            replace h := tx_aload_n (p' := 77) h em127_76 rfl rfl
            obtain ⟨r77_2, μ77_2, hE77_2, h⟩ := tx_invV (na := 1) (mn := 181) (as := [.inr (.inl (some 75))]) (rest := []) (p' := 80) h em127_77 ((congrFun xo_12 424).trans rfl) xm_181 rfl rfl
            rw [u1] at hE77_2
            have g2b : gR (xco μ) (xpi μ44_1 108 (320 + vn) (0 : Int32)) := gR_i g2
            have g3 := gS9_R xco_g g2b
            have e107 : (fun x => (xpi μ44_1 108 (320 + vn) (0 : Int32)).1 107 x) = fun x => μ.1 107 x := by
              funext x
              exact (gR_c g2b (by decide) (by decide) (by decide) (by decide)).trans (xco_ne (by decide) (fun q => absurd q.1 (by decide)))
            have hH2 : mH m G (xpi μ44_1 108 (320 + vn) (0 : Int32)) := mH_cg hH ((g2b.1 75 10 (by decide) (by decide) (by decide) (by decide)).trans (xco_ne (by decide) (by decide))) (fun j => (gR_c g2b (by decide) (by decide) (by decide) (by decide)).trans (xco_ne (by decide) (fun q => absurd q.1 (by decide))))
            obtain ⟨rfl, y1, y2, y3, y4⟩ := ex_records hE77_2 hH2
            rw [e107] at y1
            replace h : eT xq_127 _ 80 [some (.inr (.inl (some 75))), some (.inl v)] [] μ77_2 r μ' := h
            replace h := tx_iconst (v := 1) (p' := 81) h em127_80 (by decide +kernel) rfl
            obtain ⟨rfl, hμ⟩ := tx_ireturn h em127_81
            rw [u1] at c67_1
            have hpv : μ44_1.1 108 (320 + vn) = rNow μ (320 + vn) := (congrFun w3 _).trans (pCl_hi hS.1.1 _ (Nat.le_refl _) (hF vn hvn hst) _ (by omega))
            rw [hpv] at c67_1
            have hcv : (if rNow μ (320 + vn) = 2 then (3 : Int32) else 0) = (0 : Int32) := if_neg (fun q => by rw [q] at c67_1; exact c67_1 (by decide))
            rw [hμ]
            refine Or.inr ⟨rfl, ⟨fun a j b1 b2 b3 b4 b5 b6 => (y3 a j b3 b5 (fun q => b6 ⟨q.1, by omega⟩)).trans (g3.1 a j b1 b2 b3 b4 b5 b6), y4.trans g3.2⟩, vn, hv, hvn, hst, fun x hx => ?_, y1⟩
            rw [y2 x hx]
            unfold pClr
            rw [hcv, ← w3]
            exact congrFun row_i x
          · replace c67_1 : ¬ ¬ (μ44_1.1 108 ((320 : Int32) + v).toInt.toNat).toInt = 2 := c67_1
            replace h := tx_iconst (v := 3) (p' := 71) h em127_70 (by decide +kernel) rfl
            replace h := tx_goto (t := 75) h em127_71 (by decide)
            obtain ⟨hb75_3, h⟩ := tx_iast (len := 390) (p' := 76) h em127_75 rfl rfl
            replace hb75_3 : (0 : Int) ≤ ((320 : Int32) + v).toInt ∧ ((320 : Int32) + v).toInt < 390 := hb75_3
            replace h := tx_aload_n (p' := 77) h em127_76 rfl rfl
            obtain ⟨r77_3, μ77_3, hE77_3, h⟩ := tx_invV (na := 1) (mn := 181) (as := [.inr (.inl (some 75))]) (rest := []) (p' := 80) h em127_77 ((congrFun xo_12 424).trans rfl) xm_181 rfl rfl
            rw [u1] at hE77_3
            have g2b : gR (xco μ) (xpi μ44_1 108 (320 + vn) (3 : Int32)) := gR_i g2
            have g3 := gS9_R xco_g g2b
            have e107 : (fun x => (xpi μ44_1 108 (320 + vn) (3 : Int32)).1 107 x) = fun x => μ.1 107 x := by
              funext x
              exact (gR_c g2b (by decide) (by decide) (by decide) (by decide)).trans (xco_ne (by decide) (fun q => absurd q.1 (by decide)))
            have hH2 : mH m G (xpi μ44_1 108 (320 + vn) (3 : Int32)) := mH_cg hH ((g2b.1 75 10 (by decide) (by decide) (by decide) (by decide)).trans (xco_ne (by decide) (by decide))) (fun j => (gR_c g2b (by decide) (by decide) (by decide) (by decide)).trans (xco_ne (by decide) (fun q => absurd q.1 (by decide))))
            obtain ⟨rfl, y1, y2, y3, y4⟩ := ex_records hE77_3 hH2
            rw [e107] at y1
            replace h : eT xq_127 _ 80 [some (.inr (.inl (some 75))), some (.inl v)] [] μ77_3 r μ' := h
            replace h := tx_iconst (v := 1) (p' := 81) h em127_80 (by decide +kernel) rfl
            obtain ⟨rfl, hμ⟩ := tx_ireturn h em127_81
            rw [u1] at c67_1
            have hpv : μ44_1.1 108 (320 + vn) = rNow μ (320 + vn) := (congrFun w3 _).trans (pCl_hi hS.1.1 _ (Nat.le_refl _) (hF vn hvn hst) _ (by omega))
            rw [hpv] at c67_1
            have hcv : (if rNow μ (320 + vn) = 2 then (3 : Int32) else 0) = (3 : Int32) := if_pos (Int32.toInt_inj.mp ((Decidable.of_not_not c67_1).trans (by decide)))
            rw [hμ]
            refine Or.inr ⟨rfl, ⟨fun a j b1 b2 b3 b4 b5 b6 => (y3 a j b3 b5 (fun q => b6 ⟨q.1, by omega⟩)).trans (g3.1 a j b1 b2 b3 b4 b5 b6), y4.trans g3.2⟩, vn, hv, hvn, hst, fun x hx => ?_, y1⟩
            rw [y2 x hx]
            unfold pClr
            rw [hcv, ← w3]
            exact congrFun row_i x
        · replace c33 : ¬ (μ.1 107 ((320 : Int32) + v).toInt.toNat).toInt = 2 := c33
          replace h := tx_iconst (v := 0) (p' := 37) h em127_36 (by decide +kernel) rfl
          obtain ⟨rfl, hμ⟩ := tx_ireturn h em127_37
          rw [u1] at c19 c33
          rw [hμ]
          refine Or.inl ⟨rfl, ⟨fun _ _ _ _ _ _ _ _ => rfl, rfl⟩, fun _ => rfl, hH, fun vm a1 a2 a3 => ?_⟩
          rw [show vm = vn by omega] at a3
          unfold stS at a3
          rw [hr1] at a3
          rcases a3 with z | z
          · rw [z] at c19; exact c19 (by decide)
          · rw [z] at c33; exact c33 (by decide)
  · rw [hm1] at h
    replace h : eT xq_127 _ 5 [some (.inr (.inl (some 75))), some (.inl v)] [.inl (0 : Int32)] μ r μ' := h
    rcases tx_if (t := 36) (p' := 8) h em127_5 (by decide) rfl with ⟨c5_1, h⟩ | ⟨c5_1, h⟩
    · replace c5_1 : (0 : Int) = (0 : Int) := c5_1
      replace h := tx_iconst (v := 0) (p' := 37) h em127_36 (by decide +kernel) rfl
      obtain ⟨rfl, hμ⟩ := tx_ireturn h em127_37
      rw [hμ]
      exact Or.inl ⟨rfl, ⟨fun _ _ _ _ _ _ _ _ => rfl, rfl⟩, fun _ => rfl, hH, fun vm a1 a2 a3 => by exfalso; omega⟩
    · replace c5_1 : ¬ (0 : Int) = (0 : Int) := c5_1
      exfalso
      omega
