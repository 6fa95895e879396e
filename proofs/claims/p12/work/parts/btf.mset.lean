/-- the row that is looked at -/
def rNow (μ : xM) : Nat → Int32 := fun x => if x < 390 then μ.1 107 x else μ.1 108 x
/-- what the reference's set may change, but its row and its history -/
def gS9 (μ μ' : xM) : Prop := (∀ a j, a ≠ 105 → a ≠ 106 → a ≠ 107 → a ≠ 108 → a ≠ 112 → ¬ (a = 75 ∧ (j = 6 ∨ j = 7 ∨ j = 8 ∨ j = 10 ∨ j = 58 ∨ j = 59)) → μ'.1 a j = μ.1 a j) ∧ μ'.2 = μ.2
theorem rS9_S {S : kSt} {s : Nat} {μ ν : xM} (h : rS9 S s μ) (e : gS9 μ ν) : rS9 S s ν := rS9_cg h (fun k j a b => e.1 k j (by omega) (by omega) (by omega) (by omega) (by omega) (by omega)) (e.1 75 2 (by decide) (by decide) (by decide) (by decide) (by decide) (by decide))
/-- behind copies -/
def xco (μ : xM) : xM := xpi (xpi (xpi (xcp μ 107 108 390) 75 6 (μ.1 93 (μ.1 75 2).toInt.toNat)) 75 7 (0 : Int32)) 75 8 (-1 : Int32)
theorem xco_8 {μ : xM} : (xco μ).1 75 8 = (-1 : Int32) := xpi_at
theorem xco_ne {μ : xM} {a j : Nat} (h1 : a ≠ 108) (h2 : ¬ (a = 75 ∧ (j = 6 ∨ j = 7 ∨ j = 8))) : (xco μ).1 a j = μ.1 a j := by
  unfold xco
  rw [xpi_ne (fun q => h2 (by omega)), xpi_ne (fun q => h2 (by omega)), xpi_ne (fun q => h2 (by omega)), xcp_ne h1]
theorem xco_row {μ : xM} : (fun x => (xco μ).1 108 x) = rNow μ := by
  funext x
  unfold xco
  rw [xpi_ne (fun q => absurd q.1 (by decide)), xpi_ne (fun q => absurd q.1 (by decide)), xpi_ne (fun q => absurd q.1 (by decide))]
  show (if 108 = 108 ∧ x < 390 then μ.1 107 x else μ.1 108 x) = if x < 390 then μ.1 107 x else μ.1 108 x
  by_cases h : x < 390
  · rw [if_pos h, if_pos ⟨rfl, h⟩]
  · rw [if_neg h, if_neg (fun q => h q.2)]
theorem xco_g {μ : xM} : gS9 μ (xco μ) := ⟨fun a j h1 h2 h3 h4 h5 h6 => xco_ne h4 (fun q => h6 ⟨q.1, by omega⟩), rfl⟩
theorem gS9_R {μ ν ω : xM} (h1 : gS9 μ ν) (h2 : gR ν ω) : gS9 μ ω := ⟨fun a j b1 b2 b3 b4 b5 b6 => (h2.1 a j b1 b2 b4 (fun q => b6 ⟨q.1, by omega⟩)).trans (h1.1 a j b1 b2 b3 b4 b5 b6), h2.2.trans h1.2⟩
theorem mH_cg {m : Nat} {G : Nat → Nat → Int32} {μ ν : xM} (h : mH m G μ) (e1 : ν.1 75 10 = μ.1 75 10) (e2 : ∀ j, ν.1 112 j = μ.1 112 j) : mH m G ν := by
  obtain ⟨a, b, c⟩ := h
  refine ⟨by rw [e1]; exact a, b, fun i hi k hk => ?_⟩
  rw [e2]; exact c i hi k hk
set_option maxRecDepth 10000 in
set_option maxHeartbeats 4000000 in
theorem ex_misOpen {v : Int32} {vn : Nat} {μ μ' : xM} {r : Option zV} (h0 : Ex gx xq_153 [.inr (.inl (some 75)), .inl v] μ r μ') (hv : v.toInt = (vn : Int)) (hvn : vn < 7) : μ' = μ ∧ ((r = some (.inl 1) ∧ μ.1 108 (320 + vn) = 0) ∨ (r = some (.inl 0) ∧ ¬ μ.1 108 (320 + vn) = 0)) := by
  obtain ⟨n, h⟩ := tx_in (L := [some (.inr (.inl (some 75))), some (.inl v)]) h0 rfl
  have e320 : (320 : Int32).toInt = 320 := by decide
  have u1 : ((320 : Int32) + v).toInt.toNat = 320 + vn := by
    have : ((320 : Int32) + v).toInt = 320 + (vn : Int) := by rw [an_add (by rw [e320]; omega) (by rw [e320]; omega), e320, hv]
    omega
  replace h := tx_aload_n (p' := 1) h em153_0 rfl rfl
  replace h := tx_getc (c := 12) (j := 0) (p' := 4) h em153_1 ((congrFun xo_12 116).trans rfl) rfl rfl rfl
  replace h := tx_sipush (v := 320) (p' := 7) h em153_4 (by decide +kernel) rfl
  replace h := tx_iload_n (p' := 8) h em153_7 rfl rfl
  replace h := tx_iadd (p' := 9) h em153_8 rfl
  obtain ⟨hb9, h⟩ := tx_iald (len := 390) (p' := 10) h em153_9 rfl rfl
  replace hb9 : (0 : Int) ≤ ((320 : Int32) + v).toInt ∧ ((320 : Int32) + v).toInt < 390 := hb9
  rcases tx_if (t := 17) (p' := 13) h em153_10 (by decide) rfl with ⟨c10, h⟩ | ⟨c10, h⟩
  · replace c10 : ¬ (μ.1 108 ((320 : Int32) + v).toInt.toNat).toInt = 0 := c10
    replace h := tx_iconst (v := 0) (p' := 18) h em153_17 (by decide +kernel) rfl
    obtain ⟨rfl, hμ⟩ := tx_ireturn h em153_18
    rw [u1] at c10
    exact ⟨hμ, Or.inr ⟨rfl, fun z => by rw [z] at c10; exact absurd rfl c10⟩⟩
  · replace c10 : ¬ ¬ (μ.1 108 ((320 : Int32) + v).toInt.toNat).toInt = 0 := c10
    replace h := tx_iconst (v := 1) (p' := 14) h em153_13 (by decide +kernel) rfl
    replace h := tx_goto (t := 18) h em153_14 (by decide)
    obtain ⟨rfl, hμ⟩ := tx_ireturn h em153_18
    rw [u1] at c10
    exact ⟨hμ, Or.inl ⟨rfl, Int32.toInt_inj.mp ((Decidable.of_not_not c10).trans (by decide))⟩⟩
set_option maxRecDepth 10000 in
set_option maxHeartbeats 4000000 in
theorem ex_mset {v : Int32} {S : kSt} {s m : Nat} {G : Nat → Nat → Int32} {μ μ' : xM} {r : Option zV} (h0 : Ex gx xq_184 [.inr (.inl (some 75)), .inl v] μ r μ') (hS : rS9 S s μ) (hH : mH m G μ) : (r = some (.inl 0) ∧ gS9 μ μ' ∧ (∀ j, μ'.1 107 j = μ.1 107 j) ∧ mH m G μ' ∧ ∀ vm : Nat, v.toInt = (vm : Int) → vm < S.2.1.length → rNow μ (320 + vm) = 0 → pSt S vm (kV S vm).1.length (pNo vm (rNow μ)) = none) ∨ (r = some (.inl 1) ∧ gS9 μ μ' ∧ ∃ (vn : Nat) (ρ' : Nat → Int32), v.toInt = (vn : Int) ∧ vn < S.2.1.length ∧ rNow μ (320 + vn) = 0 ∧ pSt S vn (kV S vn).1.length (pNo vn (rNow μ)) = some ρ' ∧ (∀ x, x < 390 → μ'.1 107 x = pUp ρ' (320 + vn) 1 x) ∧ mH (min 30 (m + 1)) (gcons (fun x => μ.1 107 x) G) μ') := by
  obtain ⟨n, h⟩ := tx_in (L := [some (.inr (.inl (some 75))), some (.inl v)]) h0 rfl
  replace h := tx_aload_n (p' := 1) h em184_0 rfl rfl
  replace h := tx_iload_n (p' := 2) h em184_1 rfl rfl
  obtain ⟨r2, μ2, hE2, h⟩ := tx_invV (na := 2) (mn := 155) (as := [.inr (.inl (some 75)), .inl v]) (rest := []) (p' := 5) h em184_2 ((congrFun xo_12 417).trans rfl) xm_155 rfl rfl
  obtain ⟨hm1, ⟨rfl, v1, v2⟩ | ⟨rfl, v1⟩⟩ := ex_misVerse (V := (S.2.1.length : Int)) hE2 (by rw [show (μ.1 75 2).toInt.toNat = s by have := hS.2.1.2; omega]; exact hS.2.2.1.1.2.1) ⟨by omega, by have := hS.1.1.2.1; omega⟩
  · rw [hm1] at h
    obtain ⟨vn, hv⟩ : ∃ vn : Nat, v.toInt = (vn : Int) := ⟨v.toInt.toNat, by omega⟩
    have hvn : vn < S.2.1.length := by omega
    have hV7 := hS.1.1.2.1
    replace h : eT xq_184 _ 5 [some (.inr (.inl (some 75))), some (.inl v)] [.inl (1 : Int32)] μ r μ' := h
    rcases tx_if (t := 10) (p' := 8) h em184_5 (by decide) rfl with ⟨c5, h⟩ | ⟨c5, h⟩
    · replace c5 : ¬ (1 : Int) = (0 : Int) := c5
      replace h := tx_aload_n (p' := 11) h em184_10 rfl rfl
      obtain ⟨r11, μ11, hE11, h⟩ := tx_invV (na := 1) (mn := 129) (as := [.inr (.inl (some 75))]) (rest := []) (p' := 14) h em184_11 ((congrFun xo_12 411).trans rfl) xm_129 rfl rfl
      obtain ⟨rfl, hmc⟩ := ex_copies hE11
      replace hmc : μ11 = xco μ := hmc
      rw [hmc] at h
      replace h : eT xq_184 _ 14 [some (.inr (.inl (some 75))), some (.inl v)] [] (xco μ) r μ' := h
      replace h := tx_aload_n (p' := 15) h em184_14 rfl rfl
      replace h := tx_iload_n (p' := 16) h em184_15 rfl rfl
      obtain ⟨r16, μ16, hE16, h⟩ := tx_invV (na := 2) (mn := 153) (as := [.inr (.inl (some 75)), .inl v]) (rest := []) (p' := 19) h em184_16 ((congrFun xo_12 383).trans rfl) xm_153 rfl rfl
      obtain ⟨hm2, ⟨rfl, o1⟩ | ⟨rfl, o1⟩⟩ := ex_misOpen hE16 hv (by omega)
      · rw [hm2] at h
        replace h : eT xq_184 _ 19 [some (.inr (.inl (some 75))), some (.inl v)] [.inl (1 : Int32)] (xco μ) r μ' := h
        rcases tx_if (t := 30) (p' := 22) h em184_19 (by decide) rfl with ⟨c19, h⟩ | ⟨c19, h⟩
        · replace c19 : (1 : Int) = (0 : Int) := c19
          exfalso
          omega
        · replace c19 : ¬ (1 : Int) = (0 : Int) := c19
          replace h := tx_aload_n (p' := 23) h em184_22 rfl rfl
          replace h := tx_iload_n (p' := 24) h em184_23 rfl rfl
          obtain ⟨r24, μ24, hE24, h⟩ := tx_invV (na := 2) (mn := 185) (as := [.inr (.inl (some 75)), .inl v]) (rest := []) (p' := 27) h em184_24 ((congrFun xo_12 421).trans rfl) xm_185 rfl rfl
          have hS2 := rS9_S hS xco_g
          have hsq := ex_sets hE24 hS2 hv hvn (by rw [xco_8]; decide)
          rw [xco_row] at hsq
          rcases hsq with ⟨rfl, g2, ρ9, w2, w3⟩ | ⟨rfl, g2, w2⟩
          · replace h : eT xq_184 _ 27 [some (.inr (.inl (some 75))), some (.inl v)] [.inl (1 : Int32)] μ24 r μ' := h
            rcases tx_if (t := 32) (p' := 30) h em184_27 (by decide) rfl with ⟨c27, h⟩ | ⟨c27, h⟩
            · replace c27 : ¬ (1 : Int) = (0 : Int) := c27
              replace h := tx_aload_n (p' := 33) h em184_32 rfl rfl
              obtain ⟨r33, μ33, hE33, h⟩ := tx_invV (na := 1) (mn := 181) (as := [.inr (.inl (some 75))]) (rest := []) (p' := 36) h em184_33 ((congrFun xo_12 424).trans rfl) xm_181 rfl rfl
              have g3 := gS9_R xco_g g2
              have e107 : (fun x => μ24.1 107 x) = fun x => μ.1 107 x := by
                funext x
                exact (gR_c g2 (by decide) (by decide) (by decide) (by decide)).trans (xco_ne (by decide) (fun q => absurd q.1 (by decide)))
              have hH2 : mH m G μ24 := mH_cg hH ((g2.1 75 10 (by decide) (by decide) (by decide) (by decide)).trans (xco_ne (by decide) (by decide))) (fun j => (gR_c g2 (by decide) (by decide) (by decide) (by decide)).trans (xco_ne (by decide) (fun q => absurd q.1 (by decide))))
              obtain ⟨rfl, y1, y2, y3, y4⟩ := ex_records hE33 hH2
              rw [e107] at y1
              replace h : eT xq_184 _ 36 [some (.inr (.inl (some 75))), some (.inl v)] [] μ33 r μ' := h
              replace h := tx_iconst (v := 1) (p' := 37) h em184_36 (by decide +kernel) rfl
              obtain ⟨rfl, hμ⟩ := tx_ireturn h em184_37
              rw [hμ]
              refine Or.inr ⟨rfl, ⟨fun a j b1 b2 b3 b4 b5 b6 => (y3 a j b3 b5 (fun q => b6 ⟨q.1, by omega⟩)).trans (g3.1 a j b1 b2 b3 b4 b5 b6), y4.trans g3.2⟩, vn, ρ9, hv, hvn, ?_, w2, fun x hx => ?_, y1⟩
              · rw [← xco_row]; exact o1
              · rw [y2 x hx]; exact congrFun w3 x
            · replace c27 : ¬ ¬ (1 : Int) = (0 : Int) := c27
              exfalso
              omega
          · replace h : eT xq_184 _ 27 [some (.inr (.inl (some 75))), some (.inl v)] [.inl (0 : Int32)] μ24 r μ' := h
            rcases tx_if (t := 32) (p' := 30) h em184_27 (by decide) rfl with ⟨c27_1, h⟩ | ⟨c27_1, h⟩
            · replace c27_1 : ¬ (0 : Int) = (0 : Int) := c27_1
              exfalso
              omega
            · replace c27_1 : ¬ ¬ (0 : Int) = (0 : Int) := c27_1
              replace h := tx_iconst (v := 0) (p' := 31) h em184_30 (by decide +kernel) rfl
              obtain ⟨rfl, hμ⟩ := tx_ireturn h em184_31
              rw [hμ]
              refine Or.inl ⟨rfl, gS9_R xco_g g2, fun j => (gR_c g2 (by decide) (by decide) (by decide) (by decide)).trans (xco_ne (by decide) (fun q => absurd q.1 (by decide))), mH_cg hH ((g2.1 75 10 (by decide) (by decide) (by decide) (by decide)).trans (xco_ne (by decide) (by decide))) (fun j => (gR_c g2 (by decide) (by decide) (by decide) (by decide)).trans (xco_ne (by decide) (fun q => absurd q.1 (by decide)))), fun vm a1 a2 a3 => by rw [show vm = vn by omega]; exact w2⟩
      · rw [hm2] at h
        replace h : eT xq_184 _ 19 [some (.inr (.inl (some 75))), some (.inl v)] [.inl (0 : Int32)] (xco μ) r μ' := h
        rcases tx_if (t := 30) (p' := 22) h em184_19 (by decide) rfl with ⟨c19_1, h⟩ | ⟨c19_1, h⟩
        · replace c19_1 : (0 : Int) = (0 : Int) := c19_1
          replace h := tx_iconst (v := 0) (p' := 31) h em184_30 (by decide +kernel) rfl
          obtain ⟨rfl, hμ⟩ := tx_ireturn h em184_31
          rw [hμ]
          refine Or.inl ⟨rfl, xco_g, fun j => xco_ne (by decide) (fun q => absurd q.1 (by decide)), mH_cg hH (xco_ne (by decide) (by decide)) (fun j => xco_ne (by decide) (fun q => absurd q.1 (by decide))), fun vm a1 a2 a3 => absurd ?_ o1⟩
          rw [show vm = vn by omega, ← xco_row] at a3
          exact a3
        · replace c19_1 : ¬ (0 : Int) = (0 : Int) := c19_1
          exfalso
          omega
    · replace c5 : ¬ ¬ (1 : Int) = (0 : Int) := c5
      exfalso
      omega
  · rw [hm1] at h
    replace h : eT xq_184 _ 5 [some (.inr (.inl (some 75))), some (.inl v)] [.inl (0 : Int32)] μ r μ' := h
    rcases tx_if (t := 10) (p' := 8) h em184_5 (by decide) rfl with ⟨c5_1, h⟩ | ⟨c5_1, h⟩
    · replace c5_1 : ¬ (0 : Int) = (0 : Int) := c5_1
      exfalso
      omega
    · replace c5_1 : ¬ ¬ (0 : Int) = (0 : Int) := c5_1
      replace h := tx_iconst (v := 0) (p' := 9) h em184_8 (by decide +kernel) rfl
      obtain ⟨rfl, hμ⟩ := tx_ireturn h em184_9
      rw [hμ]
      exact Or.inl ⟨rfl, ⟨fun _ _ _ _ _ _ _ _ => rfl, rfl⟩, fun _ => rfl, hH, fun vm a1 a2 a3 => by exfalso; omega⟩
