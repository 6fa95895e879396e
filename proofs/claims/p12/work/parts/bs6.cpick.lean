/-! ===== the class's planner ===== -/
/-- the planners' arrays stand behind them -/
def plA (p j : Nat) : Nat := p + (if j < 5 then j - 1 else j - 5)
def pOK9 (μ : xM) : Prop := ∀ p, (p = 52 ∨ p = 67) → ∀ j, ((2 ≤ j ∧ j ≤ 4) ∨ (9 ≤ j ∧ j ≤ 11)) → μ.2.2.1 p j = some (plA p j)
theorem pOK9_2 {μ ν : xM} (h : ν.2 = μ.2) (hp : pOK9 μ) : pOK9 ν := by
  unfold pOK9
  rw [h]
  exact hp
/-- sorted: the most rank first, of alike ones the first -/
def gSrt (rk : Nat → Int32) (G : List Nat) : Prop := ∀ i j, i < j → j < G.length → (rk (G.getD j 0)).toInt < (rk (G.getD i 0)).toInt ∨ ((rk (G.getD j 0)).toInt = (rk (G.getD i 0)).toInt ∧ G.getD i 0 < G.getD j 0)
/-- the givers of a verse's letter as they stand in the planner (givers at c + 4, ranks, counts) -/
def gLs (c : Nat) (μ : xM) (v l : Nat) (rk : Nat → Int32) (G : List Nat) : Prop := (μ.1 (c + 6) (8 * v + l)).toInt = G.length ∧ G.length ≤ 5 ∧ ∀ i, i < G.length → (μ.1 (c + 4) (5 * (8 * v + l) + i)).toInt = ((G.getD i 0 : Nat) : Int) ∧ μ.1 (c + 5) (5 * (8 * v + l) + i) = rk (G.getD i 0)
def gMem (H : Nat) (lv : Nat → Prop) (f0 : Nat → Int32) (G : List Nat) : Prop := ∀ h, h ∈ G ↔ elG H lv f0 h
/-- clashes alone -/
def gC (c : Nat) (μ μ' : xM) : Prop := (∀ k j, ¬ (k = c ∧ j = 5) → μ'.1 k j = μ.1 k j) ∧ μ'.2 = μ.2
theorem gd_mem {G : List Nat} {i : Nat} (h : i < G.length) : G.getD i 0 ∈ G := by
  rw [List.getD_eq_getElem?_getD, List.getElem?_eq_getElem h]
  exact List.getElem_mem h
theorem mem_gd {G : List Nat} {x : Nat} (h : x ∈ G) : ∃ i, i < G.length ∧ G.getD i 0 = x := by
  obtain ⟨i, hi, e⟩ := List.getElem_of_mem h
  exact ⟨i, hi, by rw [List.getD_eq_getElem?_getD, List.getElem?_eq_getElem hi]; exact e⟩
/-- the first of the list that is free gives -/
theorem gFirst {H : Nat} {lv : Nat → Prop} {f0 fr rk : Nat → Int32} {G : List Nat} (hs : gSrt rk G) (hm : gMem H lv f0 G) (hf : ∀ h, h < H → ¬ fr h = 0 → ¬ f0 h = 0) {j : Nat} (hj : j < G.length) (h1 : ¬ fr (G.getD j 0) = 0) (h0 : ∀ i, i < j → fr (G.getD i 0) = 0) : gvR H lv fr rk ((G.getD j 0 : Nat) : Int) := by
  have e := (hm (G.getD j 0)).mp (gd_mem hj)
  refine Or.inr ⟨_, rfl, ⟨e.1, h1, e.2.2⟩, fun h ⟨q1, q2, q3⟩ => ?_⟩
  obtain ⟨i, hi, ei⟩ := mem_gd ((hm h).mpr ⟨q1, hf h q1 q2, q3⟩)
  by_cases c : i < j
  · exact absurd (by rw [← ei]; exact h0 i c) q2
  · by_cases d : i = j
    · subst d; rw [ei]; exact Or.inr ⟨rfl, Nat.le_refl _⟩
    · have := hs j i (by omega) hi
      rw [ei] at this
      rcases this with z | ⟨z, w⟩
      · exact Or.inl z
      · exact Or.inr ⟨z, by omega⟩
theorem gNone {H : Nat} {lv : Nat → Prop} {f0 fr rk : Nat → Int32} {G : List Nat} (hm : gMem H lv f0 G) (hf : ∀ h, h < H → ¬ fr h = 0 → ¬ f0 h = 0) (h0 : ∀ i, i < G.length → fr (G.getD i 0) = 0) : gvR H lv fr rk (-1) := by
  refine Or.inl ⟨rfl, fun h ⟨q1, q2, q3⟩ => ?_⟩
  obtain ⟨i, hi, ei⟩ := mem_gd ((hm h).mpr ⟨q1, hf h q1 q2, q3⟩)
  exact q2 (by rw [← ei]; exact h0 i hi)
abbrev xq_51 : xP := (⟨"CapitalCase$Town", "free", "(I)I"⟩, prog_10_method_4_code, 2, (some .int))
abbrev xq_25 : xP := (⟨"CapitalCase$Planner", "pick", "(II)I"⟩, prog_5_method_5_code, 7, (some .int))
abbrev xq_30 : xP := (⟨"CapitalCase$Planner", "take", "(I)Z"⟩, prog_5_method_4_code, 5, (some .boolean))
abbrev xq_21 : xP := (⟨"CapitalCase$Planner", "giveUp", "(II)V"⟩, prog_5_method_6_code, 5, none)
set_option maxRecDepth 10000 in
set_option maxHeartbeats 4000000 in
theorem ex_free_28 {e : Int32} {en : Nat} {ρ : Nat → Int32} {μ μ' : xM} {r : Option zV} (h0 : Ex gx xq_51 [.inr (.inl (some 28)), .inl e] μ r μ') (hO : hOK μ) (hT : twA 28 ρ μ) (he : e.toInt = (en : Int)) (he4 : en < 40) : μ' = μ ∧ r = some (.inl (pFe ρ en)) := by
  obtain ⟨n, h⟩ := tx_in (L := [some (.inr (.inl (some 28))), some (.inl e)]) h0 rfl
  replace h := tx_iconst (v := 0) (p' := 1) h em51_0 (by decide +kernel) rfl
  replace h := tx_aload_n (p' := 2) h em51_1 rfl rfl
  obtain ⟨b2, hk_b2, hr_b2, h⟩ := tx_getk (c := 8) (j := 0) (p' := 5) h em51_2 ((congrFun xo_9 9).trans rfl) rfl rfl rfl
  have eb2 : b2 = 29 := Option.some.inj (hr_b2.symm.trans ((hO).2 28 (by decide) 0 (by decide)))
  subst eb2
  replace h := tx_iload_n (p' := 6) h em51_5 rfl rfl
  obtain ⟨hb6, h⟩ := tx_iald (len := 40) (p' := 7) h em51_6 rfl rfl
  replace hb6 : (0 : Int) ≤ e.toInt ∧ e.toInt < 40 := hb6
  replace h := tx_aload_n (p' := 8) h em51_7 rfl rfl
  obtain ⟨b8, hk_b8, hr_b8, h⟩ := tx_getk (c := 8) (j := 1) (p' := 11) h em51_8 ((congrFun xo_9 15).trans rfl) rfl rfl rfl
  have eb8 : b8 = 30 := Option.some.inj (hr_b8.symm.trans ((hO).2 28 (by decide) 1 (by decide)))
  subst eb8
  replace h := tx_iload_n (p' := 12) h em51_11 rfl rfl
  obtain ⟨hb12, h⟩ := tx_iald (len := 40) (p' := 13) h em51_12 rfl rfl
  replace hb12 : (0 : Int) ≤ e.toInt ∧ e.toInt < 40 := hb12
  replace h := tx_isub (p' := 14) h em51_13 rfl
  replace h := tx_max (p' := 17) h em51_14 ((congrFun xo_9 60).trans rfl) rfl
  obtain ⟨rfl, hμ⟩ := tx_ireturn h em51_17
  refine ⟨hμ, ?_⟩
  rw [show e.toInt.toNat = en by omega, (hT.1 en he4).1, (hT.1 en he4).2.1, pFe_c]
set_option maxRecDepth 10000 in
set_option maxHeartbeats 4000000 in
theorem ex_pick {v l : Int32} {vn ln H : Nat} {lv : Nat → Prop} {f0 rk : Nat → Int32} {G : List Nat} {μ μ' : xM} {r : Option zV} (h0 : Ex gx xq_25 [.inr (.inl (some 52)), .inl v, .inl l] μ r μ') (hP : pOK9 μ) (hv : v.toInt = (vn : Int)) (hv7 : vn < 7) (hl : l.toInt = (ln : Int)) (hl7 : ln ≤ 7) (hL : gLs 52 μ vn ln rk G) (hs : gSrt rk G) (hm : gMem H lv f0 G) (hH : H ≤ 5) (hf : ∀ h, h < H → ¬ (fun h => μ.1 53 (8 * h + ln)) h = 0 → ¬ f0 h = 0) : ∃ x : Int32, r = some (.inl x) ∧ gvR H lv (fun h => μ.1 53 (8 * h + ln)) rk x.toInt ∧ gC 52 μ μ' := by
  obtain ⟨n, h⟩ := tx_in (L := [some (.inr (.inl (some 52))), some (.inl v), some (.inl l), none, none, none, none]) h0 rfl
  have e1i : (1 : Int32).toInt = 1 := by decide
  have em1 : (-1 : Int32).toInt = -1 := by decide
  have e8i : (8 : Int32).toInt = 8 := by decide
  have e5i : (5 : Int32).toInt = 5 := by decide
  have hL0 := hL.1
  have hL5 := hL.2.1
  have hc0 : (μ.1 58 (8 * vn + ln)).toInt = (G.length : Int) := hL0
  have loop : ∀ (n k : Nat) (fi i : Int32) (ω : xM), eT xq_25 n 30 [some (.inr (.inl (some 52))), some (.inl v), some (.inl l), some (.inl (((v * (8 : Int32)) + l) * (5 : Int32))), some (.inl ((((v * (8 : Int32)) + l) * (5 : Int32)) + (μ.1 58 ((v * (8 : Int32)) + l).toInt.toNat))), some (.inl fi), some (.inl i)] [] ω r μ' → i.toInt = 5 * (8 * (vn : Int) + ln) + (k : Int) → k ≤ G.length → gC 52 μ ω → ((fi.toInt = -1 ∧ ∀ q, q < k → μ.1 53 (8 * G.getD q 0 + ln) = 0) ∨ ∃ j : Nat, fi.toInt = 5 * (8 * (vn : Int) + ln) + (j : Int) ∧ j < k ∧ ¬ μ.1 53 (8 * G.getD j 0 + ln) = 0 ∧ ∀ q, q < j → μ.1 53 (8 * G.getD q 0 + ln) = 0) → ∃ x : Int32, r = some (.inl x) ∧ gvR H lv (fun h => μ.1 53 (8 * h + ln)) rk x.toInt ∧ gC 52 μ μ' := by
    intro n
    induction n using Nat.strongRecOn with
    | ind n ih =>
    intro k fi i ω h hi hk hG hF
    have hPω := pOK9_2 hG.2 hP
    have t1 : (v * (8 : Int32)).toInt = 8 * (vn : Int) := by rw [an_mul (by rw [e8i]; omega) (by rw [e8i]; omega), e8i, hv]; omega
    have t2 : ((v * (8 : Int32)) + l).toInt = 8 * (vn : Int) + ln := by rw [an_add (by rw [t1]; omega) (by rw [t1]; omega), t1, hl]
    have t3 : (((v * (8 : Int32)) + l) * (5 : Int32)).toInt = 5 * (8 * (vn : Int) + ln) := by rw [an_mul (by rw [t2, e5i]; omega) (by rw [t2, e5i]; omega), t2, e5i]; omega
    have t4 : ((v * (8 : Int32)) + l).toInt.toNat = 8 * vn + ln := by omega
    have t5 : ((((v * (8 : Int32)) + l) * (5 : Int32)) + (μ.1 58 ((v * (8 : Int32)) + l).toInt.toNat)).toInt = 5 * (8 * (vn : Int) + ln) + (G.length : Int) := by rw [t4, an_add (by rw [t3, hc0]; omega) (by rw [t3, hc0]; omega), t3, hc0]
    replace h := tx_iload (p' := 32) h em25_30 rfl rfl
    replace h := tx_iload (p' := 34) h em25_32 rfl rfl
    rcases tx_icmp (t := 110) (p' := 37) h em25_34 (by decide) rfl with ⟨c34, h⟩ | ⟨c34, h⟩
    · replace c34 : ((((v * (8 : Int32)) + l) * (5 : Int32)) + (μ.1 58 ((v * (8 : Int32)) + l).toInt.toNat)).toInt ≤ i.toInt := c34
      replace h := tx_iload (p' := 112) h em25_110 rfl rfl
      replace h := tx_iconst (v := (-1)) (p' := 113) h em25_112 (by decide +kernel) rfl
      rcases tx_icmp (t := 120) (p' := 116) h em25_113 (by decide) rfl with ⟨c113, h⟩ | ⟨c113, h⟩
      · replace c113 : ¬ fi.toInt = (-1) := c113
        replace h := tx_aload_n (p' := 121) h em25_120 rfl rfl
        obtain ⟨b121, hk_b121, hr_b121, h⟩ := tx_getk (c := 3) (j := 9) (p' := 124) h em25_121 ((congrFun xo_4 21).trans rfl) rfl rfl rfl
        have eb121 : b121 = 56 := Option.some.inj (hr_b121.symm.trans ((hPω) 52 (by decide) 9 (by decide)))
        subst eb121
        replace h := tx_iload (p' := 126) h em25_124 rfl rfl
        obtain ⟨hb126, h⟩ := tx_iald (len := 280) (p' := 127) h em25_126 rfl rfl
        replace hb126 : (0 : Int) ≤ fi.toInt ∧ fi.toInt < 280 := hb126
        obtain ⟨rfl, hμ⟩ := tx_ireturn h em25_127
        rw [hμ]
        rcases hF with ⟨f1, f2⟩ | ⟨j, f1, f2, f3, f4⟩
        · exfalso
          omega
        · have hj : j < G.length := by omega
          have eg := (hL.2.2 j hj).1
          have ef : fi.toInt.toNat = 5 * (8 * vn + ln) + j := by omega
          refine ⟨_, rfl, ?_, hG⟩
          rw [ef, show ω.1 56 (5 * (8 * vn + ln) + j) = μ.1 56 (5 * (8 * vn + ln) + j) from hG.1 56 _ (fun q => absurd q.1 (by decide))]
          show gvR H lv _ rk (μ.1 (52 + 4) (5 * (8 * vn + ln) + j)).toInt
          rw [eg]
          exact gFirst hs hm hf hj f3 f4
      · replace c113 : ¬ ¬ fi.toInt = (-1) := c113
        replace h := tx_iconst (v := (-1)) (p' := 117) h em25_116 (by decide +kernel) rfl
        replace h := tx_goto (t := 127) h em25_117 (by decide)
        obtain ⟨rfl, hμ⟩ := tx_ireturn h em25_127
        rw [hμ]
        rcases hF with ⟨f1, f2⟩ | ⟨j, f1, f2, f3, f4⟩
        · exact ⟨-1, rfl, by
            show gvR H lv (fun h => μ.1 53 (8 * h + ln)) rk (-1 : Int32).toInt
            rw [em1]
            exact gNone hm hf (fun q hq => f2 q (by omega)), hG⟩
        · exfalso
          omega
    · replace c34 : ¬ ((((v * (8 : Int32)) + l) * (5 : Int32)) + (μ.1 58 ((v * (8 : Int32)) + l).toInt.toNat)).toInt ≤ i.toInt := c34
      have hkG : k < G.length := by omega
      have eg : (ω.1 56 i.toInt.toNat).toInt = ((G.getD k 0 : Nat) : Int) := by
        rw [show i.toInt.toNat = 5 * (8 * vn + ln) + k by omega, hG.1 56 _ (fun q => absurd q.1 (by decide))]
        exact (hL.2.2 k hkG).1
      have gH := ((hm _).mp (gd_mem hkG)).1
      have u1 : ((ω.1 56 i.toInt.toNat) * (8 : Int32)).toInt = 8 * ((G.getD k 0 : Nat) : Int) := by rw [an_mul (by rw [eg, e8i]; omega) (by rw [eg, e8i]; omega), eg, e8i]; omega
      have idx : (((ω.1 56 i.toInt.toNat) * (8 : Int32)) + l).toInt.toNat = 8 * G.getD k 0 + ln := by
        have : (((ω.1 56 i.toInt.toNat) * (8 : Int32)) + l).toInt = 8 * ((G.getD k 0 : Nat) : Int) + ln := by rw [an_add (by rw [u1]; omega) (by rw [u1]; omega), u1, hl]
        omega
      replace h := tx_aload_n (p' := 38) h em25_37 rfl rfl
      obtain ⟨b38, hk_b38, hr_b38, h⟩ := tx_getk (c := 3) (j := 2) (p' := 41) h em25_38 ((congrFun xo_4 9).trans rfl) rfl rfl rfl
      have eb38 : b38 = 53 := Option.some.inj (hr_b38.symm.trans ((hPω) 52 (by decide) 2 (by decide)))
      subst eb38
      replace h := tx_aload_n (p' := 42) h em25_41 rfl rfl
      obtain ⟨b42, hk_b42, hr_b42, h⟩ := tx_getk (c := 3) (j := 9) (p' := 45) h em25_42 ((congrFun xo_4 21).trans rfl) rfl rfl rfl
      have eb42 : b42 = 56 := Option.some.inj (hr_b42.symm.trans ((hPω) 52 (by decide) 9 (by decide)))
      subst eb42
      replace h := tx_iload (p' := 47) h em25_45 rfl rfl
      obtain ⟨hb47, h⟩ := tx_iald (len := 280) (p' := 48) h em25_47 rfl rfl
      replace hb47 : (0 : Int) ≤ i.toInt ∧ i.toInt < 280 := hb47
      replace h := tx_bipush (v := 8) (p' := 50) h em25_48 (by decide +kernel) rfl
      replace h := tx_imul (p' := 51) h em25_50 rfl
      replace h := tx_iload_n (p' := 52) h em25_51 rfl rfl
      replace h := tx_iadd (p' := 53) h em25_52 rfl
      obtain ⟨hb53, h⟩ := tx_iald (len := 40) (p' := 54) h em25_53 rfl rfl
      replace hb53 : (0 : Int) ≤ (((ω.1 56 i.toInt.toNat) * (8 : Int32)) + l).toInt ∧ (((ω.1 56 i.toInt.toNat) * (8 : Int32)) + l).toInt < 40 := hb53
      rcases tx_if (t := 60) (p' := 57) h em25_54 (by decide) rfl with ⟨c54, h⟩ | ⟨c54, h⟩
      · replace c54 : ¬ (ω.1 53 (((ω.1 56 i.toInt.toNat) * (8 : Int32)) + l).toInt.toNat).toInt = 0 := c54
        replace h := tx_iload (p' := 62) h em25_60 rfl rfl
        replace h := tx_iconst (v := (-1)) (p' := 63) h em25_62 (by decide +kernel) rfl
        rcases tx_icmp (t := 100) (p' := 66) h em25_63 (by decide) rfl with ⟨c63, h⟩ | ⟨c63, h⟩
        · replace c63 : fi.toInt = (-1) := c63
          replace h := tx_iload (p' := 102) h em25_100 rfl rfl
          replace h := tx_istore (p' := 104) h em25_102 rfl
          replace h : eT xq_25 _ 104 [some (.inr (.inl (some 52))), some (.inl v), some (.inl l), some (.inl (((v * (8 : Int32)) + l) * (5 : Int32))), some (.inl ((((v * (8 : Int32)) + l) * (5 : Int32)) + (μ.1 58 ((v * (8 : Int32)) + l).toInt.toNat))), some (.inl i), some (.inl i)] [] ω r μ' := h
          replace h := tx_iinc (v := 1) (p' := 107) h em25_104 (by decide +kernel) rfl rfl
          replace h : eT xq_25 _ 107 [some (.inr (.inl (some 52))), some (.inl v), some (.inl l), some (.inl (((v * (8 : Int32)) + l) * (5 : Int32))), some (.inl ((((v * (8 : Int32)) + l) * (5 : Int32)) + (μ.1 58 ((v * (8 : Int32)) + l).toInt.toNat))), some (.inl i), some (.inl (i + 1))] [] ω r μ' := h
          obtain ⟨n2, hn2, h⟩ := tx_gotoS (t := 30) h em25_107 (by decide)
          have ei : (i + 1).toInt = 5 * (8 * (vn : Int) + ln) + ((k + 1 : Nat) : Int) := by rw [an_add (by rw [e1i]; omega) (by rw [e1i]; omega), e1i]; omega
          rw [idx] at c54
          have hz : ¬ μ.1 53 (8 * G.getD k 0 + ln) = 0 := fun q => by
            rw [← hG.1 53 _ (fun q => absurd q.1 (by decide))] at q
            rw [q] at c54
            exact c54 (by decide)
          refine ih n2 hn2 (k + 1) _ _ _ h ei (by omega) hG (Or.inr ⟨k, hi, by omega, hz, ?_⟩)
          rcases hF with ⟨f1, f2⟩ | ⟨j, f1, f2, f3, f4⟩
          · exact f2
          · exfalso
            omega
        · replace c63 : ¬ fi.toInt = (-1) := c63
          replace h := tx_aload_n (p' := 67) h em25_66 rfl rfl
          replace h := tx_dup (p' := 68) h em25_67 rfl
          replace h := tx_getf (c := 3) (j := 5) (p' := 71) h em25_68 ((congrFun xo_4 84).trans rfl) rfl rfl (by decide) rfl
          replace h := tx_aload_n (p' := 72) h em25_71 rfl rfl
          obtain ⟨b72, hk_b72, hr_b72, h⟩ := tx_getk (c := 3) (j := 10) (p' := 75) h em25_72 ((congrFun xo_4 24).trans rfl) rfl rfl rfl
          have eb72 : b72 = 57 := Option.some.inj (hr_b72.symm.trans ((hPω) 52 (by decide) 10 (by decide)))
          subst eb72
          replace h := tx_iload (p' := 77) h em25_75 rfl rfl
          obtain ⟨hb77, h⟩ := tx_iald (len := 280) (p' := 78) h em25_77 rfl rfl
          replace hb77 : (0 : Int) ≤ i.toInt ∧ i.toInt < 280 := hb77
          replace h := tx_aload_n (p' := 79) h em25_78 rfl rfl
          obtain ⟨b79, hk_b79, hr_b79, h⟩ := tx_getk (c := 3) (j := 10) (p' := 82) h em25_79 ((congrFun xo_4 24).trans rfl) rfl rfl rfl
          have eb79 : b79 = 57 := Option.some.inj (hr_b79.symm.trans ((hPω) 52 (by decide) 10 (by decide)))
          subst eb79
          replace h := tx_iload (p' := 84) h em25_82 rfl rfl
          obtain ⟨hb84, h⟩ := tx_iald (len := 280) (p' := 85) h em25_84 rfl rfl
          replace hb84 : (0 : Int) ≤ fi.toInt ∧ fi.toInt < 280 := hb84
          rcases tx_icmp (t := 92) (p' := 88) h em25_85 (by decide) rfl with ⟨c85, h⟩ | ⟨c85, h⟩
          · replace c85 : ¬ (ω.1 57 i.toInt.toNat).toInt = (ω.1 57 fi.toInt.toNat).toInt := c85
            replace h := tx_iconst (v := 0) (p' := 93) h em25_92 (by decide +kernel) rfl
            replace h := tx_iadd (p' := 94) h em25_93 rfl
            replace h := tx_putf (a := 52) (c := 3) (j := 5) (p' := 97) h em25_94 ((congrFun xo_4 84).trans rfl) rfl
            replace h := tx_goto (t := 110) h em25_97 (by decide)
            replace h := tx_iload (p' := 112) h em25_110 rfl rfl
            replace h := tx_iconst (v := (-1)) (p' := 113) h em25_112 (by decide +kernel) rfl
            rcases tx_icmp (t := 120) (p' := 116) h em25_113 (by decide) rfl with ⟨c113_1, h⟩ | ⟨c113_1, h⟩
            · replace c113_1 : ¬ fi.toInt = (-1) := c113_1
              replace h := tx_aload_n (p' := 121) h em25_120 rfl rfl
              obtain ⟨b121_1, hk_b121_1, hr_b121_1, h⟩ := tx_getk (c := 3) (j := 9) (p' := 124) h em25_121 ((congrFun xo_4 21).trans rfl) rfl rfl rfl
              have eb121_1 : b121_1 = 56 := Option.some.inj (hr_b121_1.symm.trans ((hPω) 52 (by decide) 9 (by decide)))
              subst eb121_1
              replace h := tx_iload (p' := 126) h em25_124 rfl rfl
              obtain ⟨hb126_1, h⟩ := tx_iald (len := 280) (p' := 127) h em25_126 rfl rfl
              replace hb126_1 : (0 : Int) ≤ fi.toInt ∧ fi.toInt < 280 := hb126_1
              replace h : eT xq_25 _ 127 [some (.inr (.inl (some 52))), some (.inl v), some (.inl l), some (.inl (((v * (8 : Int32)) + l) * (5 : Int32))), some (.inl ((((v * (8 : Int32)) + l) * (5 : Int32)) + (μ.1 58 ((v * (8 : Int32)) + l).toInt.toNat))), some (.inl fi), some (.inl i)] [.inl (ω.1 56 fi.toInt.toNat)] (xpi ω 52 5 ((ω.1 52 5) + (0 : Int32))) r μ' := h
              obtain ⟨rfl, hμ⟩ := tx_ireturn h em25_127
              rw [hμ]
              rcases hF with ⟨f1, f2⟩ | ⟨j, f1, f2, f3, f4⟩
              · exfalso
                omega
              · have hj : j < G.length := by omega
                have eg := (hL.2.2 j hj).1
                have ef : fi.toInt.toNat = 5 * (8 * vn + ln) + j := by omega
                refine ⟨_, rfl, ?_, ⟨fun k9 j9 q9 => (xpi_ne q9).trans (hG.1 k9 j9 q9), hG.2⟩⟩
                rw [ef, show ω.1 56 (5 * (8 * vn + ln) + j) = μ.1 56 (5 * (8 * vn + ln) + j) from hG.1 56 _ (fun q => absurd q.1 (by decide))]
                show gvR H lv _ rk (μ.1 (52 + 4) (5 * (8 * vn + ln) + j)).toInt
                rw [eg]
                exact gFirst hs hm hf hj f3 f4
            · replace c113_1 : ¬ ¬ fi.toInt = (-1) := c113_1
              replace h := tx_iconst (v := (-1)) (p' := 117) h em25_116 (by decide +kernel) rfl
              replace h := tx_goto (t := 127) h em25_117 (by decide)
              obtain ⟨rfl, hμ⟩ := tx_ireturn h em25_127
              rw [hμ]
              rcases hF with ⟨f1, f2⟩ | ⟨j, f1, f2, f3, f4⟩
              · exact ⟨-1, rfl, by
                  show gvR H lv (fun h => μ.1 53 (8 * h + ln)) rk (-1 : Int32).toInt
                  rw [em1]
                  exact gNone hm hf (fun q hq => f2 q (by omega)), ⟨fun k9 j9 q9 => (xpi_ne q9).trans (hG.1 k9 j9 q9), hG.2⟩⟩
              · exfalso
                omega
          · replace c85 : ¬ ¬ (ω.1 57 i.toInt.toNat).toInt = (ω.1 57 fi.toInt.toNat).toInt := c85
            replace h := tx_iconst (v := 1) (p' := 89) h em25_88 (by decide +kernel) rfl
            replace h := tx_goto (t := 93) h em25_89 (by decide)
            replace h := tx_iadd (p' := 94) h em25_93 rfl
            replace h := tx_putf (a := 52) (c := 3) (j := 5) (p' := 97) h em25_94 ((congrFun xo_4 84).trans rfl) rfl
            replace h := tx_goto (t := 110) h em25_97 (by decide)
            replace h := tx_iload (p' := 112) h em25_110 rfl rfl
            replace h := tx_iconst (v := (-1)) (p' := 113) h em25_112 (by decide +kernel) rfl
            rcases tx_icmp (t := 120) (p' := 116) h em25_113 (by decide) rfl with ⟨c113_2, h⟩ | ⟨c113_2, h⟩
            · replace c113_2 : ¬ fi.toInt = (-1) := c113_2
              replace h := tx_aload_n (p' := 121) h em25_120 rfl rfl
              obtain ⟨b121_2, hk_b121_2, hr_b121_2, h⟩ := tx_getk (c := 3) (j := 9) (p' := 124) h em25_121 ((congrFun xo_4 21).trans rfl) rfl rfl rfl
              have eb121_2 : b121_2 = 56 := Option.some.inj (hr_b121_2.symm.trans ((hPω) 52 (by decide) 9 (by decide)))
              subst eb121_2
              replace h := tx_iload (p' := 126) h em25_124 rfl rfl
              obtain ⟨hb126_2, h⟩ := tx_iald (len := 280) (p' := 127) h em25_126 rfl rfl
              replace hb126_2 : (0 : Int) ≤ fi.toInt ∧ fi.toInt < 280 := hb126_2
              replace h : eT xq_25 _ 127 [some (.inr (.inl (some 52))), some (.inl v), some (.inl l), some (.inl (((v * (8 : Int32)) + l) * (5 : Int32))), some (.inl ((((v * (8 : Int32)) + l) * (5 : Int32)) + (μ.1 58 ((v * (8 : Int32)) + l).toInt.toNat))), some (.inl fi), some (.inl i)] [.inl (ω.1 56 fi.toInt.toNat)] (xpi ω 52 5 ((ω.1 52 5) + (1 : Int32))) r μ' := h
              obtain ⟨rfl, hμ⟩ := tx_ireturn h em25_127
              rw [hμ]
              rcases hF with ⟨f1, f2⟩ | ⟨j, f1, f2, f3, f4⟩
              · exfalso
                omega
              · have hj : j < G.length := by omega
                have eg := (hL.2.2 j hj).1
                have ef : fi.toInt.toNat = 5 * (8 * vn + ln) + j := by omega
                refine ⟨_, rfl, ?_, ⟨fun k9 j9 q9 => (xpi_ne q9).trans (hG.1 k9 j9 q9), hG.2⟩⟩
                rw [ef, show ω.1 56 (5 * (8 * vn + ln) + j) = μ.1 56 (5 * (8 * vn + ln) + j) from hG.1 56 _ (fun q => absurd q.1 (by decide))]
                show gvR H lv _ rk (μ.1 (52 + 4) (5 * (8 * vn + ln) + j)).toInt
                rw [eg]
                exact gFirst hs hm hf hj f3 f4
            · replace c113_2 : ¬ ¬ fi.toInt = (-1) := c113_2
              replace h := tx_iconst (v := (-1)) (p' := 117) h em25_116 (by decide +kernel) rfl
              replace h := tx_goto (t := 127) h em25_117 (by decide)
              obtain ⟨rfl, hμ⟩ := tx_ireturn h em25_127
              rw [hμ]
              rcases hF with ⟨f1, f2⟩ | ⟨j, f1, f2, f3, f4⟩
              · exact ⟨-1, rfl, by
                  show gvR H lv (fun h => μ.1 53 (8 * h + ln)) rk (-1 : Int32).toInt
                  rw [em1]
                  exact gNone hm hf (fun q hq => f2 q (by omega)), ⟨fun k9 j9 q9 => (xpi_ne q9).trans (hG.1 k9 j9 q9), hG.2⟩⟩
              · exfalso
                omega
      · replace c54 : ¬ ¬ (ω.1 53 (((ω.1 56 i.toInt.toNat) * (8 : Int32)) + l).toInt.toNat).toInt = 0 := c54
        replace h := tx_goto (t := 104) h em25_57 (by decide)
        replace h := tx_iinc (v := 1) (p' := 107) h em25_104 (by decide +kernel) rfl rfl
        replace h : eT xq_25 _ 107 [some (.inr (.inl (some 52))), some (.inl v), some (.inl l), some (.inl (((v * (8 : Int32)) + l) * (5 : Int32))), some (.inl ((((v * (8 : Int32)) + l) * (5 : Int32)) + (μ.1 58 ((v * (8 : Int32)) + l).toInt.toNat))), some (.inl fi), some (.inl (i + 1))] [] ω r μ' := h
        obtain ⟨n2, hn2, h⟩ := tx_gotoS (t := 30) h em25_107 (by decide)
        have ei : (i + 1).toInt = 5 * (8 * (vn : Int) + ln) + ((k + 1 : Nat) : Int) := by rw [an_add (by rw [e1i]; omega) (by rw [e1i]; omega), e1i]; omega
        rw [idx] at c54
        have hz : μ.1 53 (8 * G.getD k 0 + ln) = 0 := by rw [← hG.1 53 _ (fun q => absurd q.1 (by decide))]; exact Int32.toInt_inj.mp ((Decidable.not_not.mp c54).trans (by decide))
        refine ih n2 hn2 (k + 1) _ _ _ h ei (by omega) hG ?_
        rcases hF with ⟨f1, f2⟩ | ⟨j, f1, f2, f3, f4⟩
        · exact Or.inl ⟨f1, fun q hq => by
            by_cases z : q = k
            · rw [z]; exact hz
            · exact f2 q (by omega)⟩
        · exact Or.inr ⟨j, f1, by omega, f3, f4⟩
  have t1 : (v * (8 : Int32)).toInt = 8 * (vn : Int) := by rw [an_mul (by rw [e8i]; omega) (by rw [e8i]; omega), e8i, hv]; omega
  have t2 : ((v * (8 : Int32)) + l).toInt = 8 * (vn : Int) + ln := by rw [an_add (by rw [t1]; omega) (by rw [t1]; omega), t1, hl]
  have t3 : (((v * (8 : Int32)) + l) * (5 : Int32)).toInt = 5 * (8 * (vn : Int) + ln) := by rw [an_mul (by rw [t2, e5i]; omega) (by rw [t2, e5i]; omega), t2, e5i]; omega
  have t4 : ((v * (8 : Int32)) + l).toInt.toNat = 8 * vn + ln := by omega
  have t5 : ((((v * (8 : Int32)) + l) * (5 : Int32)) + (μ.1 58 ((v * (8 : Int32)) + l).toInt.toNat)).toInt = 5 * (8 * (vn : Int) + ln) + (G.length : Int) := by rw [t4, an_add (by rw [t3, hc0]; omega) (by rw [t3, hc0]; omega), t3, hc0]
  replace h := tx_iload_n (p' := 1) h em25_0 rfl rfl
  replace h := tx_bipush (v := 8) (p' := 3) h em25_1 (by decide +kernel) rfl
  replace h := tx_imul (p' := 4) h em25_3 rfl
  replace h := tx_iload_n (p' := 5) h em25_4 rfl rfl
  replace h := tx_iadd (p' := 6) h em25_5 rfl
  replace h := tx_iconst (v := 5) (p' := 7) h em25_6 (by decide +kernel) rfl
  replace h := tx_imul (p' := 8) h em25_7 rfl
  replace h := tx_istore_n (p' := 9) h em25_8 rfl
  replace h : eT xq_25 _ 9 [some (.inr (.inl (some 52))), some (.inl v), some (.inl l), some (.inl (((v * (8 : Int32)) + l) * (5 : Int32))), none, none, none] [] μ r μ' := h
  replace h := tx_iload_n (p' := 10) h em25_9 rfl rfl
  replace h := tx_aload_n (p' := 11) h em25_10 rfl rfl
  obtain ⟨b11, hk_b11, hr_b11, h⟩ := tx_getk (c := 3) (j := 11) (p' := 14) h em25_11 ((congrFun xo_4 27).trans rfl) rfl rfl rfl
  have eb11 : b11 = 58 := Option.some.inj (hr_b11.symm.trans ((hP) 52 (by decide) 11 (by decide)))
  subst eb11
  replace h := tx_iload_n (p' := 15) h em25_14 rfl rfl
  replace h := tx_bipush (v := 8) (p' := 17) h em25_15 (by decide +kernel) rfl
  replace h := tx_imul (p' := 18) h em25_17 rfl
  replace h := tx_iload_n (p' := 19) h em25_18 rfl rfl
  replace h := tx_iadd (p' := 20) h em25_19 rfl
  obtain ⟨hb20, h⟩ := tx_iald (len := 56) (p' := 21) h em25_20 rfl rfl
  replace hb20 : (0 : Int) ≤ ((v * (8 : Int32)) + l).toInt ∧ ((v * (8 : Int32)) + l).toInt < 56 := hb20
  replace h := tx_iadd (p' := 22) h em25_21 rfl
  replace h := tx_istore (p' := 24) h em25_22 rfl
  replace h : eT xq_25 _ 24 [some (.inr (.inl (some 52))), some (.inl v), some (.inl l), some (.inl (((v * (8 : Int32)) + l) * (5 : Int32))), some (.inl ((((v * (8 : Int32)) + l) * (5 : Int32)) + (μ.1 58 ((v * (8 : Int32)) + l).toInt.toNat))), none, none] [] μ r μ' := h
  replace h := tx_iconst (v := (-1)) (p' := 25) h em25_24 (by decide +kernel) rfl
  replace h := tx_istore (p' := 27) h em25_25 rfl
  replace h : eT xq_25 _ 27 [some (.inr (.inl (some 52))), some (.inl v), some (.inl l), some (.inl (((v * (8 : Int32)) + l) * (5 : Int32))), some (.inl ((((v * (8 : Int32)) + l) * (5 : Int32)) + (μ.1 58 ((v * (8 : Int32)) + l).toInt.toNat))), some (.inl (-1 : Int32)), none] [] μ r μ' := h
  replace h := tx_iload_n (p' := 28) h em25_27 rfl rfl
  replace h := tx_istore (p' := 30) h em25_28 rfl
  replace h : eT xq_25 _ 30 [some (.inr (.inl (some 52))), some (.inl v), some (.inl l), some (.inl (((v * (8 : Int32)) + l) * (5 : Int32))), some (.inl ((((v * (8 : Int32)) + l) * (5 : Int32)) + (μ.1 58 ((v * (8 : Int32)) + l).toInt.toNat))), some (.inl (-1 : Int32)), some (.inl (((v * (8 : Int32)) + l) * (5 : Int32)))] [] μ r μ' := h
  exact loop _ 0 _ _ _ h (by rw [t3]; omega) (Nat.zero_le _) ⟨fun _ _ _ => rfl, rfl⟩ (Or.inl ⟨em1, fun q hq => absurd hq (Nat.not_lt_zero q)⟩)
