/-! ===== the class's planner: prepared ===== -/
def bt9 (b : Int32) (v : Nat) : Prop := ¬ (((b >>> (Int32.ofNat v &&& 31)) &&& (1 : Int32)) : Int32).toInt = 0
theorem bt9_1 {v : Nat} (h : v < 7) : bt9 ((1 : Int32) <<< (Int32.ofNat v &&& 31)) v := by
  have : ∀ v, v < 7 → ¬ (((((1 : Int32) <<< (Int32.ofNat v &&& 31)) >>> (Int32.ofNat v &&& 31)) &&& (1 : Int32)) : Int32).toInt = 0 := by decide
  exact this v h
/-- what a planner's preparing may change -/
def gQ (μ μ' : xM) : Prop := (∀ a j, a ≠ 49 → a ≠ 50 → a ≠ 53 → a ≠ 55 → a ≠ 56 → a ≠ 57 → a ≠ 58 → ¬ (a = 52 ∧ 6 ≤ j ∧ j ≤ 8) → μ'.1 a j = μ.1 a j) ∧ μ'.2 = μ.2
theorem gQ_rf {μ : xM} : gQ μ μ := ⟨fun _ _ _ _ _ _ _ _ _ _ => rfl, rfl⟩
theorem gQ_tr {μ ν ω : xM} (h1 : gQ μ ν) (h2 : gQ ν ω) : gQ μ ω := ⟨fun k j a b c d e f g i => (h2.1 k j a b c d e f g i).trans (h1.1 k j a b c d e f g i), h2.2.trans h1.2⟩
theorem gQ_J {μ ν : xM} (h : gJ μ ν) : gQ μ ν := ⟨fun k j a b _ _ _ _ _ _ => h.1 k j a b, h.2⟩
theorem gQ_O {v l : Nat} {μ ν : xM} (h : gO v l μ ν) : gQ μ ν := ⟨fun k j a b _ _ e f g _ => h.1 k j a b (fun q => q.1.elim e f) (fun q => g q.1), h.2⟩
theorem gQ_i {μ ν : xM} {k j : Nat} {v : Int32} (h : gQ μ ν) (hk : k = 53 ∨ k = 55 ∨ (k = 52 ∧ 6 ≤ j ∧ j ≤ 8)) : gQ μ (xpi ν k j v) := ⟨fun c i a b d e f g w z => (xpi_ne (fun q => by omega)).trans (h.1 c i a b d e f g w z), h.2⟩
theorem cS9_Q {S : kSt} {μ ν : xM} (h : cS9 S μ) (e : gQ μ ν) : cS9 S ν := cS9_cg h (fun k j a b => e.1 k j (by omega) (by omega) (by omega) (by omega) (by omega) (by omega) (by omega) (by omega))
theorem twA_Q {c : Nat} {ρ : Nat → Int32} {μ ν : xM} (h : twA c ρ μ) (e : gQ μ ν) (hc : c + 4 < 49 ∨ 58 < c) : twA c ρ ν := by
  obtain ⟨a, b, d1, d2, d3⟩ := h
  have g : ∀ k j, (k < 49 ∨ 58 < k) → ν.1 k j = μ.1 k j := fun k j q => e.1 k j (by omega) (by omega) (by omega) (by omega) (by omega) (by omega) (by omega) (by omega)
  refine ⟨fun j hj => ?_, fun j hj => ?_, ?_, ?_, ?_⟩
  · rw [g (c + 1) j (by omega), g (c + 2) j (by omega), g (c + 3) j (by omega)]; exact a j hj
  · rw [g (c + 4) j (by omega)]; exact b j hj
  · rw [g c 7 (by omega)]; exact d1
  · rw [g c 8 (by omega)]; exact d2
  · rw [g c 9 (by omega)]; exact d3
theorem gMem_f {H : Nat} {lv : Nat → Prop} {f g : Nat → Int32} {G : List Nat} (h : gMem H lv f G) (e : ∀ h, h < H → f h = g h) : gMem H lv g G := fun x => by
  rw [h x]
  exact ⟨fun ⟨a, b, c⟩ => ⟨a, by rw [← e x a]; exact b, c⟩, fun ⟨a, b, c⟩ => ⟨a, by rw [e x a]; exact b, c⟩⟩
theorem gOk_o {S : kSt} {ρ f0 : Nat → Int32} {μ ν : xM} {v l v' l' : Nat} (h : gOk S ρ f0 μ v l) (e : gO v' l' μ ν) (hl : l ≤ 7) (hl' : l' ≤ 7) (hn : ¬ (v = v' ∧ l = l')) : gOk S ρ f0 ν v l := by
  obtain ⟨G, ⟨a1, a2, a3⟩, b, c⟩ := h
  refine ⟨G, ⟨?_, a2, fun i hi => ?_⟩, b, c⟩
  · rw [e.1 (52 + 6) _ (by decide) (by decide) (fun q => by omega) (fun q => by omega)]; exact a1
  · rw [e.1 (52 + 4) _ (by decide) (by decide) (fun q => by omega) (fun q => by omega), e.1 (52 + 5) _ (by decide) (by decide) (fun q => by omega) (fun q => by omega)]; exact a3 i hi
theorem kCt_p {L : List Int} {k : Nat} {x : Int} (hk : k < L.length) (e : L.getD k 0 = x) : 0 < kCt L x := by
  have hm : x ∈ L := by
    rw [List.getD_eq_getElem?_getD, List.getElem?_eq_getElem hk] at e
    have e : L[k] = x := e
    rw [← e]
    exact List.getElem_mem hk
  have h9 : 0 < L.countP (fun y => y == x) := List.countP_pos_iff.mpr ⟨x, hm, by simp⟩
  have h8 : kCt L x = ((L.countP (fun y => y == x) : Nat) : Int) := rfl
  omega
/-- prepared: verses below vn, of vn its letters below j -/
def gPr (S : kSt) (ρ : Nat → Int32) (b : Int32) (vn j : Nat) (ω : xM) : Prop := ∀ v l, (v < vn ∨ (v = vn ∧ l < j)) → v < S.2.1.length → bt9 b v → l ≤ 7 → (∃ k, k < (kV S v).1.length ∧ wl S v k = l) → gOk S ρ (pFe ρ) ω v l
def gPy (S : kSt) (ρ : Nat → Int32) (b : Int32) (vn : Nat) (ω : xM) : Prop := ∀ v, v < vn → v < S.2.1.length → bt9 b v → ω.1 55 v = pPy S (ρ 386) v
theorem gPr_e {S : kSt} {ρ : Nat → Int32} {b : Int32} {vn j : Nat} {ω ν : xM} (h : gPr S ρ b vn j ω) (e : ∀ k j, 56 ≤ k → k ≤ 58 → ν.1 k j = ω.1 k j) : gPr S ρ b vn j ν := fun v l a b c d f => gOk_e (h v l a b c d f) e
abbrev xq_26 : xP := (⟨"CapitalCase$Planner", "prepare", "(LCapitalCase$Town;I)V"⟩, prog_5_method_2_code, 5, none)
abbrev xq_78 : xP := (⟨"CapitalCase", "couldBeSet", "(I)Z"⟩, prog_1_method_18_code, 2, (some .boolean))
set_option maxRecDepth 10000 in
set_option maxHeartbeats 4000000 in
theorem ex_prepare {b : Int32} {S : kSt} {ρ : Nat → Int32} {μ μ' : xM} {r : Option zV} (h0 : Ex gx xq_26 [.inr (.inl (some 52)), .inr (.inl (some 28)), .inl b] μ r μ') (hO : hOK μ) (hP : pOK9 μ) (hS : cS9 S μ) (hT : twA 28 ρ μ) : r = none ∧ gQ μ μ' ∧ (∀ c, c < 40 → μ'.1 53 c = pFe ρ c) ∧ gPr S ρ b S.2.1.length 0 μ' ∧ gPy S ρ b S.2.1.length μ' ∧ μ'.1 52 6 = 0 ∧ μ'.1 52 7 = 0 := by
  obtain ⟨n, h⟩ := tx_in (L := [some (.inr (.inl (some 52))), some (.inr (.inl (some 28))), some (.inl b), none, none]) h0 rfl
  have e1i : (1 : Int32).toInt = 1 := by decide
  have e8i : (8 : Int32).toInt = 8 := by decide
  have hH5 := hS.1.1
  have hV7 := hS.1.2.1
  have main : ∀ n : Nat, (∀ (k : Nat) (i : Int32) (ω : xM) {o4 : Option zV}, eT xq_26 n 42 [some (.inr (.inl (some 52))), some (.inr (.inl (some 28))), some (.inl b), some (.inl i), o4] [] ω r μ' → i.toInt = (k : Int) → k ≤ S.2.1.length → gQ μ ω → (∀ c, c < 40 → ω.1 53 c = pFe ρ c) → gPr S ρ b k 0 ω → gPy S ρ b k ω → ω.1 52 6 = 0 → ω.1 52 7 = 0 → r = none ∧ gQ μ μ' ∧ (∀ c, c < 40 → μ'.1 53 c = pFe ρ c) ∧ gPr S ρ b S.2.1.length 0 μ' ∧ gPy S ρ b S.2.1.length μ' ∧ μ'.1 52 6 = 0 ∧ μ'.1 52 7 = 0) ∧ (∀ (k j : Nat) (i lt : Int32) (ω : xM), eT xq_26 n 85 [some (.inr (.inl (some 52))), some (.inr (.inl (some 28))), some (.inl b), some (.inl i), some (.inl lt)] [] ω r μ' → i.toInt = (k : Int) → k < S.2.1.length → lt.toInt = (j : Int) → j ≤ 8 → gQ μ ω → (∀ c, c < 40 → ω.1 53 c = pFe ρ c) → gPr S ρ b k j ω → gPy S ρ b (k + 1) ω → ω.1 52 6 = 0 → ω.1 52 7 = 0 → r = none ∧ gQ μ μ' ∧ (∀ c, c < 40 → μ'.1 53 c = pFe ρ c) ∧ gPr S ρ b S.2.1.length 0 μ' ∧ gPy S ρ b S.2.1.length μ' ∧ μ'.1 52 6 = 0 ∧ μ'.1 52 7 = 0) := by
    intro n
    induction n using Nat.strongRecOn with
    | ind n ih =>
    have h85 : ∀ (k j : Nat) (i lt : Int32) (ω : xM), eT xq_26 n 85 [some (.inr (.inl (some 52))), some (.inr (.inl (some 28))), some (.inl b), some (.inl i), some (.inl lt)] [] ω r μ' → i.toInt = (k : Int) → k < S.2.1.length → lt.toInt = (j : Int) → j ≤ 8 → gQ μ ω → (∀ c, c < 40 → ω.1 53 c = pFe ρ c) → gPr S ρ b k j ω → gPy S ρ b (k + 1) ω → ω.1 52 6 = 0 → ω.1 52 7 = 0 → r = none ∧ gQ μ μ' ∧ (∀ c, c < 40 → μ'.1 53 c = pFe ρ c) ∧ gPr S ρ b S.2.1.length 0 μ' ∧ gPy S ρ b S.2.1.length μ' ∧ μ'.1 52 6 = 0 ∧ μ'.1 52 7 = 0 := by
      intro k j i lt ω h hi hk hlt hj hG hF hD hY h6 h7
      have hOω := hOK_2 hG.2 hO
      have hPω := pOK9_2 hG.2 hP
      have hSω := cS9_Q hS hG
      have hTω := twA_Q hT hG (by decide)
      have u1 : (i * (8 : Int32)).toInt = 8 * (k : Int) := by rw [an_mul (by rw [e8i]; omega) (by rw [e8i]; omega), e8i, hi]; omega
      have idx : ((i * (8 : Int32)) + lt).toInt.toNat = 8 * k + j := by
        have : ((i * (8 : Int32)) + lt).toInt = 8 * (k : Int) + j := by rw [an_add (by rw [u1]; omega) (by rw [u1]; omega), u1, hlt]
        omega
      replace h := tx_iload (p' := 87) h em26_85 rfl rfl
      replace h := tx_bipush (v := 8) (p' := 89) h em26_87 (by decide +kernel) rfl
      rcases tx_icmp (t := 124) (p' := 92) h em26_89 (by decide) rfl with ⟨c89, h⟩ | ⟨c89, h⟩
      · replace c89 : 8 ≤ lt.toInt := c89
        replace h := tx_iinc (v := 1) (p' := 127) h em26_124 (by decide +kernel) rfl rfl
        replace h : eT xq_26 _ 127 [some (.inr (.inl (some 52))), some (.inr (.inl (some 28))), some (.inl b), some (.inl (i + 1)), some (.inl lt)] [] ω r μ' := h
        obtain ⟨n2, hn2, h⟩ := tx_gotoS (t := 42) h em26_127 (by decide)
        have ei : (i + 1).toInt = ((k + 1 : Nat) : Int) := by rw [an_add (by rw [e1i]; omega) (by rw [e1i]; omega), e1i]; omega
        exact (ih n2 hn2).1 (k + 1) _ _ h ei (by omega) hG hF (fun v l q1 q2 q3 q4 q5 => hD v l (by omega) q2 q3 q4 q5) hY h6 h7
      · replace c89 : ¬ 8 ≤ lt.toInt := c89
        replace h := tx_aload_n (p' := 93) h em26_92 rfl rfl
        replace h := tx_getc (c := 3) (j := 0) (p' := 96) h em26_93 ((congrFun xo_4 30).trans rfl) rfl rfl rfl
        replace h := tx_getc (c := 6) (j := 10) (p' := 99) h em26_96 ((congrFun xo_4 66).trans rfl) rfl rfl rfl
        replace h := tx_iload_n (p' := 100) h em26_99 rfl rfl
        replace h := tx_bipush (v := 8) (p' := 102) h em26_100 (by decide +kernel) rfl
        replace h := tx_imul (p' := 103) h em26_102 rfl
        replace h := tx_iload (p' := 105) h em26_103 rfl rfl
        replace h := tx_iadd (p' := 106) h em26_105 rfl
        obtain ⟨hb106, h⟩ := tx_iald (len := 56) (p' := 107) h em26_106 rfl rfl
        replace hb106 : (0 : Int) ≤ ((i * (8 : Int32)) + lt).toInt ∧ ((i * (8 : Int32)) + lt).toInt < 56 := hb106
        rcases tx_if (t := 118) (p' := 110) h em26_107 (by decide) rfl with ⟨c107, h⟩ | ⟨c107, h⟩
        · replace c107 : (ω.1 8 ((i * (8 : Int32)) + lt).toInt.toNat).toInt ≤ 0 := c107
          replace h := tx_iinc (v := 1) (p' := 121) h em26_118 (by decide +kernel) rfl rfl
          replace h : eT xq_26 _ 121 [some (.inr (.inl (some 52))), some (.inr (.inl (some 28))), some (.inl b), some (.inl i), some (.inl (lt + 1))] [] ω r μ' := h
          obtain ⟨n2, hn2, h⟩ := tx_gotoS (t := 85) h em26_121 (by decide)
          have el : (lt + 1).toInt = ((j + 1 : Nat) : Int) := by rw [an_add (by rw [e1i]; omega) (by rw [e1i]; omega), e1i]; omega
          have hneed : (ω.1 8 (8 * k + j)).toInt = kCt (kV S k).1 j := hSω.2.2.1.2.2.2 k j (by omega) (by omega)
          rw [idx, hneed] at c107
          exact (ih n2 hn2).2 k (j + 1) _ _ _ h hi hk el (by omega) hG hF (fun v l q1 q2 q3 q4 q5 => by
            by_cases e : v = k ∧ l = j
            · obtain ⟨rfl, rfl⟩ := e
              obtain ⟨k9, w1, w2⟩ := q5
              have := kCt_p w1 (wl_b hS.1 w1).1
              rw [w2] at this
              omega
            · exact hD v l (by omega) q2 q3 q4 q5) hY h6 h7
        · replace c107 : ¬ (ω.1 8 ((i * (8 : Int32)) + lt).toInt.toNat).toInt ≤ 0 := c107
          replace h := tx_aload_n (p' := 111) h em26_110 rfl rfl
          replace h := tx_aload_n (p' := 112) h em26_111 rfl rfl
          replace h := tx_iload_n (p' := 113) h em26_112 rfl rfl
          replace h := tx_iload (p' := 115) h em26_113 rfl rfl
          obtain ⟨r115, μ115, hE115, h⟩ := tx_invV (na := 4) (mn := 24) (as := [.inr (.inl (some 52)), .inr (.inl (some 28)), .inl i, .inl lt]) (rest := []) (p' := 118) h em26_115 ((congrFun xo_4 69).trans rfl) xm_24 rfl rfl
          obtain ⟨rfl, go, G, a1, a2, a3⟩ := ex_orderGivers hE115 hOω hPω hSω hTω hi hk hlt (by omega)
          replace h : eT xq_26 _ 118 [some (.inr (.inl (some 52))), some (.inr (.inl (some 28))), some (.inl b), some (.inl i), some (.inl lt)] [] μ115 r μ' := h
          replace h := tx_iinc (v := 1) (p' := 121) h em26_118 (by decide +kernel) rfl rfl
          replace h : eT xq_26 _ 121 [some (.inr (.inl (some 52))), some (.inr (.inl (some 28))), some (.inl b), some (.inl i), some (.inl (lt + 1))] [] μ115 r μ' := h
          obtain ⟨n2, hn2, h⟩ := tx_gotoS (t := 85) h em26_121 (by decide)
          have el : (lt + 1).toInt = ((j + 1 : Nat) : Int) := by rw [an_add (by rw [e1i]; omega) (by rw [e1i]; omega), e1i]; omega
          have hneed : (ω.1 8 (8 * k + j)).toInt = kCt (kV S k).1 j := hSω.2.2.1.2.2.2 k j (by omega) (by omega)
          have e56 : ∀ a j9, a ≠ 49 → a ≠ 50 → a ≠ 56 → a ≠ 57 → a ≠ 58 → μ115.1 a j9 = ω.1 a j9 := fun a j9 p q w x y => go.1 a j9 p q (fun z => z.1.elim w x) (fun z => y z.1)
          refine (ih n2 hn2).2 k (j + 1) _ _ _ h hi hk el (by omega) (gQ_tr hG (gQ_O go)) (fun c hc => by rw [e56 53 c (by decide) (by decide) (by decide) (by decide) (by decide)]; exact hF c hc) (fun v l q1 q2 q3 q4 q5 => ?_) (fun v q1 q2 q3 => by rw [e56 55 v (by decide) (by decide) (by decide) (by decide) (by decide)]; exact hY v q1 q2 q3) (by rw [e56 52 6 (by decide) (by decide) (by decide) (by decide) (by decide)]; exact h6) (by rw [e56 52 7 (by decide) (by decide) (by decide) (by decide) (by decide)]; exact h7)
          by_cases e : v = k ∧ l = j
          · obtain ⟨rfl, rfl⟩ := e
            exact ⟨G, a1, a2, gMem_f a3 (fun q hq => hF _ (by have := hS.1.1; omega))⟩
          · exact gOk_o (hD v l (by omega) q2 q3 q4 q5) go q4 (by omega) e
    have h42 : ∀ (k : Nat) (i : Int32) (ω : xM) {o4 : Option zV}, eT xq_26 n 42 [some (.inr (.inl (some 52))), some (.inr (.inl (some 28))), some (.inl b), some (.inl i), o4] [] ω r μ' → i.toInt = (k : Int) → k ≤ S.2.1.length → gQ μ ω → (∀ c, c < 40 → ω.1 53 c = pFe ρ c) → gPr S ρ b k 0 ω → gPy S ρ b k ω → ω.1 52 6 = 0 → ω.1 52 7 = 0 → r = none ∧ gQ μ μ' ∧ (∀ c, c < 40 → μ'.1 53 c = pFe ρ c) ∧ gPr S ρ b S.2.1.length 0 μ' ∧ gPy S ρ b S.2.1.length μ' ∧ μ'.1 52 6 = 0 ∧ μ'.1 52 7 = 0 := by
      intro k i ω o4 h hi hk hG hF hD hY h6 h7
      have hOω := hOK_2 hG.2 hO
      have hPω := pOK9_2 hG.2 hP
      have hSω := cS9_Q hS hG
      have hTω := twA_Q hT hG (by decide)
      have hVV : (ω.1 2 1).toInt = (S.2.1.length : Int) := hSω.2.2.1.1.2.1
      replace h := tx_iload_n (p' := 43) h em26_42 rfl rfl
      replace h := tx_aload_n (p' := 44) h em26_43 rfl rfl
      replace h := tx_getc (c := 3) (j := 0) (p' := 47) h em26_44 ((congrFun xo_4 30).trans rfl) rfl rfl rfl
      replace h := tx_getf (c := 6) (j := 1) (p' := 50) h em26_47 ((congrFun xo_4 53).trans rfl) rfl rfl (by decide) rfl
      rcases tx_icmp (t := 130) (p' := 53) h em26_50 (by decide) rfl with ⟨c50, h⟩ | ⟨c50, h⟩
      · replace c50 : (ω.1 2 1).toInt ≤ i.toInt := c50
        obtain ⟨rfl, hμ⟩ := tx_return h em26_130
        rw [hμ]
        have ek : k = S.2.1.length := by omega
        rw [ek] at hD hY
        exact ⟨rfl, hG, hF, hD, hY, h6, h7⟩
      · replace c50 : ¬ (ω.1 2 1).toInt ≤ i.toInt := c50
        replace h := tx_iload_n (p' := 54) h em26_53 rfl rfl
        replace h := tx_iload_n (p' := 55) h em26_54 rfl rfl
        replace h := tx_ishr (p' := 56) h em26_55 rfl
        replace h := tx_iconst (v := 1) (p' := 57) h em26_56 (by decide +kernel) rfl
        replace h := tx_iand (p' := 58) h em26_57 rfl
        rcases tx_if (t := 64) (p' := 61) h em26_58 (by decide) rfl with ⟨c58, h⟩ | ⟨c58, h⟩
        · replace c58 : ¬ ((b >>> (i &&& 31)) &&& (1 : Int32)).toInt = 0 := c58
          replace h := tx_aload_n (p' := 65) h em26_64 rfl rfl
          obtain ⟨b65, hk_b65, hr_b65, h⟩ := tx_getk (c := 3) (j := 4) (p' := 68) h em26_65 ((congrFun xo_4 18).trans rfl) rfl rfl rfl
          have eb65 : b65 = 55 := Option.some.inj (hr_b65.symm.trans ((hPω) 52 (by decide) 4 (by decide)))
          subst eb65
          replace h := tx_iload_n (p' := 69) h em26_68 rfl rfl
          replace h := tx_aload_n (p' := 70) h em26_69 rfl rfl
          replace h := tx_getc (c := 3) (j := 1) (p' := 73) h em26_70 ((congrFun xo_4 34).trans rfl) rfl rfl rfl
          replace h := tx_iload_n (p' := 74) h em26_73 rfl rfl
          replace h := tx_aload_n (p' := 75) h em26_74 rfl rfl
          replace h := tx_getf (c := 8) (j := 7) (p' := 78) h em26_75 ((congrFun xo_4 58).trans rfl) rfl rfl (by decide) rfl
          obtain ⟨r78, μ78, hE78, h⟩ := tx_invV (na := 3) (mn := 6) (as := [.inr (.inl (some 48)), .inl i, .inl (ω.1 28 7)]) (rest := [.inl i, .inr (.inl (some 55))]) (p' := 81) h em26_78 ((congrFun xo_4 61).trans rfl) xm_6 rfl rfl
          obtain ⟨gj78, rfl⟩ := ex_cpays (vn := k) hE78 hSω hi (by omega)
          replace h : eT xq_26 _ 81 [some (.inr (.inl (some 52))), some (.inr (.inl (some 28))), some (.inl b), some (.inl i), o4] [.inl (pPy S (ω.1 28 7) k), .inl i, .inr (.inl (some 55))] μ78 r μ' := h
          obtain ⟨hb81, h⟩ := tx_iast (len := 7) (p' := 82) h em26_81 rfl rfl
          replace hb81 : (0 : Int) ≤ i.toInt ∧ i.toInt < 7 := hb81
          replace h := tx_iconst (v := 0) (p' := 83) h em26_82 (by decide +kernel) rfl
          replace h := tx_istore (p' := 85) h em26_83 rfl
          replace h : eT xq_26 _ 85 [some (.inr (.inl (some 52))), some (.inr (.inl (some 28))), some (.inl b), some (.inl i), some (.inl (0 : Int32))] [] (xpi μ78 55 i.toInt.toNat (pPy S (ω.1 28 7) k)) r μ' := h
          have e55 : ∀ a j, a ≠ 49 → a ≠ 50 → a ≠ 55 → (xpi μ78 55 i.toInt.toNat (pPy S (ω.1 28 7) k)).1 a j = ω.1 a j := fun a j p q w => (xpi_ne (fun z => w z.1)).trans (gj78.1 a j p q)
          refine h85 k 0 _ _ _ h hi (by omega) (by decide) (by decide) (gQ_i (gQ_tr hG (gQ_J gj78)) (Or.inr (Or.inl rfl))) (fun c hc => by rw [e55 53 c (by decide) (by decide) (by decide)]; exact hF c hc) (gPr_e hD (fun a j p q => e55 a j (by omega) (by omega) (by omega))) (fun v q1 q2 q3 => ?_) (by rw [e55 52 6 (by decide) (by decide) (by decide)]; exact h6) (by rw [e55 52 7 (by decide) (by decide) (by decide)]; exact h7)
          by_cases e : v = k
          · rw [e, show i.toInt.toNat = k by omega, xpi_at, hTω.2.2.1]
          · rw [xpi_ne (fun z => e (by omega)), gj78.1 55 v (by decide) (by decide)]
            exact hY v (by omega) q2 q3
        · replace c58 : ¬ ¬ ((b >>> (i &&& 31)) &&& (1 : Int32)).toInt = 0 := c58
          replace h := tx_goto (t := 124) h em26_61 (by decide)
          replace h := tx_iinc (v := 1) (p' := 127) h em26_124 (by decide +kernel) rfl rfl
          replace h : eT xq_26 _ 127 [some (.inr (.inl (some 52))), some (.inr (.inl (some 28))), some (.inl b), some (.inl (i + 1)), o4] [] ω r μ' := h
          obtain ⟨n2, hn2, h⟩ := tx_gotoS (t := 42) h em26_127 (by decide)
          have ei : (i + 1).toInt = ((k + 1 : Nat) : Int) := by rw [an_add (by rw [e1i]; omega) (by rw [e1i]; omega), e1i]; omega
          have hnb : ¬ bt9 b k := fun q => q (by rw [← ofN hi]; omega)
          refine (ih n2 hn2).1 (k + 1) _ _ h ei (by omega) hG hF (fun v l q1 q2 q3 q4 q5 => ?_) (fun v q1 q2 q3 => ?_) h6 h7
          · by_cases e : v = k
            · subst e; exact absurd q3 hnb
            · exact hD v l (by omega) q2 q3 q4 q5
          · by_cases e : v = k
            · subst e; exact absurd q3 hnb
            · exact hY v (by omega) q2 q3
    exact ⟨h42, h85⟩
  have loop1 : ∀ (n k : Nat) (i : Int32) (ω : xM), eT xq_26 n 17 [some (.inr (.inl (some 52))), some (.inr (.inl (some 28))), some (.inl b), some (.inl i), none] [] ω r μ' → i.toInt = (k : Int) → k ≤ 40 → gQ μ ω → (∀ c, c < k → ω.1 53 c = pFe ρ c) → ω.1 52 6 = 0 → ω.1 52 7 = 0 → r = none ∧ gQ μ μ' ∧ (∀ c, c < 40 → μ'.1 53 c = pFe ρ c) ∧ gPr S ρ b S.2.1.length 0 μ' ∧ gPy S ρ b S.2.1.length μ' ∧ μ'.1 52 6 = 0 ∧ μ'.1 52 7 = 0 := by
    intro n
    induction n using Nat.strongRecOn with
    | ind n ih =>
    intro k i ω h hi hk hG hF h6 h7
    have hOω := hOK_2 hG.2 hO
    have hPω := pOK9_2 hG.2 hP
    have hSω := cS9_Q hS hG
    have hTω := twA_Q hT hG (by decide)
    replace h := tx_iload_n (p' := 18) h em26_17 rfl rfl
    replace h := tx_bipush (v := 40) (p' := 20) h em26_18 (by decide +kernel) rfl
    rcases tx_icmp (t := 40) (p' := 23) h em26_20 (by decide) rfl with ⟨c20, h⟩ | ⟨c20, h⟩
    · replace c20 : 40 ≤ i.toInt := c20
      replace h := tx_iconst (v := 0) (p' := 41) h em26_40 (by decide +kernel) rfl
      replace h := tx_istore_n (p' := 42) h em26_41 rfl
      replace h : eT xq_26 _ 42 [some (.inr (.inl (some 52))), some (.inr (.inl (some 28))), some (.inl b), some (.inl (0 : Int32)), none] [] ω r μ' := h
      exact (main _).1 0 _ _ h (by decide) (Nat.zero_le _) hG (fun c hc => hF c (by omega)) (fun v l q _ _ _ _ => by omega) (fun v q _ _ => absurd q (Nat.not_lt_zero v)) h6 h7
    · replace c20 : ¬ 40 ≤ i.toInt := c20
      replace h := tx_aload_n (p' := 24) h em26_23 rfl rfl
      obtain ⟨b24, hk_b24, hr_b24, h⟩ := tx_getk (c := 3) (j := 2) (p' := 27) h em26_24 ((congrFun xo_4 9).trans rfl) rfl rfl rfl
      have eb24 : b24 = 53 := Option.some.inj (hr_b24.symm.trans ((hPω) 52 (by decide) 2 (by decide)))
      subst eb24
      replace h := tx_iload_n (p' := 28) h em26_27 rfl rfl
      replace h := tx_aload_n (p' := 29) h em26_28 rfl rfl
      replace h := tx_iload_n (p' := 30) h em26_29 rfl rfl
      obtain ⟨r30, μ30, hE30, h⟩ := tx_invV (na := 2) (mn := 51) (as := [.inr (.inl (some 28)), .inl i]) (rest := [.inl i, .inr (.inl (some 53))]) (p' := 33) h em26_30 ((congrFun xo_4 48).trans rfl) xm_51 rfl rfl
      obtain ⟨hmf, rfl⟩ := ex_free_28 hE30 hOω hTω hi (by omega)
      rw [hmf] at h
      replace h : eT xq_26 _ 33 [some (.inr (.inl (some 52))), some (.inr (.inl (some 28))), some (.inl b), some (.inl i), none] [.inl (pFe ρ k), .inl i, .inr (.inl (some 53))] ω r μ' := h
      obtain ⟨hb33, h⟩ := tx_iast (len := 40) (p' := 34) h em26_33 rfl rfl
      replace hb33 : (0 : Int) ≤ i.toInt ∧ i.toInt < 40 := hb33
      replace h := tx_iinc (v := 1) (p' := 37) h em26_34 (by decide +kernel) rfl rfl
      replace h : eT xq_26 _ 37 [some (.inr (.inl (some 52))), some (.inr (.inl (some 28))), some (.inl b), some (.inl (i + 1)), none] [] (xpi ω 53 i.toInt.toNat (pFe ρ k)) r μ' := h
      obtain ⟨n2, hn2, h⟩ := tx_gotoS (t := 17) h em26_37 (by decide)
      have ei : (i + 1).toInt = ((k + 1 : Nat) : Int) := by rw [an_add (by rw [e1i]; omega) (by rw [e1i]; omega), e1i]; omega
      refine ih n2 hn2 (k + 1) _ _ h ei (by omega) (gQ_i hG (Or.inl rfl)) (fun c hc => ?_) h6 h7
      by_cases e : c = k
      · rw [e, show i.toInt.toNat = k by omega, xpi_at]
      · rw [xpi_ne (fun q => e (by omega))]
        exact hF c (by omega)
  replace h := tx_aload_n (p' := 1) h em26_0 rfl rfl
  replace h := tx_iload_n (p' := 2) h em26_1 rfl rfl
  replace h := tx_putf (a := 52) (c := 3) (j := 8) (p' := 5) h em26_2 ((congrFun xo_4 38).trans rfl) rfl
  replace h := tx_aload_n (p' := 6) h em26_5 rfl rfl
  replace h := tx_iconst (v := 0) (p' := 7) h em26_6 (by decide +kernel) rfl
  replace h := tx_putf (a := 52) (c := 3) (j := 6) (p' := 10) h em26_7 ((congrFun xo_4 42).trans rfl) rfl
  replace h := tx_aload_n (p' := 11) h em26_10 rfl rfl
  replace h := tx_iconst (v := 0) (p' := 12) h em26_11 (by decide +kernel) rfl
  replace h := tx_putf (a := 52) (c := 3) (j := 7) (p' := 15) h em26_12 ((congrFun xo_4 45).trans rfl) rfl
  replace h := tx_iconst (v := 0) (p' := 16) h em26_15 (by decide +kernel) rfl
  replace h := tx_istore_n (p' := 17) h em26_16 rfl
  replace h : eT xq_26 _ 17 [some (.inr (.inl (some 52))), some (.inr (.inl (some 28))), some (.inl b), some (.inl (0 : Int32)), none] [] (xpi (xpi (xpi μ 52 8 b) 52 6 (0 : Int32)) 52 7 (0 : Int32)) r μ' := h
  exact loop1 _ 0 _ _ h (by decide) (by decide) (gQ_i (gQ_i (gQ_i gQ_rf (by decide)) (by decide)) (by decide)) (fun c hc => absurd hc (Nat.not_lt_zero c)) rfl rfl
/-- what set's look ahead may change -/
def gW9 (v : Nat) (μ μ' : xM) : Prop := (∀ a j, a ≠ 49 → a ≠ 50 → a ≠ 53 → a ≠ 55 → a ≠ 56 → a ≠ 57 → a ≠ 58 → ¬ (a = 52 ∧ 5 ≤ j ∧ j ≤ 8) → ¬ (a = 54 ∧ 8 * v ≤ j ∧ j < 8 * v + 8) → μ'.1 a j = μ.1 a j) ∧ μ'.2 = μ.2
theorem gW9_o {v : Nat} {μ ν ω : xM} (h1 : gQ μ ν) (h2 : gK v ν ω) : gW9 v μ ω := ⟨fun k j a b c d e f g i m => (h2.1 k j c m (fun q => by omega)).trans (h1.1 k j a b c d e f g (fun q => by omega)), h2.2.trans h1.2⟩
set_option maxRecDepth 10000 in
set_option maxHeartbeats 4000000 in
theorem ex_couldBeSet {v : Int32} {vn : Nat} {S : kSt} {ρ : Nat → Int32} {μ μ' : xM} {r : Option zV} (h0 : Ex gx xq_78 [.inr (.inl (some 0)), .inl v] μ r μ') (hO : hOK μ) (hP : pOK9 μ) (hS : cS9 S μ) (hT : twA 28 ρ μ) (hv : v.toInt = (vn : Int)) (hvn : vn < S.2.1.length) : gW9 vn μ μ' ∧ ((r = some (.inl 1) ∧ ∃ ρ', pSt S vn (kV S vn).1.length (pNo vn ρ) = some ρ' ∧ (∀ i, i < (kV S vn).1.length → μ'.1 54 (8 * vn + i) = ρ' (330 + 8 * vn + i))) ∨ (r = some (.inl 0) ∧ pSt S vn (kV S vn).1.length (pNo vn ρ) = none)) := by
  obtain ⟨n, h⟩ := tx_in (L := [some (.inr (.inl (some 0))), some (.inl v)]) h0 rfl
  have hV7 := hS.1.2.1
  have bv : v = Int32.ofNat vn := ofN hv
  replace h := tx_aload_n (p' := 1) h em78_0 rfl rfl
  replace h := tx_getc (c := 11) (j := 4) (p' := 4) h em78_1 ((congrFun xo_0 89).trans rfl) rfl rfl rfl
  replace h := tx_aload_n (p' := 5) h em78_4 rfl rfl
  replace h := tx_getc (c := 11) (j := 1) (p' := 8) h em78_5 ((congrFun xo_0 39).trans rfl) rfl rfl rfl
  replace h := tx_iconst (v := 1) (p' := 9) h em78_8 (by decide +kernel) rfl
  replace h := tx_iload_n (p' := 10) h em78_9 rfl rfl
  replace h := tx_ishl (p' := 11) h em78_10 rfl
  obtain ⟨r11, μ11, hE11, h⟩ := tx_invV (na := 3) (mn := 26) (as := [.inr (.inl (some 52)), .inr (.inl (some 28)), .inl ((1 : Int32) <<< (v &&& 31))]) (rest := []) (p' := 14) h em78_11 ((congrFun xo_0 231).trans rfl) xm_26 rfl rfl
  rw [bv] at hE11
  obtain ⟨rfl, q1, q2, q3, q4, -, -⟩ := ex_prepare hE11 hO hP hS hT
  replace h : eT xq_78 _ 14 [some (.inr (.inl (some 0))), some (.inl v)] [] μ11 r μ' := h
  replace h := tx_aload_n (p' := 15) h em78_14 rfl rfl
  replace h := tx_getc (c := 11) (j := 4) (p' := 18) h em78_15 ((congrFun xo_0 89).trans rfl) rfl rfl rfl
  replace h := tx_iload_n (p' := 19) h em78_18 rfl rfl
  obtain ⟨r19, μ19, hE19, h⟩ := tx_invV (na := 2) (mn := 30) (as := [.inr (.inl (some 52)), .inl v]) (rest := []) (p' := 22) h em78_19 ((congrFun xo_0 235).trans rfl) xm_30 rfl rfl
  rcases ex_take hE19 (pOK9_2 q1.2 hP) (cS9_Q hS q1) hv hvn (fun l hl hx => q3 vn l (Or.inl hvn) hvn (bt9_1 (by omega)) hl hx) (fun c _ z => z) q2 with ⟨rfl, k1, ρ9, k2, -, k3⟩ | ⟨rfl, k1, k2⟩
  · replace h : eT xq_78 _ 22 [some (.inr (.inl (some 0))), some (.inl v)] [.inl (1 : Int32)] μ19 r μ' := h
    obtain ⟨rfl, hμ⟩ := tx_ireturn h em78_22
    rw [hμ]
    exact ⟨gW9_o q1 k1, Or.inl ⟨rfl, ρ9, k2, k3⟩⟩
  · replace h : eT xq_78 _ 22 [some (.inr (.inl (some 0))), some (.inl v)] [.inl (0 : Int32)] μ19 r μ' := h
    obtain ⟨rfl, hμ⟩ := tx_ireturn h em78_22
    rw [hμ]
    exact ⟨gW9_o q1 k1, Or.inr ⟨rfl, k2⟩⟩
