/-! ===== the class's planner: who gives, in order ===== -/
def insA : List Nat → Nat → Nat → List Nat
  | G, 0, h => h :: G
  | [], _ + 1, h => [h]
  | x :: G, p + 1, h => x :: insA G p h
theorem insA_len {h : Nat} : ∀ (G : List Nat) (p : Nat), p ≤ G.length → (insA G p h).length = G.length + 1
  | G, 0, _ => by cases G <;> rfl
  | [], p + 1, q => absurd q (Nat.not_succ_le_zero p)
  | x :: G, p + 1, q => by
    show (insA G p h).length + 1 = G.length + 1 + 1
    rw [insA_len G p (by rw [List.length_cons] at q; omega)]
theorem insA_gd {h : Nat} : ∀ (G : List Nat) (p i : Nat), p ≤ G.length → (insA G p h).getD i 0 = if i < p then G.getD i 0 else if i = p then h else G.getD (i - 1) 0
  | G, 0, i, _ => by
    have e : insA G 0 h = h :: G := by cases G <;> rfl
    rw [e, if_neg (Nat.not_lt_zero i)]
    cases i with
    | zero => rfl
    | succ i => rw [if_neg (Nat.succ_ne_zero i)]; rfl
  | [], p + 1, i, q => absurd q (Nat.not_succ_le_zero p)
  | x :: G, p + 1, i, q => by
    rw [List.length_cons] at q
    show (x :: insA G p h).getD i 0 = _
    cases i with
    | zero => rw [if_pos (Nat.succ_pos p)]; rfl
    | succ i =>
      show (insA G p h).getD i 0 = _
      rw [insA_gd G p i (by omega)]
      by_cases c : i < p
      · rw [if_pos c, if_pos (by omega)]; rfl
      · rw [if_neg c, if_neg (show ¬ i + 1 < p + 1 by omega)]
        by_cases d : i = p
        · rw [if_pos d, if_pos (show i + 1 = p + 1 by omega)]
        · rw [if_neg d, if_neg (show ¬ i + 1 = p + 1 by omega)]
          obtain ⟨k, hk⟩ : ∃ k, i = k + 1 := ⟨i - 1, by omega⟩
          subst hk
          rfl
theorem insA_mem {h x : Nat} : ∀ (G : List Nat) (p : Nat), x ∈ insA G p h ↔ x = h ∨ x ∈ G
  | G, 0 => by
    have e : insA G 0 h = h :: G := by cases G <;> rfl
    rw [e, List.mem_cons]
  | [], p + 1 => by
    show x ∈ [h] ↔ _
    rw [List.mem_singleton]
    exact ⟨Or.inl, fun q => q.elim id (fun z => absurd z List.not_mem_nil)⟩
  | y :: G, p + 1 => by
    show x ∈ y :: insA G p h ↔ _
    rw [List.mem_cons, insA_mem G p, List.mem_cons]
    exact ⟨fun q => q.elim (fun a => Or.inr (Or.inl a)) (fun a => a.elim Or.inl (fun b => Or.inr (Or.inr b))), fun q => q.elim (fun a => Or.inr (Or.inl a)) (fun a => a.elim Or.inl (fun b => Or.inr (Or.inr b)))⟩
theorem insA_srt {rk : Nat → Int32} {G : List Nat} {p h : Nat} (hs : gSrt rk G) (hp : p ≤ G.length) (hb : ∀ x, x ∈ G → x < h) (h1 : ∀ i, p ≤ i → i < G.length → (rk (G.getD i 0)).toInt < (rk h).toInt) (h2 : p = 0 ∨ (rk h).toInt ≤ (rk (G.getD (p - 1) 0)).toInt) : gSrt rk (insA G p h) := by
  intro i j hij hj
  rw [insA_len G p hp] at hj
  rw [insA_gd G p i hp, insA_gd G p j hp]
  have lo : ∀ i, i < p → (rk h).toInt ≤ (rk (G.getD i 0)).toInt := fun i hi => by
    rcases h2 with q | q
    · omega
    · by_cases e : i = p - 1
      · rw [e]; exact q
      · have := hs i (p - 1) (by omega) (by omega)
        omega
  by_cases c : j < p
  · rw [if_pos c, if_pos (by omega)]
    exact hs i j hij (by omega)
  · rw [if_neg c]
    by_cases d : j = p
    · rw [if_pos d, if_pos (by omega)]
      have a := lo i (by omega)
      have b := hb (G.getD i 0) (gd_mem (by omega))
      omega
    · rw [if_neg d]
      by_cases e : i < p
      · rw [if_pos e]
        exact hs i (j - 1) (by omega) (by omega)
      · rw [if_neg e]
        by_cases f : i = p
        · rw [if_pos f]
          exact Or.inl (h1 (j - 1) (by omega) (by omega))
        · rw [if_neg f]
          exact hs (i - 1) (j - 1) (by omega) (by omega)
/-- the givers of one letter of one verse, and what the judge reckons with, alone -/
def gO (v l : Nat) (μ μ' : xM) : Prop := (∀ a j, a ≠ 49 → a ≠ 50 → ¬ ((a = 56 ∨ a = 57) ∧ 5 * (8 * v + l) ≤ j ∧ j < 5 * (8 * v + l) + 5) → ¬ (a = 58 ∧ j = 8 * v + l) → μ'.1 a j = μ.1 a j) ∧ μ'.2 = μ.2
theorem gO_tr {v l : Nat} {μ ν ω : xM} (h1 : gO v l μ ν) (h2 : gO v l ν ω) : gO v l μ ω := ⟨fun k j a b c d => (h2.1 k j a b c d).trans (h1.1 k j a b c d), h2.2.trans h1.2⟩
theorem gO_J {v l : Nat} {μ ν : xM} (h : gJ μ ν) : gO v l μ ν := ⟨fun k j a b _ _ => h.1 k j a b, h.2⟩
theorem gO_rf {v l : Nat} {μ : xM} : gO v l μ μ := ⟨fun _ _ _ _ _ _ => rfl, rfl⟩
theorem cS9_O {S : kSt} {v l : Nat} {μ ν : xM} (h : cS9 S μ) (e : gO v l μ ν) : cS9 S ν := cS9_cg h (fun k j a b => e.1 k j (by omega) (by omega) (by omega) (by omega))
theorem twA_O {c : Nat} {ρ : Nat → Int32} {v l : Nat} {μ ν : xM} (h : twA c ρ μ) (e : gO v l μ ν) (hc : c + 4 < 49 ∨ 58 < c) : twA c ρ ν := by
  obtain ⟨a, b, d1, d2, d3⟩ := h
  have g : ∀ k j, (k < 49 ∨ 58 < k) → ν.1 k j = μ.1 k j := fun k j q => e.1 k j (by omega) (by omega) (by omega) (by omega)
  refine ⟨fun j hj => ?_, fun j hj => ?_, ?_, ?_, ?_⟩
  · rw [g (c + 1) j (by omega), g (c + 2) j (by omega), g (c + 3) j (by omega)]; exact a j hj
  · rw [g (c + 4) j (by omega)]; exact b j hj
  · rw [g c 7 (by omega)]; exact d1
  · rw [g c 8 (by omega)]; exact d2
  · rw [g c 9 (by omega)]; exact d3
abbrev xq_24 : xP := (⟨"CapitalCase$Planner", "orderGivers", "(LCapitalCase$Town;II)V"⟩, prog_5_method_3_code, 9, none)
theorem gMem_no {k : Nat} {lv : Nat → Prop} {f0 : Nat → Int32} {G : List Nat} (h : gMem k lv f0 G) (hn : ¬ (¬ f0 k = 0 ∧ lv k)) : gMem (k + 1) lv f0 G := fun x => by
  rw [h x]
  exact ⟨fun ⟨a, b, c⟩ => ⟨by omega, b, c⟩, fun ⟨a, b, c⟩ => ⟨by
    by_cases e : x = k
    · subst e; exact absurd ⟨b, c⟩ hn
    · omega, b, c⟩⟩
theorem gMem_in {k p : Nat} {lv : Nat → Prop} {f0 : Nat → Int32} {G : List Nat} (h : gMem k lv f0 G) (hf : ¬ f0 k = 0) (hl : lv k) : gMem (k + 1) lv f0 (insA G p k) := fun x => by
  rw [insA_mem, h x]
  exact ⟨fun q => q.elim (fun e => by subst e; exact ⟨by omega, hf, hl⟩) (fun ⟨a, b, c⟩ => ⟨by omega, b, c⟩), fun ⟨a, b, c⟩ => by
    by_cases e : x = k
    · exact Or.inl e
    · exact Or.inr ⟨by omega, b, c⟩⟩
set_option maxRecDepth 10000 in
set_option maxHeartbeats 4000000 in
theorem ex_orderGivers {v l : Int32} {vn ln : Nat} {S : kSt} {ρ : Nat → Int32} {μ μ' : xM} {r : Option zV} (h0 : Ex gx xq_24 [.inr (.inl (some 52)), .inr (.inl (some 28)), .inl v, .inl l] μ r μ') (hO : hOK μ) (hP : pOK9 μ) (hS : cS9 S μ) (hT : twA 28 ρ μ) (hv : v.toInt = (vn : Int)) (hvn : vn < S.2.1.length) (hl : l.toInt = (ln : Int)) (hl7 : ln ≤ 7) : r = none ∧ gO vn ln μ μ' ∧ ∃ G, gLs 52 μ' vn ln (fun h => pRk S ρ h ln vn) G ∧ gSrt (fun h => pRk S ρ h ln vn) G ∧ gMem S.1.length (fun h => pLv S ρ h ln vn) (fun h => μ.1 53 (8 * h + ln)) G := by
  obtain ⟨n, h⟩ := tx_in (L := [some (.inr (.inl (some 52))), some (.inr (.inl (some 28))), some (.inl v), some (.inl l), none, none, none, none, none]) h0 rfl
  have e1i : (1 : Int32).toInt = 1 := by decide
  have e8i : (8 : Int32).toInt = 8 := by decide
  have e5i : (5 : Int32).toInt = 5 := by decide
  have hH5 := hS.1.1
  have hV7 := hS.1.2.1
  have t1 : (v * (8 : Int32)).toInt = 8 * (vn : Int) := by rw [an_mul (by rw [e8i]; omega) (by rw [e8i]; omega), e8i, hv]; omega
  have t2 : ((v * (8 : Int32)) + l).toInt = 8 * (vn : Int) + ln := by rw [an_add (by rw [t1]; omega) (by rw [t1]; omega), t1, hl]
  have t3 : (((v * (8 : Int32)) + l) * (5 : Int32)).toInt = 5 * (8 * (vn : Int) + ln) := by rw [an_mul (by rw [t2, e5i]; omega) (by rw [t2, e5i]; omega), t2, e5i]; omega
  have t4 : ((v * (8 : Int32)) + l).toInt.toNat = 8 * vn + ln := by omega
  have loop : ∀ (n k : Nat) (ct ho : Int32) (ω : xM) (G : List Nat) {o7 o8 : Option zV}, eT xq_24 n 16 [some (.inr (.inl (some 52))), some (.inr (.inl (some 28))), some (.inl v), some (.inl l), some (.inl (((v * (8 : Int32)) + l) * (5 : Int32))), some (.inl ct), some (.inl ho), o7, o8] [] ω r μ' → ho.toInt = (k : Int) → k ≤ S.1.length → gO vn ln μ ω → ct.toInt = (G.length : Int) → (∀ i, i < G.length → (ω.1 56 (5 * (8 * vn + ln) + i)).toInt = ((G.getD i 0 : Nat) : Int) ∧ ω.1 57 (5 * (8 * vn + ln) + i) = pRk S ρ (G.getD i 0) ln vn) → G.length ≤ k → gSrt (fun h => pRk S ρ h ln vn) G → gMem k (fun h => pLv S ρ h ln vn) (fun h => μ.1 53 (8 * h + ln)) G → r = none ∧ gO vn ln μ μ' ∧ ∃ G, gLs 52 μ' vn ln (fun h => pRk S ρ h ln vn) G ∧ gSrt (fun h => pRk S ρ h ln vn) G ∧ gMem S.1.length (fun h => pLv S ρ h ln vn) (fun h => μ.1 53 (8 * h + ln)) G := by
    intro n
    induction n using Nat.strongRecOn with
    | ind n ih =>
    intro k ct ho ω G o7 o8 h hi hk hG hct hLs hGk hs hM
    have hOω := hOK_2 hG.2 hO
    have hPω := pOK9_2 hG.2 hP
    have hSω := cS9_O hS hG
    have hTω := twA_O hT hG (by decide)
    have hi9 := hi
    have hHH : (ω.1 2 0).toInt = (S.1.length : Int) := hSω.2.2.1.1.1
    have u1 : (ho * (8 : Int32)).toInt = 8 * (k : Int) := by rw [an_mul (by rw [e8i]; omega) (by rw [e8i]; omega), e8i, hi]; omega
    have idx : ((ho * (8 : Int32)) + l).toInt.toNat = 8 * k + ln := by
      have : ((ho * (8 : Int32)) + l).toInt = 8 * (k : Int) + ln := by rw [an_add (by rw [u1]; omega) (by rw [u1]; omega), u1, hl]
      omega
    have inner : pLv S ρ k ln vn → ¬ μ.1 53 (8 * k + ln) = 0 → ∀ (m : Nat), m ≤ n → ∀ (p : Nat) (pa : Int32) (ω2 : xM), eT xq_24 m 82 [some (.inr (.inl (some 52))), some (.inr (.inl (some 28))), some (.inl v), some (.inl l), some (.inl (((v * (8 : Int32)) + l) * (5 : Int32))), some (.inl ct), some (.inl ho), some (.inl (pRk S ρ k ln vn)), some (.inl pa)] [] ω2 r μ' → pa.toInt = 5 * (8 * (vn : Int) + ln) + (p : Int) → p ≤ G.length → gO vn ln μ ω2 → (∀ i, i < p → (ω2.1 56 (5 * (8 * vn + ln) + i)).toInt = ((G.getD i 0 : Nat) : Int) ∧ ω2.1 57 (5 * (8 * vn + ln) + i) = pRk S ρ (G.getD i 0) ln vn) → (∀ i, p ≤ i → i < G.length → (ω2.1 56 (5 * (8 * vn + ln) + (i + 1))).toInt = ((G.getD i 0 : Nat) : Int) ∧ ω2.1 57 (5 * (8 * vn + ln) + (i + 1)) = pRk S ρ (G.getD i 0) ln vn ∧ (pRk S ρ (G.getD i 0) ln vn).toInt < (pRk S ρ k ln vn).toInt) → k < S.1.length → r = none ∧ gO vn ln μ μ' ∧ ∃ G, gLs 52 μ' vn ln (fun h => pRk S ρ h ln vn) G ∧ gSrt (fun h => pRk S ρ h ln vn) G ∧ gMem S.1.length (fun h => pLv S ρ h ln vn) (fun h => μ.1 53 (8 * h + ln)) G := by
      intro lv1 hz m
      induction m using Nat.strongRecOn with
      | ind m ihm =>
      intro hmn p pa ω2 h hpa hp hG2 hL1 hL2 hkS
      replace h := tx_iload (p' := 84) h em24_82 rfl rfl
      replace h := tx_iload (p' := 86) h em24_84 rfl rfl
      rcases tx_icmp (t := 141) (p' := 89) h em24_86 (by decide) rfl with ⟨c86, h⟩ | ⟨c86, h⟩
      · replace c86 : pa.toInt ≤ (((v * (8 : Int32)) + l) * (5 : Int32)).toInt := c86
        replace h := tx_aload_n (p' := 142) h em24_141 rfl rfl
        obtain ⟨b142, hk_b142, hr_b142, h⟩ := tx_getk (c := 3) (j := 9) (p' := 145) h em24_142 ((congrFun xo_4 21).trans rfl) rfl rfl rfl
        have eb142 : b142 = 56 := Option.some.inj (hr_b142.symm.trans ((pOK9_2 hG2.2 hP) 52 (by decide) 9 (by decide)))
        subst eb142
        replace h := tx_iload (p' := 147) h em24_145 rfl rfl
        replace h := tx_iload (p' := 149) h em24_147 rfl rfl
        obtain ⟨hb149, h⟩ := tx_iast (len := 280) (p' := 150) h em24_149 rfl rfl
        replace hb149 : (0 : Int) ≤ pa.toInt ∧ pa.toInt < 280 := hb149
        replace h := tx_aload_n (p' := 151) h em24_150 rfl rfl
        obtain ⟨b151, hk_b151, hr_b151, h⟩ := tx_getk (c := 3) (j := 10) (p' := 154) h em24_151 ((congrFun xo_4 24).trans rfl) rfl rfl rfl
        have eb151 : b151 = 57 := Option.some.inj (hr_b151.symm.trans ((pOK9_2 hG2.2 hP) 52 (by decide) 10 (by decide)))
        subst eb151
        replace h := tx_iload (p' := 156) h em24_154 rfl rfl
        replace h := tx_iload (p' := 158) h em24_156 rfl rfl
        obtain ⟨hb158, h⟩ := tx_iast (len := 280) (p' := 159) h em24_158 rfl rfl
        replace hb158 : (0 : Int) ≤ pa.toInt ∧ pa.toInt < 280 := hb158
        replace h := tx_iinc (v := 1) (p' := 162) h em24_159 (by decide +kernel) rfl rfl
        replace h : eT xq_24 _ 162 [some (.inr (.inl (some 52))), some (.inr (.inl (some 28))), some (.inl v), some (.inl l), some (.inl (((v * (8 : Int32)) + l) * (5 : Int32))), some (.inl (ct + 1)), some (.inl ho), some (.inl (pRk S ρ k ln vn)), some (.inl pa)] [] (xpi (xpi ω2 56 pa.toInt.toNat ho) 57 pa.toInt.toNat (pRk S ρ k ln vn)) r μ' := h
        replace h := tx_iinc (v := 1) (p' := 165) h em24_162 (by decide +kernel) rfl rfl
        replace h : eT xq_24 _ 165 [some (.inr (.inl (some 52))), some (.inr (.inl (some 28))), some (.inl v), some (.inl l), some (.inl (((v * (8 : Int32)) + l) * (5 : Int32))), some (.inl (ct + 1)), some (.inl (ho + 1)), some (.inl (pRk S ρ k ln vn)), some (.inl pa)] [] (xpi (xpi ω2 56 pa.toInt.toNat ho) 57 pa.toInt.toNat (pRk S ρ k ln vn)) r μ' := h
        obtain ⟨n2, hn2, h⟩ := tx_gotoS (t := 16) h em24_165 (by decide)
        have ei : (ho + 1).toInt = ((k + 1 : Nat) : Int) := by rw [an_add (by rw [e1i]; omega) (by rw [e1i]; omega), e1i]; omega
        have ec : (ct + 1).toInt = ((insA G p k).length : Int) := by rw [an_add (by rw [e1i]; omega) (by rw [e1i]; omega), e1i, insA_len G p hp]; omega
        have i2 : pa.toInt.toNat = 5 * (8 * vn + ln) + p := by omega
        rw [i2] at h
        have hgl := insA_len (h := k) G p hp
        have hbk : ∀ x, x ∈ G → x < k := fun x hx => ((hM x).mp hx).1
        refine ih n2 (by omega) (k + 1) _ _ _ (insA G p k) h ei (by omega) (gO_tr hG2 ⟨fun a j _ _ q _ => (xpi_ne (fun z => q ⟨Or.inr z.1, by omega, by omega⟩)).trans (xpi_ne (fun z => q ⟨Or.inl z.1, by omega, by omega⟩)), rfl⟩) ec (fun i hi => ?_) (by omega) (insA_srt hs hp hbk (fun i a b => (hL2 i a b).2.2) (Or.inl (by omega))) (gMem_in hM hz lv1)
        rw [insA_gd G p i hp, xpi_ne (fun q => absurd q.1 (by decide))]
        by_cases c1 : i < p
        · rw [if_pos c1, xpi_ne (fun q => by omega), xpi_ne (fun q => by omega), xpi_ne (fun q => absurd q.1 (by decide))]
          exact hL1 i c1
        · rw [if_neg c1]
          by_cases c2 : i = p
          · rw [if_pos c2, c2, xpi_at, xpi_at]
            exact ⟨hi9, rfl⟩
          · rw [if_neg c2, xpi_ne (fun q => by omega), xpi_ne (fun q => by omega), xpi_ne (fun q => absurd q.1 (by decide))]
            have q := hL2 (i - 1) (by omega) (by omega)
            rw [show i - 1 + 1 = i by omega] at q
            exact ⟨q.1, q.2.1⟩
      · replace c86 : ¬ pa.toInt ≤ (((v * (8 : Int32)) + l) * (5 : Int32)).toInt := c86
        replace h := tx_aload_n (p' := 90) h em24_89 rfl rfl
        obtain ⟨b90, hk_b90, hr_b90, h⟩ := tx_getk (c := 3) (j := 10) (p' := 93) h em24_90 ((congrFun xo_4 24).trans rfl) rfl rfl rfl
        have eb90 : b90 = 57 := Option.some.inj (hr_b90.symm.trans ((pOK9_2 hG2.2 hP) 52 (by decide) 10 (by decide)))
        subst eb90
        replace h := tx_iload (p' := 95) h em24_93 rfl rfl
        replace h := tx_iconst (v := 1) (p' := 96) h em24_95 (by decide +kernel) rfl
        replace h := tx_isub (p' := 97) h em24_96 rfl
        obtain ⟨hb97, h⟩ := tx_iald (len := 280) (p' := 98) h em24_97 rfl rfl
        replace hb97 : (0 : Int) ≤ (pa - (1 : Int32)).toInt ∧ (pa - (1 : Int32)).toInt < 280 := hb97
        replace h := tx_iload (p' := 100) h em24_98 rfl rfl
        rcases tx_icmp (t := 141) (p' := 103) h em24_100 (by decide) rfl with ⟨c100, h⟩ | ⟨c100, h⟩
        · replace c100 : (pRk S ρ k ln vn).toInt ≤ (ω2.1 57 (pa - (1 : Int32)).toInt.toNat).toInt := c100
          replace h := tx_aload_n (p' := 142) h em24_141 rfl rfl
          obtain ⟨b142_1, hk_b142_1, hr_b142_1, h⟩ := tx_getk (c := 3) (j := 9) (p' := 145) h em24_142 ((congrFun xo_4 21).trans rfl) rfl rfl rfl
          have eb142_1 : b142_1 = 56 := Option.some.inj (hr_b142_1.symm.trans ((pOK9_2 hG2.2 hP) 52 (by decide) 9 (by decide)))
          subst eb142_1
          replace h := tx_iload (p' := 147) h em24_145 rfl rfl
          replace h := tx_iload (p' := 149) h em24_147 rfl rfl
          obtain ⟨hb149_1, h⟩ := tx_iast (len := 280) (p' := 150) h em24_149 rfl rfl
          replace hb149_1 : (0 : Int) ≤ pa.toInt ∧ pa.toInt < 280 := hb149_1
          replace h := tx_aload_n (p' := 151) h em24_150 rfl rfl
          obtain ⟨b151_1, hk_b151_1, hr_b151_1, h⟩ := tx_getk (c := 3) (j := 10) (p' := 154) h em24_151 ((congrFun xo_4 24).trans rfl) rfl rfl rfl
          have eb151_1 : b151_1 = 57 := Option.some.inj (hr_b151_1.symm.trans ((pOK9_2 hG2.2 hP) 52 (by decide) 10 (by decide)))
          subst eb151_1
          replace h := tx_iload (p' := 156) h em24_154 rfl rfl
          replace h := tx_iload (p' := 158) h em24_156 rfl rfl
          obtain ⟨hb158_1, h⟩ := tx_iast (len := 280) (p' := 159) h em24_158 rfl rfl
          replace hb158_1 : (0 : Int) ≤ pa.toInt ∧ pa.toInt < 280 := hb158_1
          replace h := tx_iinc (v := 1) (p' := 162) h em24_159 (by decide +kernel) rfl rfl
          replace h : eT xq_24 _ 162 [some (.inr (.inl (some 52))), some (.inr (.inl (some 28))), some (.inl v), some (.inl l), some (.inl (((v * (8 : Int32)) + l) * (5 : Int32))), some (.inl (ct + 1)), some (.inl ho), some (.inl (pRk S ρ k ln vn)), some (.inl pa)] [] (xpi (xpi ω2 56 pa.toInt.toNat ho) 57 pa.toInt.toNat (pRk S ρ k ln vn)) r μ' := h
          replace h := tx_iinc (v := 1) (p' := 165) h em24_162 (by decide +kernel) rfl rfl
          replace h : eT xq_24 _ 165 [some (.inr (.inl (some 52))), some (.inr (.inl (some 28))), some (.inl v), some (.inl l), some (.inl (((v * (8 : Int32)) + l) * (5 : Int32))), some (.inl (ct + 1)), some (.inl (ho + 1)), some (.inl (pRk S ρ k ln vn)), some (.inl pa)] [] (xpi (xpi ω2 56 pa.toInt.toNat ho) 57 pa.toInt.toNat (pRk S ρ k ln vn)) r μ' := h
          obtain ⟨n2, hn2, h⟩ := tx_gotoS (t := 16) h em24_165 (by decide)
          have ea : (pa - (1 : Int32)).toInt = pa.toInt - 1 := by rw [an_sub (by rw [e1i]; omega) (by rw [e1i]; omega), e1i]
          have hge : (pRk S ρ k ln vn).toInt ≤ (pRk S ρ (G.getD (p - 1) 0) ln vn).toInt := by
            have q := (hL1 (p - 1) (by omega)).2
            rw [show (pa - (1 : Int32)).toInt.toNat = 5 * (8 * vn + ln) + (p - 1) by omega, q] at c100
            omega
          have ei : (ho + 1).toInt = ((k + 1 : Nat) : Int) := by rw [an_add (by rw [e1i]; omega) (by rw [e1i]; omega), e1i]; omega
          have ec : (ct + 1).toInt = ((insA G p k).length : Int) := by rw [an_add (by rw [e1i]; omega) (by rw [e1i]; omega), e1i, insA_len G p hp]; omega
          have i2 : pa.toInt.toNat = 5 * (8 * vn + ln) + p := by omega
          rw [i2] at h
          have hgl := insA_len (h := k) G p hp
          have hbk : ∀ x, x ∈ G → x < k := fun x hx => ((hM x).mp hx).1
          refine ih n2 (by omega) (k + 1) _ _ _ (insA G p k) h ei (by omega) (gO_tr hG2 ⟨fun a j _ _ q _ => (xpi_ne (fun z => q ⟨Or.inr z.1, by omega, by omega⟩)).trans (xpi_ne (fun z => q ⟨Or.inl z.1, by omega, by omega⟩)), rfl⟩) ec (fun i hi => ?_) (by omega) (insA_srt hs hp hbk (fun i a b => (hL2 i a b).2.2) (Or.inr hge)) (gMem_in hM hz lv1)
          rw [insA_gd G p i hp, xpi_ne (fun q => absurd q.1 (by decide))]
          by_cases c1 : i < p
          · rw [if_pos c1, xpi_ne (fun q => by omega), xpi_ne (fun q => by omega), xpi_ne (fun q => absurd q.1 (by decide))]
            exact hL1 i c1
          · rw [if_neg c1]
            by_cases c2 : i = p
            · rw [if_pos c2, c2, xpi_at, xpi_at]
              exact ⟨hi9, rfl⟩
            · rw [if_neg c2, xpi_ne (fun q => by omega), xpi_ne (fun q => by omega), xpi_ne (fun q => absurd q.1 (by decide))]
              have q := hL2 (i - 1) (by omega) (by omega)
              rw [show i - 1 + 1 = i by omega] at q
              exact ⟨q.1, q.2.1⟩
        · replace c100 : ¬ (pRk S ρ k ln vn).toInt ≤ (ω2.1 57 (pa - (1 : Int32)).toInt.toNat).toInt := c100
          replace h := tx_aload_n (p' := 104) h em24_103 rfl rfl
          obtain ⟨b104, hk_b104, hr_b104, h⟩ := tx_getk (c := 3) (j := 9) (p' := 107) h em24_104 ((congrFun xo_4 21).trans rfl) rfl rfl rfl
          have eb104 : b104 = 56 := Option.some.inj (hr_b104.symm.trans ((pOK9_2 hG2.2 hP) 52 (by decide) 9 (by decide)))
          subst eb104
          replace h := tx_iload (p' := 109) h em24_107 rfl rfl
          replace h := tx_aload_n (p' := 110) h em24_109 rfl rfl
          obtain ⟨b110, hk_b110, hr_b110, h⟩ := tx_getk (c := 3) (j := 9) (p' := 113) h em24_110 ((congrFun xo_4 21).trans rfl) rfl rfl rfl
          have eb110 : b110 = 56 := Option.some.inj (hr_b110.symm.trans ((pOK9_2 hG2.2 hP) 52 (by decide) 9 (by decide)))
          subst eb110
          replace h := tx_iload (p' := 115) h em24_113 rfl rfl
          replace h := tx_iconst (v := 1) (p' := 116) h em24_115 (by decide +kernel) rfl
          replace h := tx_isub (p' := 117) h em24_116 rfl
          obtain ⟨hb117, h⟩ := tx_iald (len := 280) (p' := 118) h em24_117 rfl rfl
          replace hb117 : (0 : Int) ≤ (pa - (1 : Int32)).toInt ∧ (pa - (1 : Int32)).toInt < 280 := hb117
          obtain ⟨hb118, h⟩ := tx_iast (len := 280) (p' := 119) h em24_118 rfl rfl
          replace hb118 : (0 : Int) ≤ pa.toInt ∧ pa.toInt < 280 := hb118
          replace h := tx_aload_n (p' := 120) h em24_119 rfl rfl
          obtain ⟨b120, hk_b120, hr_b120, h⟩ := tx_getk (c := 3) (j := 10) (p' := 123) h em24_120 ((congrFun xo_4 24).trans rfl) rfl rfl rfl
          have eb120 : b120 = 57 := Option.some.inj (hr_b120.symm.trans ((pOK9_2 hG2.2 hP) 52 (by decide) 10 (by decide)))
          subst eb120
          replace h := tx_iload (p' := 125) h em24_123 rfl rfl
          replace h := tx_aload_n (p' := 126) h em24_125 rfl rfl
          obtain ⟨b126, hk_b126, hr_b126, h⟩ := tx_getk (c := 3) (j := 10) (p' := 129) h em24_126 ((congrFun xo_4 24).trans rfl) rfl rfl rfl
          have eb126 : b126 = 57 := Option.some.inj (hr_b126.symm.trans ((pOK9_2 hG2.2 hP) 52 (by decide) 10 (by decide)))
          subst eb126
          replace h := tx_iload (p' := 131) h em24_129 rfl rfl
          replace h := tx_iconst (v := 1) (p' := 132) h em24_131 (by decide +kernel) rfl
          replace h := tx_isub (p' := 133) h em24_132 rfl
          obtain ⟨hb133, h⟩ := tx_iald (len := 280) (p' := 134) h em24_133 rfl rfl
          replace hb133 : (0 : Int) ≤ (pa - (1 : Int32)).toInt ∧ (pa - (1 : Int32)).toInt < 280 := hb133
          replace h : eT xq_24 _ 134 [some (.inr (.inl (some 52))), some (.inr (.inl (some 28))), some (.inl v), some (.inl l), some (.inl (((v * (8 : Int32)) + l) * (5 : Int32))), some (.inl ct), some (.inl ho), some (.inl (pRk S ρ k ln vn)), some (.inl pa)] [.inl (ω2.1 57 (pa - (1 : Int32)).toInt.toNat), .inl pa, .inr (.inl (some 57))] (xpi ω2 56 pa.toInt.toNat (ω2.1 56 (pa - (1 : Int32)).toInt.toNat)) r μ' := h
          obtain ⟨hb134, h⟩ := tx_iast (len := 280) (p' := 135) h em24_134 rfl rfl
          replace hb134 : (0 : Int) ≤ pa.toInt ∧ pa.toInt < 280 := hb134
          replace h := tx_iinc (v := (-1)) (p' := 138) h em24_135 (by decide +kernel) rfl rfl
          replace h : eT xq_24 _ 138 [some (.inr (.inl (some 52))), some (.inr (.inl (some 28))), some (.inl v), some (.inl l), some (.inl (((v * (8 : Int32)) + l) * (5 : Int32))), some (.inl ct), some (.inl ho), some (.inl (pRk S ρ k ln vn)), some (.inl (pa + (-1)))] [] (xpi (xpi ω2 56 pa.toInt.toNat (ω2.1 56 (pa - (1 : Int32)).toInt.toNat)) 57 pa.toInt.toNat (ω2.1 57 (pa - (1 : Int32)).toInt.toNat)) r μ' := h
          have ep1 : (pa + -1).toInt = pa.toInt - 1 := ka1 (by omega)
          obtain ⟨pa1, hp1⟩ : ∃ z, z = pa + -1 := ⟨_, rfl⟩
          rw [← hp1] at ep1 h
          clear hp1
          obtain ⟨n2, hn2, h⟩ := tx_gotoS (t := 82) h em24_138 (by decide)
          have ea : (pa - (1 : Int32)).toInt = pa.toInt - 1 := by rw [an_sub (by rw [e1i]; omega) (by rw [e1i]; omega), e1i]
          obtain ⟨p2, rfl⟩ : ∃ p2, p = p2 + 1 := ⟨p - 1, by omega⟩
          have i1 : (pa - (1 : Int32)).toInt.toNat = 5 * (8 * vn + ln) + p2 := by omega
          have i2 : pa.toInt.toNat = 5 * (8 * vn + ln) + (p2 + 1) := by omega
          rw [i1] at c100
          rw [i1, i2] at h
          have hlo := hL1 p2 (by omega)
          refine ihm n2 hn2 (by omega) p2 _ _ h (by omega) (by omega) (gO_tr hG2 ⟨fun a j _ _ q _ => (xpi_ne (fun z => q ⟨Or.inr z.1, by omega, by omega⟩)).trans (xpi_ne (fun z => q ⟨Or.inl z.1, by omega, by omega⟩)), rfl⟩) (fun i hi => ?_) (fun i hi hi2 => ?_) hkS
          · rw [xpi_ne (fun q => absurd q.1 (by decide)), xpi_ne (fun q => by omega), xpi_ne (fun q => by omega), xpi_ne (fun q => absurd q.1 (by decide))]
            exact hL1 i (by omega)
          · by_cases e : i = p2
            · subst e
              rw [xpi_ne (fun q => absurd q.1 (by decide)), xpi_at, xpi_at]
              rw [hlo.2] at c100
              exact ⟨hlo.1, hlo.2, by omega⟩
            · rw [xpi_ne (fun q => absurd q.1 (by decide)), xpi_ne (fun q => by omega), xpi_ne (fun q => by omega), xpi_ne (fun q => absurd q.1 (by decide))]
              exact hL2 i (by omega) hi2
    replace h := tx_iload (p' := 18) h em24_16 rfl rfl
    replace h := tx_aload_n (p' := 19) h em24_18 rfl rfl
    replace h := tx_getc (c := 3) (j := 0) (p' := 22) h em24_19 ((congrFun xo_4 30).trans rfl) rfl rfl rfl
    replace h := tx_getf (c := 6) (j := 0) (p' := 25) h em24_22 ((congrFun xo_4 73).trans rfl) rfl rfl (by decide) rfl
    rcases tx_icmp (t := 168) (p' := 28) h em24_25 (by decide) rfl with ⟨c25, h⟩ | ⟨c25, h⟩
    · replace c25 : (ω.1 2 0).toInt ≤ ho.toInt := c25
      replace h := tx_aload_n (p' := 169) h em24_168 rfl rfl
      obtain ⟨b169, hk_b169, hr_b169, h⟩ := tx_getk (c := 3) (j := 11) (p' := 172) h em24_169 ((congrFun xo_4 27).trans rfl) rfl rfl rfl
      have eb169 : b169 = 58 := Option.some.inj (hr_b169.symm.trans ((hPω) 52 (by decide) 11 (by decide)))
      subst eb169
      replace h := tx_iload_n (p' := 173) h em24_172 rfl rfl
      replace h := tx_bipush (v := 8) (p' := 175) h em24_173 (by decide +kernel) rfl
      replace h := tx_imul (p' := 176) h em24_175 rfl
      replace h := tx_iload_n (p' := 177) h em24_176 rfl rfl
      replace h := tx_iadd (p' := 178) h em24_177 rfl
      replace h := tx_iload (p' := 180) h em24_178 rfl rfl
      obtain ⟨hb180, h⟩ := tx_iast (len := 56) (p' := 181) h em24_180 rfl rfl
      replace hb180 : (0 : Int) ≤ ((v * (8 : Int32)) + l).toInt ∧ ((v * (8 : Int32)) + l).toInt < 56 := hb180
      obtain ⟨rfl, hμ⟩ := tx_return h em24_181
      replace hμ : μ' = (xpi ω 58 ((v * (8 : Int32)) + l).toInt.toNat ct) := hμ
      have ek : k = S.1.length := by omega
      rw [ek] at hM
      rw [t4] at hμ
      rw [hμ]
      refine ⟨rfl, gO_tr hG ⟨fun a j _ _ _ q => xpi_ne q, rfl⟩, G, ⟨?_, by omega, fun i hi => ?_⟩, hs, hM⟩
      · show ((xpi _ _ _ _).1 58 (8 * vn + ln)).toInt = _
        rw [xpi_at]; exact hct
      · show ((xpi _ _ _ _).1 56 _).toInt = _ ∧ (xpi _ _ _ _).1 57 _ = _
        rw [xpi_ne (fun q => absurd q.1 (by decide)), xpi_ne (fun q => absurd q.1 (by decide))]
        exact hLs i hi
    · replace c25 : ¬ (ω.1 2 0).toInt ≤ ho.toInt := c25
      replace h := tx_aload_n (p' := 29) h em24_28 rfl rfl
      obtain ⟨b29, hk_b29, hr_b29, h⟩ := tx_getk (c := 3) (j := 2) (p' := 32) h em24_29 ((congrFun xo_4 9).trans rfl) rfl rfl rfl
      have eb29 : b29 = 53 := Option.some.inj (hr_b29.symm.trans ((hPω) 52 (by decide) 2 (by decide)))
      subst eb29
      replace h := tx_iload (p' := 34) h em24_32 rfl rfl
      replace h := tx_bipush (v := 8) (p' := 36) h em24_34 (by decide +kernel) rfl
      replace h := tx_imul (p' := 37) h em24_36 rfl
      replace h := tx_iload_n (p' := 38) h em24_37 rfl rfl
      replace h := tx_iadd (p' := 39) h em24_38 rfl
      obtain ⟨hb39, h⟩ := tx_iald (len := 40) (p' := 40) h em24_39 rfl rfl
      replace hb39 : (0 : Int) ≤ ((ho * (8 : Int32)) + l).toInt ∧ ((ho * (8 : Int32)) + l).toInt < 40 := hb39
      rcases tx_if (t := 162) (p' := 43) h em24_40 (by decide) rfl with ⟨c40, h⟩ | ⟨c40, h⟩
      · replace c40 : (ω.1 53 ((ho * (8 : Int32)) + l).toInt.toNat).toInt = 0 := c40
        replace h := tx_iinc (v := 1) (p' := 165) h em24_162 (by decide +kernel) rfl rfl
        replace h : eT xq_24 _ 165 [some (.inr (.inl (some 52))), some (.inr (.inl (some 28))), some (.inl v), some (.inl l), some (.inl (((v * (8 : Int32)) + l) * (5 : Int32))), some (.inl ct), some (.inl (ho + 1)), o7, o8] [] ω r μ' := h
        obtain ⟨n2, hn2, h⟩ := tx_gotoS (t := 16) h em24_165 (by decide)
        have ei : (ho + 1).toInt = ((k + 1 : Nat) : Int) := by rw [an_add (by rw [e1i]; omega) (by rw [e1i]; omega), e1i]; omega
        rw [idx] at c40
        have hz : μ.1 53 (8 * k + ln) = 0 := by
          rw [← hG.1 53 _ (by decide) (by decide) (fun q => by omega) (fun q => by omega)]
          exact Int32.toInt_inj.mp (c40.trans (by decide))
        exact ih n2 hn2 (k + 1) _ _ _ G h ei (by omega) hG hct hLs (by omega) hs (gMem_no hM (fun q => q.1 hz))
      · replace c40 : ¬ (ω.1 53 ((ho * (8 : Int32)) + l).toInt.toNat).toInt = 0 := c40
        replace h := tx_aload_n (p' := 44) h em24_43 rfl rfl
        replace h := tx_getc (c := 3) (j := 1) (p' := 47) h em24_44 ((congrFun xo_4 34).trans rfl) rfl rfl rfl
        replace h := tx_aload_n (p' := 48) h em24_47 rfl rfl
        replace h := tx_iload (p' := 50) h em24_48 rfl rfl
        replace h := tx_iload_n (p' := 51) h em24_50 rfl rfl
        replace h := tx_iload_n (p' := 52) h em24_51 rfl rfl
        obtain ⟨r52, μ52, hE52, h⟩ := tx_invV (na := 5) (mn := 2) (as := [.inr (.inl (some 48)), .inr (.inl (some 28)), .inl ho, .inl l, .inl v]) (rest := []) (p' := 55) h em24_52 ((congrFun xo_4 76).trans rfl) xm_2 rfl rfl
        obtain ⟨g1, ⟨rfl, lv1⟩ | ⟨rfl, lv1⟩⟩ := ex_cleave_28 hE52 hOω hSω hTω hi (by omega) hl hl7 hv hvn
        · replace h : eT xq_24 _ 55 [some (.inr (.inl (some 52))), some (.inr (.inl (some 28))), some (.inl v), some (.inl l), some (.inl (((v * (8 : Int32)) + l) * (5 : Int32))), some (.inl ct), some (.inl ho), o7, o8] [.inl (1 : Int32)] μ52 r μ' := h
          rcases tx_if (t := 61) (p' := 58) h em24_55 (by decide) rfl with ⟨c55, h⟩ | ⟨c55, h⟩
          · replace c55 : ¬ (1 : Int) = (0 : Int) := c55
            replace h := tx_aload_n (p' := 62) h em24_61 rfl rfl
            replace h := tx_getc (c := 3) (j := 1) (p' := 65) h em24_62 ((congrFun xo_4 34).trans rfl) rfl rfl rfl
            replace h := tx_aload_n (p' := 66) h em24_65 rfl rfl
            replace h := tx_iload (p' := 68) h em24_66 rfl rfl
            replace h := tx_iload_n (p' := 69) h em24_68 rfl rfl
            replace h := tx_iload_n (p' := 70) h em24_69 rfl rfl
            obtain ⟨r70, μ70, hE70, h⟩ := tx_invV (na := 5) (mn := 7) (as := [.inr (.inl (some 48)), .inr (.inl (some 28)), .inl ho, .inl l, .inl v]) (rest := []) (p' := 73) h em24_70 ((congrFun xo_4 80).trans rfl) xm_7 rfl rfl
            obtain ⟨g2, rfl⟩ := ex_crank_28 hE70 (hOK_2 g1.2 hOω) (cS9_J hSω g1) (twA_J hTω g1 (by decide)) hi (by omega) hl hl7 hv hvn
            have g3 := gJ_tr g1 g2
            replace h : eT xq_24 _ 73 [some (.inr (.inl (some 52))), some (.inr (.inl (some 28))), some (.inl v), some (.inl l), some (.inl (((v * (8 : Int32)) + l) * (5 : Int32))), some (.inl ct), some (.inl ho), o7, o8] [.inl (pRk S ρ k ln vn)] μ70 r μ' := h
            replace h := tx_istore (p' := 75) h em24_73 rfl
            replace h : eT xq_24 _ 75 [some (.inr (.inl (some 52))), some (.inr (.inl (some 28))), some (.inl v), some (.inl l), some (.inl (((v * (8 : Int32)) + l) * (5 : Int32))), some (.inl ct), some (.inl ho), some (.inl (pRk S ρ k ln vn)), o8] [] μ70 r μ' := h
            replace h := tx_iload (p' := 77) h em24_75 rfl rfl
            replace h := tx_iload (p' := 79) h em24_77 rfl rfl
            replace h := tx_iadd (p' := 80) h em24_79 rfl
            replace h := tx_istore (p' := 82) h em24_80 rfl
            replace h : eT xq_24 _ 82 [some (.inr (.inl (some 52))), some (.inr (.inl (some 28))), some (.inl v), some (.inl l), some (.inl (((v * (8 : Int32)) + l) * (5 : Int32))), some (.inl ct), some (.inl ho), some (.inl (pRk S ρ k ln vn)), some (.inl ((((v * (8 : Int32)) + l) * (5 : Int32)) + ct))] [] μ70 r μ' := h
            rw [idx] at c40
            have hz : ¬ μ.1 53 (8 * k + ln) = 0 := fun q => by
              rw [← hG.1 53 _ (by decide) (by decide) (fun q => by omega) (fun q => by omega)] at q
              rw [q] at c40
              exact c40 (by decide)
            have hLs2 : (∀ i, i < G.length → (μ70.1 56 (5 * (8 * vn + ln) + i)).toInt = ((G.getD i 0 : Nat) : Int) ∧ μ70.1 57 (5 * (8 * vn + ln) + i) = pRk S ρ (G.getD i 0) ln vn) := fun i hi => by
              rw [g3.1 56 _ (by decide) (by decide), g3.1 57 _ (by decide) (by decide)]
              exact hLs i hi
            have hpa : ((((v * (8 : Int32)) + l) * (5 : Int32)) + ct).toInt = 5 * (8 * (vn : Int) + ln) + (G.length : Int) := by rw [an_add (by rw [t3]; omega) (by rw [t3]; omega), t3, hct]
            exact inner lv1 hz n (Nat.le_refl n) G.length _ μ70 h hpa (Nat.le_refl _) (gO_tr hG (gO_J g3)) hLs2 (fun i hi hi2 => by omega) (by omega)
          · replace c55 : ¬ ¬ (1 : Int) = (0 : Int) := c55
            exfalso
            omega
        · replace h : eT xq_24 _ 55 [some (.inr (.inl (some 52))), some (.inr (.inl (some 28))), some (.inl v), some (.inl l), some (.inl (((v * (8 : Int32)) + l) * (5 : Int32))), some (.inl ct), some (.inl ho), o7, o8] [.inl (0 : Int32)] μ52 r μ' := h
          rcases tx_if (t := 61) (p' := 58) h em24_55 (by decide) rfl with ⟨c55_1, h⟩ | ⟨c55_1, h⟩
          · replace c55_1 : ¬ (0 : Int) = (0 : Int) := c55_1
            exfalso
            omega
          · replace c55_1 : ¬ ¬ (0 : Int) = (0 : Int) := c55_1
            replace h := tx_goto (t := 162) h em24_58 (by decide)
            replace h := tx_iinc (v := 1) (p' := 165) h em24_162 (by decide +kernel) rfl rfl
            replace h : eT xq_24 _ 165 [some (.inr (.inl (some 52))), some (.inr (.inl (some 28))), some (.inl v), some (.inl l), some (.inl (((v * (8 : Int32)) + l) * (5 : Int32))), some (.inl ct), some (.inl (ho + 1)), o7, o8] [] μ52 r μ' := h
            obtain ⟨n2, hn2, h⟩ := tx_gotoS (t := 16) h em24_165 (by decide)
            have ei : (ho + 1).toInt = ((k + 1 : Nat) : Int) := by rw [an_add (by rw [e1i]; omega) (by rw [e1i]; omega), e1i]; omega
            refine ih n2 hn2 (k + 1) _ _ _ G h ei (by omega) (gO_tr hG (gO_J g1)) hct (fun i hi => ?_) (by omega) hs (gMem_no hM (fun q => lv1 q.2))
            rw [g1.1 56 _ (by decide) (by decide), g1.1 57 _ (by decide) (by decide)]
            exact hLs i hi
  replace h := tx_iload_n (p' := 1) h em24_0 rfl rfl
  replace h := tx_bipush (v := 8) (p' := 3) h em24_1 (by decide +kernel) rfl
  replace h := tx_imul (p' := 4) h em24_3 rfl
  replace h := tx_iload_n (p' := 5) h em24_4 rfl rfl
  replace h := tx_iadd (p' := 6) h em24_5 rfl
  replace h := tx_iconst (v := 5) (p' := 7) h em24_6 (by decide +kernel) rfl
  replace h := tx_imul (p' := 8) h em24_7 rfl
  replace h := tx_istore (p' := 10) h em24_8 rfl
  replace h : eT xq_24 _ 10 [some (.inr (.inl (some 52))), some (.inr (.inl (some 28))), some (.inl v), some (.inl l), some (.inl (((v * (8 : Int32)) + l) * (5 : Int32))), none, none, none, none] [] μ r μ' := h
  replace h := tx_iconst (v := 0) (p' := 11) h em24_10 (by decide +kernel) rfl
  replace h := tx_istore (p' := 13) h em24_11 rfl
  replace h : eT xq_24 _ 13 [some (.inr (.inl (some 52))), some (.inr (.inl (some 28))), some (.inl v), some (.inl l), some (.inl (((v * (8 : Int32)) + l) * (5 : Int32))), some (.inl (0 : Int32)), none, none, none] [] μ r μ' := h
  replace h := tx_iconst (v := 0) (p' := 14) h em24_13 (by decide +kernel) rfl
  replace h := tx_istore (p' := 16) h em24_14 rfl
  replace h : eT xq_24 _ 16 [some (.inr (.inl (some 52))), some (.inr (.inl (some 28))), some (.inl v), some (.inl l), some (.inl (((v * (8 : Int32)) + l) * (5 : Int32))), some (.inl (0 : Int32)), some (.inl (0 : Int32)), none, none] [] μ r μ' := h
  exact loop _ 0 _ _ _ [] h (by decide) (Nat.zero_le _) gO_rf (by decide) (fun i hi => absurd hi (Nat.not_lt_zero i)) (Nat.le_refl _) (fun i j _ hj => absurd hj (Nat.not_lt_zero j)) (fun x => ⟨fun q => absurd q List.not_mem_nil, fun q => absurd q.1 (Nat.not_lt_zero x)⟩)
