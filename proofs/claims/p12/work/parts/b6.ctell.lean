/-- what a telling may change at all -/
def gE (μ μ' : xM) : Prop := (∀ k j, ¬ (12 ≤ k ∧ k ≤ 22) → k ≠ 27 → μ'.1 k j = μ.1 k j) ∧ μ'.2 = μ.2
theorem gE_rf {μ : xM} : gE μ μ := ⟨fun _ _ _ _ => rfl, rfl⟩
theorem gE_tr {μ ν μ' : xM} (h1 : gE μ ν) (h2 : gE ν μ') : gE μ μ' := ⟨fun k j a b => (h2.1 k j a b).trans (h1.1 k j a b), h2.2.trans h1.2⟩
theorem gE_p {μ ν : xM} (h : pE μ ν) : gE μ ν := ⟨fun k j a _ => h.1 k j (by omega) (by omega) (by omega) (by omega), h.2.2.2⟩
theorem gE_l {μ ν : xM} (h : lE μ ν) : gE μ ν := ⟨fun k j a _ => h.1 k j (by omega) (by omega) (by omega) (by omega) (by omega), h.2.2.2⟩
theorem gE_n {μ ν : xM} (h : nE μ ν) : gE μ ν := ⟨fun k j a _ => h.1 k j (by omega), h.2.2⟩
theorem gE_i {μ ν : xM} {k j : Nat} {v : Int32} (h : gE μ ν) (hk : 12 ≤ k ∧ k ≤ 22) : gE μ (xpi ν k j v) := ⟨fun c i a b => (xpi_ne (fun q => by omega)).trans (h.1 c i a b), h.2⟩
theorem gE_K {μ ν : xM} (h : gE μ ν) : cK ν = cK μ := by funext a; unfold cK; rw [h.1 24 _ (by decide) (by decide)]
theorem gE_P {μ ν : xM} (h : gE μ ν) : cP ν = cP μ := by funext a; unfold cP; rw [h.1 25 _ (by decide) (by decide)]
theorem gE_S {μ ν : xM} (h : gE μ ν) : cS ν = cS μ := by funext a; unfold cS; rw [h.1 26 _ (by decide) (by decide)]
theorem gE_B {μ ν : xM} (h : gE μ ν) : cB ν = cB μ := by funext a i; unfold cB; rw [gE_P h, h.1 1 _ (by decide) (by decide)]
theorem gE_M {μ ν : xM} (h : gE μ ν) : cM ν = cM μ := by unfold cM; rw [gE_S h, gE_B h]
theorem gE_L {μ ν : xM} (h : gE μ ν) : cL ν = cL μ := by unfold cL; rw [gE_S h, gE_B h]
theorem gE_D {μ ν : xM} (h : gE μ ν) {p : Nat} : ∀ k, cDg ν p k = cDg μ p k
  | 0 => rfl
  | k + 1 => by unfold cDg; rw [gE_D h k, h.1 1 _ (by decide) (by decide)]
theorem gE_V {μ ν : xM} (h : gE μ ν) : cV ν = cV μ := by funext a; unfold cV; rw [gE_P h, gE_S h, gE_D h]
theorem gE_TV {μ ν : xM} {E : Int} (h : gE μ ν) (ht : cTV μ E) : cTV ν E := by
  unfold cTV
  rw [gE_K h, gE_P h, gE_S h]
  have e : ∀ j, ν.1 1 j = μ.1 1 j := fun j => h.1 1 j (by decide) (by decide)
  simp only [e]
  exact ht
def cH (μ : xM) : Int := (μ.1 13 0).toInt
def cU (μ : xM) : Int := (μ.1 13 1).toInt
noncomputable def cm (μ : xM) (i j : Int) : Bool := bl2 (cM μ i j)
noncomputable def cl (μ : xM) (a : Int) : Bool := bl2 (cL μ a)
/-- counts and names as they stand between tellings -/
def nmI (E : Int) (μ : xM) : Prop := (0 ≤ cH μ ∧ cH μ ≤ 5) ∧ (0 ≤ cU μ ∧ cU μ ≤ 7) ∧ (μ.1 12 9).toInt = cH μ + cU μ ∧ ∀ i : Nat, i < cNn μ → 0 ≤ (μ.1 27 i).toInt ∧ (μ.1 27 i).toInt ≤ E ∧ cK μ (μ.1 27 i).toInt = 2
/-- a telling, as the account says -/
def oT (e : Int) (μ μ' : xM) : Prop := gE μ μ' ∧ tO e (pTell (cK μ) (cH μ) (cU μ) (cA μ)) μ μ' ∧ ((pTell (cK μ) (cH μ) (cU μ) (cA μ)).2 = 0 → nmI e μ' ∧ cW μ' = pLater (cK μ) (cP μ) (cm μ) (cl μ) (cV μ) (cN μ) (cA μ) (cW μ) ∧ cH μ' = (if cK μ (cA μ) = 128 then cH μ + 1 else cH μ) ∧ cU μ' = (if cK μ (cA μ) = 129 then cU μ + 1 else cU μ) ∧ cN μ' = (if cK μ (cA μ) = 128 ∨ cK μ (cA μ) = 129 then cN μ ++ [cA μ + 1] else cN μ))
theorem oT_f {e p f : Int} {μ μ' : xM} (hg : gE μ μ') (ht : pTell (cK μ) (cH μ) (cU μ) (cA μ) = (p, f)) (hf : ¬ f = 0) (h4 : (μ'.1 12 4).toInt = f) (h5 : (μ'.1 12 5).toInt = cP μ p) : oT e μ μ' := by
  refine ⟨hg, Or.inr ?_, fun q => absurd q ?_⟩
  · rw [ht]; exact ⟨hf, h4, h5⟩
  · rw [ht]; exact hf
theorem oT_s {e b : Int} {μ μ' : xM} (hg : gE μ μ') (ht : pTell (cK μ) (cH μ) (cU μ) (cA μ) = (b, 0)) (h1 : cA μ < cA μ') (h2 : cA μ' ≤ e) (h3 : cA μ' = b) (h4 : μ'.1 12 4 = μ.1 12 4) (h5 : μ'.1 12 5 = μ.1 12 5) (hn : nmI e μ' ∧ cW μ' = pLater (cK μ) (cP μ) (cm μ) (cl μ) (cV μ) (cN μ) (cA μ) (cW μ) ∧ cH μ' = (if cK μ (cA μ) = 128 then cH μ + 1 else cH μ) ∧ cU μ' = (if cK μ (cA μ) = 129 then cU μ + 1 else cU μ) ∧ cN μ' = (if cK μ (cA μ) = 128 ∨ cK μ (cA μ) = 129 then cN μ ++ [cA μ + 1] else cN μ)) : oT e μ μ' := by
  refine ⟨hg, Or.inl ?_, fun _ => hn⟩
  rw [ht]
  exact ⟨rfl, h1, h2, h3, h4, h5⟩
theorem pTell_hf {K : Int → Int} {h v a : Int} (hk : K a = 128) (hh : 5 ≤ h) : pTell K h v a = (a, 2) := by unfold pTell; rw [if_pos hk, if_pos hh]
theorem pTell_h {K : Int → Int} {h v a : Int} (hk : K a = 128) (hh : ¬ 5 ≤ h) : pTell K h v a = pSeq (pAcc K 128) (pSeq (pAcc K 2) (pSeq (pAcc K 2) (pAcc K 59))) a := by unfold pTell; rw [if_pos hk, if_neg hh]
theorem pTell_vf {K : Int → Int} {h v a : Int} (hk : K a = 129) (hh : 7 ≤ v) : pTell K h v a = (a, 2) := by unfold pTell; rw [if_neg (by omega), if_pos hk, if_pos hh]
theorem pTell_v {K : Int → Int} {h v a : Int} (hk : K a = 129) (hh : ¬ 7 ≤ v) : pTell K h v a = pSeq (pAcc K 129) (pSeq (pAcc K 2) (pSeq (pAcc K 2) (pSeq (pAcc K 3) (pSeq (pAcc K 3) (pAcc K 59))))) a := by unfold pTell; rw [if_neg (by omega), if_pos hk, if_neg hh]
theorem pTell_l {K : Int → Int} {h v a : Int} (hk : 130 ≤ K a ∧ K a ≤ 133) : pTell K h v a = pSeq (pAcc K (K a)) (pSeq (pAcc K 61) (wLaw K 4)) a := by unfold pTell; rw [if_neg (by omega), if_neg (by omega), if_pos hk]
theorem pTell_n {K : Int → Int} {h v a : Int} (hk : 134 ≤ K a ∧ K a ≤ 136) : pTell K h v a = pSeq (pAcc K (K a)) (pSeq (pAcc K 3) (pAcc K 59)) a := by unfold pTell; rw [if_neg (by omega), if_neg (by omega), if_neg (by omega), if_pos hk]
theorem pTell_e {K : Int → Int} {h v a : Int} (hk : K a < 128 ∨ 136 < K a) : pTell K h v a = (a, 1) := by unfold pTell; rw [if_neg (by omega), if_neg (by omega), if_neg (by omega), if_neg (by omega)]
theorem pAcc_v {K : Int → Int} {k a b : Int} (h : pAcc K k a = (b, 0)) : K a = k ∧ b = a + 1 := by
  unfold pAcc at h
  by_cases h1 : K a = k
  · rw [if_pos h1] at h
    by_cases h2 : a = 400
    · rw [if_pos h2] at h
      exact absurd (congrArg Prod.snd h) (by show ¬ (2 : Int) = 0; decide)
    · rw [if_neg h2] at h
      exact ⟨h1, (congrArg Prod.fst h).symm⟩
  · rw [if_neg h1] at h
    exact absurd (congrArg Prod.snd h) (by show ¬ (1 : Int) = 0; decide)
theorem bl2_e {p : Prop} {b : Bool} (h : p ↔ b = true) : bl2 p = b := by
  rw [Bool.eq_iff_iff, bl2_t]
  exact h
theorem bl2_not {p : Prop} : bl2 (¬ p) = !bl2 p := by
  refine bl2_e ?_
  rw [Bool.not_eq_true', bl2_f]
theorem cN_any {μ : xM} {t : Int} : bl2 (∃ i : Nat, i < cNn μ ∧ cM μ (μ.1 27 i).toInt t) = (cN μ).any (fun i => cm μ i t) := by
  refine bl2_e ?_
  rw [List.any_eq_true]
  constructor
  · intro ⟨i, h1, h2⟩
    exact ⟨_, List.mem_map.mpr ⟨i, List.mem_range.mpr h1, rfl⟩, bl2_t.mpr h2⟩
  · intro ⟨x, h1, h2⟩
    obtain ⟨i, h3, rfl⟩ := List.mem_map.mp h1
    exact ⟨i, List.mem_range.mp h3, bl2_t.mp h2⟩
/-- a number told: what its note does -/
theorem int_ok {t lo hi : Int32} {μ μ' : xM} {r : Option zV} (h0 : Ex gx xq_11 [.inr (.inl (some 12)), .inl t, .inl lo, .inl hi] μ r μ') {E : Int} (ht : cTV μ E) (ht0 : 0 ≤ t.toInt) (ht1 : t.toInt ≤ E) (hk : cK μ t.toInt = 3) : ∃ v : Int32, r = some (.inl v) ∧ nE μ μ' ∧ cW μ' = pNote 5 (cP μ t.toInt) (decide (cV μ t.toInt < lo.toInt ∨ hi.toInt < cV μ t.toInt)) (cW μ) := by
  obtain ⟨v, h1, h2, ⟨h3, h4, rfl⟩ | ⟨h3, rfl⟩⟩ := ex_intOf h0 ht ht0 ht1 hk
  · refine ⟨v, h1, ⟨fun k j hk => ?_, fun j a c => ?_, rfl⟩, ?_⟩
    · rw [xpi_ne (fun q => hk q.1), xpi_ne (fun q => hk q.1)]
    · rw [xpi_ne (fun q => c q.2), xpi_ne (fun q => a q.2)]
    · unfold pNote
      rw [← h2, if_pos ⟨decide_eq_true h3, h4⟩]
      rfl
  · refine ⟨v, h1, nE_rf, ?_⟩
    unfold pNote
    rw [if_neg]
    intro ⟨q1, q2⟩
    rw [← h2] at q1
    rcases h3 with h3 | h3
    · exact h3 (of_decide_eq_true q1)
    · exact h3 q2
theorem cV0 {μ : xM} {E a : Int} (ht : cTV μ E) (h0 : 0 ≤ a) (h1 : a ≤ E) (hk : cK μ a = 3) : 0 ≤ cV μ a := by
  obtain ⟨-, h2, -⟩ := ht.2.2 a h0 h1
  obtain ⟨h3, h4, h5⟩ := h2 hk
  exact (cDg_b (fun i hi => h5 i (by omega))).1
/-- only places, faults, notes and what is told were changed: counts and names stand -/
theorem nmI_cg {E : Int} {μ ν : xM} (hg : gE μ ν) (h0 : ν.1 13 0 = μ.1 13 0) (h1 : ν.1 13 1 = μ.1 13 1) (h9 : ν.1 12 9 = μ.1 12 9) (h27 : ∀ j, ν.1 27 j = μ.1 27 j) (h : nmI E μ) : nmI E ν := by
  unfold nmI cNn cH cU at *
  rw [gE_K hg, h0, h1, h9]
  simp only [h27]
  exact h
theorem cN_cg {μ ν : xM} (h9 : ν.1 12 9 = μ.1 12 9) (h27 : ∀ j, ν.1 27 j = μ.1 27 j) : cN ν = cN μ := by
  unfold cN cNn
  rw [h9]
  simp only [h27]
/-- a name told -/
theorem name_ok {t : Int32} {μ μ' : xM} {r : Option zV} {E : Int} (h0 : Ex gx xq_15 [.inr (.inl (some 12)), .inl t] μ r μ') (ht : cTV μ E) (ht0 : 0 ≤ t.toInt) (ht1 : t.toInt ≤ E) (hk : cK μ t.toInt = 2) (hn : nmI E μ) (h11 : cH μ + cU μ ≤ 11) : r = none ∧ gE μ μ' ∧ (∀ j, j ≠ 6 → j ≠ 7 → j ≠ 9 → μ'.1 12 j = μ.1 12 j) ∧ (∀ j, μ'.1 13 j = μ.1 13 j) ∧ cW μ' = pNote 3 (cP μ t.toInt) ((cN μ).any (fun i => cm μ i t.toInt)) (cW μ) ∧ cN μ' = cN μ ++ [t.toInt] ∧ (μ'.1 12 9).toInt = (μ.1 12 9).toInt + 1 ∧ ∀ i : Nat, i < cNn μ' → 0 ≤ (μ'.1 27 i).toInt ∧ (μ'.1 27 i).toInt ≤ E ∧ cK μ (μ'.1 27 i).toInt = 2 := by
  obtain ⟨⟨a1, a2⟩, ⟨a3, a4⟩, a5, a6⟩ := hn
  obtain ⟨h1, h2, h3, h4, h5, h6, h7, h8⟩ := ex_noteName h0 ht ht0 ht1 hk a6 (by omega) (by omega)
  have en : cNn μ' = cNn μ + 1 := by unfold cNn; omega
  refine ⟨h1, ⟨fun k j a b => h2 k j (by omega) b, h4⟩, h3, fun j => h2 13 j (by decide) (by decide), ?_, ?_, by omega, fun i hi => ?_⟩
  · rw [h5, cN_any]
  · unfold cN
    rw [en, List.range_succ, List.map_append]
    have e1 : (List.range (cNn μ)).map (fun i => (μ'.1 27 i).toInt) = (List.range (cNn μ)).map (fun i => (μ.1 27 i).toInt) := List.map_congr_left (fun i hi => by rw [h7 i (List.mem_range.mp hi)])
    rw [e1, List.map_cons, List.map_nil, h8]
  · by_cases e : i < cNn μ
    · rw [h7 i e]; exact a6 i e
    · rw [show i = cNn μ by omega, h8]; exact ⟨ht0, ht1, hk⟩
abbrev xq_19 : xP := (⟨"CapitalCase$Parser", "parseNumber", "(I)V"⟩, prog_4_method_9_code, 3, none)
abbrev xq_17 : xP := (⟨"CapitalCase$Parser", "parseHouse", "()V"⟩, prog_4_method_7_code, 4, none)
abbrev xq_20 : xP := (⟨"CapitalCase$Parser", "parseVerse", "()V"⟩, prog_4_method_8_code, 5, none)
theorem cV9 {μ : xM} {E a : Int} (ht : cTV μ E) (h0 : 0 ≤ a) (h1 : a ≤ E) (hk : cK μ a = 3) : cV μ a ≤ 9999 := by
  obtain ⟨-, h2, -⟩ := ht.2.2 a h0 h1
  obtain ⟨h3, h4, h5⟩ := h2 hk
  have h6 := (cDg_b (μ := μ) (p := (cP μ a).toNat) (k := (cS μ a).toNat) (fun i hi => h5 i (by omega))).2
  have h10 : (10 : Int) ^ (cS μ a).toNat ≤ 10000 := by
    have : (cS μ a).toNat = 1 ∨ (cS μ a).toNat = 2 ∨ (cS μ a).toNat = 3 ∨ (cS μ a).toNat = 4 := by omega
    rcases this with e | e | e | e <;> rw [e] <;> decide
  unfold cV
  omega
set_option maxRecDepth 10000 in
set_option maxHeartbeats 4000000 in
theorem ex_number {k : Int32} {e : Int} {μ μ' : xM} {r : Option zV} (h0 : Ex gx xq_19 [.inr (.inl (some 12)), .inl k] μ r μ') (ha0 : 0 ≤ cA μ) (ha : cA μ ≤ e) (ht : cTV μ e) (hn : nmI e μ) (hk : k.toInt = cK μ (cA μ)) (h134 : 134 ≤ k.toInt ∧ k.toInt ≤ 136) : r = none ∧ oT e μ μ' := by
  obtain ⟨n, h⟩ := tx_in (L := [some (.inr (.inl (some 12))), some (.inl k), none]) h0 rfl
  have hG0 : pE μ μ := pE_rf
  have hT0 := ht
  have h400 := ht.1
  have e1i : (1 : Int32).toInt = 1 := by decide
  have e2i : (2 : Int32).toInt = 2 := by decide
  have e3i : (3 : Int32).toInt = 3 := by decide
  have e4i : (4 : Int32).toInt = 4 := by decide
  replace h := tx_aload_n (p' := 1) h em19_0 rfl rfl
  replace h := tx_getf (c := 2) (j := 3) (p' := 4) h em19_1 ((congrFun xo_3 40).trans rfl) rfl rfl (by decide) rfl
  replace h := tx_istore_n (p' := 5) h em19_4 rfl
  replace h : eT xq_19 _ 5 [some (.inr (.inl (some 12))), some (.inl k), some (.inl (μ.1 12 3))] [] μ r μ' := h
  replace h := tx_aload_n (p' := 6) h em19_5 rfl rfl
  replace h := tx_iload_n (p' := 7) h em19_6 rfl rfl
  obtain ⟨r7, μ7, hE7, h⟩ := tx_invV (na := 2) (mn := 9) (as := [.inr (.inl (some 12)), .inl k]) (rest := []) (p' := 10) h em19_7 ((congrFun xo_3 89).trans rfl) xm_9 rfl rfl
  obtain ⟨hg7, ⟨rfl, a7l, a7e, a7x, a74, a75⟩ | ⟨rfl, p7, f7, a7x, a7f, a74, a75⟩⟩ := st_acc (e := e) (k0 := (cK μ (cA μ))) hE7 (by omega) (by omega) hT0 hk (by omega)
  · have hG7 := pE_tr hG0 hg7
    have hT7 := pE_TV hG7 ht
    replace h : eT xq_19 _ 10 [some (.inr (.inl (some 12))), some (.inl k), some (.inl (μ.1 12 3))] [.inl (1 : Int32)] μ7 r μ' := h
    rcases tx_if (t := 30) (p' := 13) h em19_10 (by decide) rfl with ⟨c10, h⟩ | ⟨c10, h⟩
    · replace c10 : (1 : Int) = (0 : Int) := c10
      exfalso
      omega
    · replace c10 : ¬ (1 : Int) = (0 : Int) := c10
      replace h := tx_aload_n (p' := 14) h em19_13 rfl rfl
      replace h := tx_iconst (v := 3) (p' := 15) h em19_14 (by decide +kernel) rfl
      obtain ⟨r15, μ15, hE15, h⟩ := tx_invV (na := 2) (mn := 9) (as := [.inr (.inl (some 12)), .inl (3 : Int32)]) (rest := []) (p' := 18) h em19_15 ((congrFun xo_3 89).trans rfl) xm_9 rfl rfl
      obtain ⟨hg15, ⟨rfl, a15l, a15e, a15x, a154, a155⟩ | ⟨rfl, p15, f15, a15x, a15f, a154, a155⟩⟩ := st_acc (e := e) (k0 := 3) hE15 (by omega) (by omega) hT7 (by decide) (by decide)
      · have hG15 := pE_tr hG7 hg15
        have hT15 := pE_TV hG15 ht
        rw [pE_Kf hG7] at a15x
        replace h : eT xq_19 _ 18 [some (.inr (.inl (some 12))), some (.inl k), some (.inl (μ.1 12 3))] [.inl (1 : Int32)] μ15 r μ' := h
        rcases tx_if (t := 30) (p' := 21) h em19_18 (by decide) rfl with ⟨c18, h⟩ | ⟨c18, h⟩
        · replace c18 : (1 : Int) = (0 : Int) := c18
          exfalso
          omega
        · replace c18 : ¬ (1 : Int) = (0 : Int) := c18
          replace h := tx_aload_n (p' := 22) h em19_21 rfl rfl
          replace h := tx_bipush (v := 59) (p' := 24) h em19_22 (by decide +kernel) rfl
          obtain ⟨r24, μ24, hE24, h⟩ := tx_invV (na := 2) (mn := 9) (as := [.inr (.inl (some 12)), .inl (59 : Int32)]) (rest := []) (p' := 27) h em19_24 ((congrFun xo_3 89).trans rfl) xm_9 rfl rfl
          obtain ⟨hg24, ⟨rfl, a24l, a24e, a24x, a244, a245⟩ | ⟨rfl, p24, f24, a24x, a24f, a244, a245⟩⟩ := st_acc (e := e) (k0 := 59) hE24 (by omega) (by omega) hT15 (by decide) (by decide)
          · have hG24 := pE_tr hG15 hg24
            have hT24 := pE_TV hG24 ht
            rw [pE_Kf hG15] at a24x
            replace h : eT xq_19 _ 27 [some (.inr (.inl (some 12))), some (.inl k), some (.inl (μ.1 12 3))] [.inl (1 : Int32)] μ24 r μ' := h
            rcases tx_if (t := 31) (p' := 30) h em19_27 (by decide) rfl with ⟨c27, h⟩ | ⟨c27, h⟩
            · replace c27 : ¬ (1 : Int) = (0 : Int) := c27
              replace h := tx_iload_n (p' := 32) h em19_31 rfl rfl
              replace h := tx_sipush (v := 134) (p' := 35) h em19_32 (by decide +kernel) rfl
              rcases tx_icmp (t := 58) (p' := 38) h em19_35 (by decide) rfl with ⟨c35, h⟩ | ⟨c35, h⟩
              · replace c35 : ¬ k.toInt = 134 := c35
                replace h := tx_iload_n (p' := 59) h em19_58 rfl rfl
                replace h := tx_sipush (v := 135) (p' := 62) h em19_59 (by decide +kernel) rfl
                rcases tx_icmp (t := 85) (p' := 65) h em19_62 (by decide) rfl with ⟨c62, h⟩ | ⟨c62, h⟩
                · replace c62 : ¬ k.toInt = 135 := c62
                  replace h := tx_aload_n (p' := 86) h em19_85 rfl rfl
                  replace h := tx_getc (c := 2) (j := 0) (p' := 89) h em19_86 ((congrFun xo_3 12).trans rfl) rfl rfl rfl
                  replace h := tx_aload_n (p' := 90) h em19_89 rfl rfl
                  replace h := tx_iload_n (p' := 91) h em19_90 rfl rfl
                  replace h := tx_iconst (v := 1) (p' := 92) h em19_91 (by decide +kernel) rfl
                  replace h := tx_iadd (p' := 93) h em19_92 rfl
                  replace h := tx_iconst (v := 0) (p' := 94) h em19_93 (by decide +kernel) rfl
                  replace h := tx_sipush (v := 9999) (p' := 97) h em19_94 (by decide +kernel) rfl
                  obtain ⟨r97, μ97, hE97, h⟩ := tx_invV (na := 4) (mn := 11) (as := [.inr (.inl (some 12)), .inl ((μ.1 12 3) + (1 : Int32)), .inl (0 : Int32), .inl (9999 : Int32)]) (rest := [.inr (.inl (some 13))]) (p' := 100) h em19_97 ((congrFun xo_3 118).trans rfl) xm_11 rfl rfl
                  obtain ⟨k7, e7⟩ := pAcc_v a7x
                  obtain ⟨k15, e15⟩ := pAcc_v a15x
                  obtain ⟨k24, e24⟩ := pAcc_v a24x
                  have o1 : ((μ.1 12 3) + 1).toInt = cA μ + 1 := by unfold cA at *; rw [an_add (by rw [e1i]; omega) (by rw [e1i]; omega), e1i]
                  have hk3 : cK μ (cA μ + 1) = 3 := by rw [← e7]; exact k15
                  obtain ⟨iv, rfl, hgi, hwi⟩ := int_ok hE97 hT24 (by omega) (by omega) (by rw [pE_Kf hG24, o1]; exact hk3)
                  rw [pE_P hG24, gE_V (gE_p hG24), o1] at hwi
                  replace h : eT xq_19 _ 100 [some (.inr (.inl (some 12))), some (.inl k), some (.inl (μ.1 12 3))] [.inl iv, .inr (.inl (some 13))] μ97 r μ' := h
                  replace h := tx_putf (a := 13) (c := 6) (j := 3) (p' := 103) h em19_100 ((congrFun xo_3 140).trans rfl) rfl
                  obtain ⟨rfl, hμ⟩ := tx_return h em19_103
                  refine ⟨rfl, ?_⟩
                  subst hμ
                  have hgg : gE μ μ97 := gE_tr (gE_p hG24) (gE_n hgi)
                  have hkk : ∀ j, j ≠ 3 → j ≠ 4 → j ≠ 5 → j ≠ 6 → j ≠ 7 → μ97.1 12 j = μ.1 12 j := fun j a b c d f => (hgi.2.1 j d f).trans (hG24.2.1 j a b c)
                  have hw0 : cW μ24 = cW μ := by unfold cW; rw [hG24.2.1 6 (by decide) (by decide) (by decide), hG24.2.1 7 (by decide) (by decide) (by decide)]
                  have h13 : ∀ j, j ≠ 14 → μ97.1 13 j = μ.1 13 j := fun j a => (hgi.1 13 j (by decide)).trans (hG24.2.2.1 j a)
                  have h27 : ∀ j, μ97.1 27 j = μ.1 27 j := fun j => (hgi.1 27 j (by decide)).trans (hG24.1 27 j (by decide) (by decide) (by decide) (by decide))
                  have hca : cA ((xpi μ97 13 3 iv)) = cA μ24 := by unfold cA; rw [xpi_ne (fun q => absurd q.1 (by decide)), hgi.2.1 3 (by decide) (by decide)]
                  refine oT_s (gE_i hgg (by decide)) ((pTell_n (by omega)).trans (((pSeq_y a7x).trans (pSeq_y a15x)).trans (a24x))) (by omega) (by omega) hca ?_ ?_ ⟨?_, ?_, ?_, ?_, ?_⟩
                  · rw [xpi_ne (fun q => absurd q.1 (by decide)), hgi.2.1 4 (by decide) (by decide)]
                    rw [a244, a154, a74]
                  · rw [xpi_ne (fun q => absurd q.1 (by decide)), hgi.2.1 5 (by decide) (by decide)]
                    rw [a245, a155, a75]
                  · exact nmI_cg (gE_i hgg (by decide)) ((xpi_ne (fun q => absurd q.2 (by decide))).trans (h13 0 (by decide))) ((xpi_ne (fun q => absurd q.2 (by decide))).trans (h13 1 (by decide))) ((xpi_ne (fun q => absurd q.1 (by decide))).trans (hkk 9 (by decide) (by decide) (by decide) (by decide) (by decide))) (fun j => (xpi_ne (fun q => absurd q.1 (by decide))).trans (h27 j)) hn
                  · show cW μ97 = _
                    rw [hwi, hw0]
                    unfold pLater
                    rw [if_neg (by omega), if_neg (by omega), if_neg (by omega), if_neg (by omega)]
                    unfold pNote
                    rw [if_neg]
                    intro ⟨q1, _⟩
                    have h0v := cV0 ht (by omega) (by omega) hk3
                    have h9v := cV9 ht (by omega) (by omega) hk3
                    rcases of_decide_eq_true q1 with q | q
                    · exact absurd q (by show ¬ _ < (0 : Int); omega)
                    · exact absurd q (by show ¬ (9999 : Int) < _; omega)
                  · rw [if_neg (by omega)]
                    unfold cH
                    rw [xpi_ne (fun q => absurd q.2 (by decide)), h13 0 (by decide)]
                  · rw [if_neg (by omega)]
                    unfold cU
                    rw [xpi_ne (fun q => absurd q.2 (by decide)), h13 1 (by decide)]
                  · rw [if_neg (by omega)]
                    exact cN_cg ((xpi_ne (fun q => absurd q.1 (by decide))).trans (hkk 9 (by decide) (by decide) (by decide) (by decide) (by decide))) (fun j => (xpi_ne (fun q => absurd q.1 (by decide))).trans (h27 j))
                · replace c62 : ¬ ¬ k.toInt = 135 := c62
                  replace h := tx_aload_n (p' := 66) h em19_65 rfl rfl
                  replace h := tx_getc (c := 2) (j := 0) (p' := 69) h em19_66 ((congrFun xo_3 12).trans rfl) rfl rfl rfl
                  replace h := tx_aload_n (p' := 70) h em19_69 rfl rfl
                  replace h := tx_iload_n (p' := 71) h em19_70 rfl rfl
                  replace h := tx_iconst (v := 1) (p' := 72) h em19_71 (by decide +kernel) rfl
                  replace h := tx_iadd (p' := 73) h em19_72 rfl
                  replace h := tx_iconst (v := 0) (p' := 74) h em19_73 (by decide +kernel) rfl
                  replace h := tx_bipush (v := 100) (p' := 76) h em19_74 (by decide +kernel) rfl
                  obtain ⟨r76, μ76, hE76, h⟩ := tx_invV (na := 4) (mn := 11) (as := [.inr (.inl (some 12)), .inl ((μ.1 12 3) + (1 : Int32)), .inl (0 : Int32), .inl (100 : Int32)]) (rest := [.inr (.inl (some 13))]) (p' := 79) h em19_76 ((congrFun xo_3 118).trans rfl) xm_11 rfl rfl
                  obtain ⟨k7, e7⟩ := pAcc_v a7x
                  obtain ⟨k15, e15⟩ := pAcc_v a15x
                  obtain ⟨k24, e24⟩ := pAcc_v a24x
                  have o1 : ((μ.1 12 3) + 1).toInt = cA μ + 1 := by unfold cA at *; rw [an_add (by rw [e1i]; omega) (by rw [e1i]; omega), e1i]
                  have hk3 : cK μ (cA μ + 1) = 3 := by rw [← e7]; exact k15
                  obtain ⟨iv, rfl, hgi, hwi⟩ := int_ok hE76 hT24 (by omega) (by omega) (by rw [pE_Kf hG24, o1]; exact hk3)
                  rw [pE_P hG24, gE_V (gE_p hG24), o1] at hwi
                  replace h : eT xq_19 _ 79 [some (.inr (.inl (some 12))), some (.inl k), some (.inl (μ.1 12 3))] [.inl iv, .inr (.inl (some 13))] μ76 r μ' := h
                  replace h := tx_putf (a := 13) (c := 6) (j := 2) (p' := 82) h em19_79 ((congrFun xo_3 137).trans rfl) rfl
                  replace h := tx_goto (t := 103) h em19_82 (by decide)
                  obtain ⟨rfl, hμ⟩ := tx_return h em19_103
                  refine ⟨rfl, ?_⟩
                  subst hμ
                  have hgg : gE μ μ76 := gE_tr (gE_p hG24) (gE_n hgi)
                  have hkk : ∀ j, j ≠ 3 → j ≠ 4 → j ≠ 5 → j ≠ 6 → j ≠ 7 → μ76.1 12 j = μ.1 12 j := fun j a b c d f => (hgi.2.1 j d f).trans (hG24.2.1 j a b c)
                  have hw0 : cW μ24 = cW μ := by unfold cW; rw [hG24.2.1 6 (by decide) (by decide) (by decide), hG24.2.1 7 (by decide) (by decide) (by decide)]
                  have h13 : ∀ j, j ≠ 14 → μ76.1 13 j = μ.1 13 j := fun j a => (hgi.1 13 j (by decide)).trans (hG24.2.2.1 j a)
                  have h27 : ∀ j, μ76.1 27 j = μ.1 27 j := fun j => (hgi.1 27 j (by decide)).trans (hG24.1 27 j (by decide) (by decide) (by decide) (by decide))
                  have hca : cA ((xpi μ76 13 2 iv)) = cA μ24 := by unfold cA; rw [xpi_ne (fun q => absurd q.1 (by decide)), hgi.2.1 3 (by decide) (by decide)]
                  refine oT_s (gE_i hgg (by decide)) ((pTell_n (by omega)).trans (((pSeq_y a7x).trans (pSeq_y a15x)).trans (a24x))) (by omega) (by omega) hca ?_ ?_ ⟨?_, ?_, ?_, ?_, ?_⟩
                  · rw [xpi_ne (fun q => absurd q.1 (by decide)), hgi.2.1 4 (by decide) (by decide)]
                    rw [a244, a154, a74]
                  · rw [xpi_ne (fun q => absurd q.1 (by decide)), hgi.2.1 5 (by decide) (by decide)]
                    rw [a245, a155, a75]
                  · exact nmI_cg (gE_i hgg (by decide)) ((xpi_ne (fun q => absurd q.2 (by decide))).trans (h13 0 (by decide))) ((xpi_ne (fun q => absurd q.2 (by decide))).trans (h13 1 (by decide))) ((xpi_ne (fun q => absurd q.1 (by decide))).trans (hkk 9 (by decide) (by decide) (by decide) (by decide) (by decide))) (fun j => (xpi_ne (fun q => absurd q.1 (by decide))).trans (h27 j)) hn
                  · show cW μ76 = _
                    rw [hwi, hw0]
                    unfold pLater
                    rw [if_neg (by omega), if_neg (by omega), if_neg (by omega), if_pos (by omega)]
                    have h0v := cV0 ht (by omega) (by omega) hk3
                    unfold pNote
                    have ed : (decide (cV μ (cA μ + 1) < (0 : Int32).toInt ∨ (100 : Int32).toInt < cV μ (cA μ + 1))) = decide (100 < cV μ (cA μ + 1)) := decide_eq_decide.mpr ⟨fun q => q.elim (fun q => absurd q (by show ¬ _ < (0 : Int); omega)) id, Or.inr⟩
                    rw [ed]
                  · rw [if_neg (by omega)]
                    unfold cH
                    rw [xpi_ne (fun q => absurd q.2 (by decide)), h13 0 (by decide)]
                  · rw [if_neg (by omega)]
                    unfold cU
                    rw [xpi_ne (fun q => absurd q.2 (by decide)), h13 1 (by decide)]
                  · rw [if_neg (by omega)]
                    exact cN_cg ((xpi_ne (fun q => absurd q.1 (by decide))).trans (hkk 9 (by decide) (by decide) (by decide) (by decide) (by decide))) (fun j => (xpi_ne (fun q => absurd q.1 (by decide))).trans (h27 j))
              · replace c35 : ¬ ¬ k.toInt = 134 := c35
                replace h := tx_aload_n (p' := 39) h em19_38 rfl rfl
                replace h := tx_getc (c := 2) (j := 0) (p' := 42) h em19_39 ((congrFun xo_3 12).trans rfl) rfl rfl rfl
                replace h := tx_aload_n (p' := 43) h em19_42 rfl rfl
                replace h := tx_iload_n (p' := 44) h em19_43 rfl rfl
                replace h := tx_iconst (v := 1) (p' := 45) h em19_44 (by decide +kernel) rfl
                replace h := tx_iadd (p' := 46) h em19_45 rfl
                replace h := tx_iconst (v := 1) (p' := 47) h em19_46 (by decide +kernel) rfl
                replace h := tx_bipush (v := 99) (p' := 49) h em19_47 (by decide +kernel) rfl
                obtain ⟨r49, μ49, hE49, h⟩ := tx_invV (na := 4) (mn := 11) (as := [.inr (.inl (some 12)), .inl ((μ.1 12 3) + (1 : Int32)), .inl (1 : Int32), .inl (99 : Int32)]) (rest := [.inr (.inl (some 13))]) (p' := 52) h em19_49 ((congrFun xo_3 118).trans rfl) xm_11 rfl rfl
                obtain ⟨k7, e7⟩ := pAcc_v a7x
                obtain ⟨k15, e15⟩ := pAcc_v a15x
                obtain ⟨k24, e24⟩ := pAcc_v a24x
                have o1 : ((μ.1 12 3) + 1).toInt = cA μ + 1 := by unfold cA at *; rw [an_add (by rw [e1i]; omega) (by rw [e1i]; omega), e1i]
                have hk3 : cK μ (cA μ + 1) = 3 := by rw [← e7]; exact k15
                obtain ⟨iv, rfl, hgi, hwi⟩ := int_ok hE49 hT24 (by omega) (by omega) (by rw [pE_Kf hG24, o1]; exact hk3)
                rw [pE_P hG24, gE_V (gE_p hG24), o1] at hwi
                replace h : eT xq_19 _ 52 [some (.inr (.inl (some 12))), some (.inl k), some (.inl (μ.1 12 3))] [.inl iv, .inr (.inl (some 13))] μ49 r μ' := h
                replace h := tx_putf (a := 13) (c := 6) (j := 4) (p' := 55) h em19_52 ((congrFun xo_3 134).trans rfl) rfl
                replace h := tx_goto (t := 103) h em19_55 (by decide)
                obtain ⟨rfl, hμ⟩ := tx_return h em19_103
                refine ⟨rfl, ?_⟩
                subst hμ
                have hgg : gE μ μ49 := gE_tr (gE_p hG24) (gE_n hgi)
                have hkk : ∀ j, j ≠ 3 → j ≠ 4 → j ≠ 5 → j ≠ 6 → j ≠ 7 → μ49.1 12 j = μ.1 12 j := fun j a b c d f => (hgi.2.1 j d f).trans (hG24.2.1 j a b c)
                have hw0 : cW μ24 = cW μ := by unfold cW; rw [hG24.2.1 6 (by decide) (by decide) (by decide), hG24.2.1 7 (by decide) (by decide) (by decide)]
                have h13 : ∀ j, j ≠ 14 → μ49.1 13 j = μ.1 13 j := fun j a => (hgi.1 13 j (by decide)).trans (hG24.2.2.1 j a)
                have h27 : ∀ j, μ49.1 27 j = μ.1 27 j := fun j => (hgi.1 27 j (by decide)).trans (hG24.1 27 j (by decide) (by decide) (by decide) (by decide))
                have hca : cA ((xpi μ49 13 4 iv)) = cA μ24 := by unfold cA; rw [xpi_ne (fun q => absurd q.1 (by decide)), hgi.2.1 3 (by decide) (by decide)]
                refine oT_s (gE_i hgg (by decide)) ((pTell_n (by omega)).trans (((pSeq_y a7x).trans (pSeq_y a15x)).trans (a24x))) (by omega) (by omega) hca ?_ ?_ ⟨?_, ?_, ?_, ?_, ?_⟩
                · rw [xpi_ne (fun q => absurd q.1 (by decide)), hgi.2.1 4 (by decide) (by decide)]
                  rw [a244, a154, a74]
                · rw [xpi_ne (fun q => absurd q.1 (by decide)), hgi.2.1 5 (by decide) (by decide)]
                  rw [a245, a155, a75]
                · exact nmI_cg (gE_i hgg (by decide)) ((xpi_ne (fun q => absurd q.2 (by decide))).trans (h13 0 (by decide))) ((xpi_ne (fun q => absurd q.2 (by decide))).trans (h13 1 (by decide))) ((xpi_ne (fun q => absurd q.1 (by decide))).trans (hkk 9 (by decide) (by decide) (by decide) (by decide) (by decide))) (fun j => (xpi_ne (fun q => absurd q.1 (by decide))).trans (h27 j)) hn
                · show cW μ49 = _
                  rw [hwi, hw0]
                  unfold pLater
                  rw [if_neg (by omega), if_neg (by omega), if_pos (by omega)]
                  rfl
                · rw [if_neg (by omega)]
                  unfold cH
                  rw [xpi_ne (fun q => absurd q.2 (by decide)), h13 0 (by decide)]
                · rw [if_neg (by omega)]
                  unfold cU
                  rw [xpi_ne (fun q => absurd q.2 (by decide)), h13 1 (by decide)]
                · rw [if_neg (by omega)]
                  exact cN_cg ((xpi_ne (fun q => absurd q.1 (by decide))).trans (hkk 9 (by decide) (by decide) (by decide) (by decide) (by decide))) (fun j => (xpi_ne (fun q => absurd q.1 (by decide))).trans (h27 j))
            · replace c27 : ¬ ¬ (1 : Int) = (0 : Int) := c27
              exfalso
              omega
          · have hG24 := pE_tr hG15 hg24
            have hT24 := pE_TV hG24 ht
            rw [pE_Kf hG15] at a24x
            rw [pE_P hG15] at a245
            replace h : eT xq_19 _ 27 [some (.inr (.inl (some 12))), some (.inl k), some (.inl (μ.1 12 3))] [.inl (0 : Int32)] μ24 r μ' := h
            rcases tx_if (t := 31) (p' := 30) h em19_27 (by decide) rfl with ⟨c27_1, h⟩ | ⟨c27_1, h⟩
            · replace c27_1 : ¬ (0 : Int) = (0 : Int) := c27_1
              exfalso
              omega
            · replace c27_1 : ¬ ¬ (0 : Int) = (0 : Int) := c27_1
              obtain ⟨rfl, hμ⟩ := tx_return h em19_30
              refine ⟨rfl, ?_⟩
              rw [hμ]
              exact oT_f (gE_p hG24) ((pTell_n (by omega)).trans (((pSeq_y a7x).trans (pSeq_y a15x)).trans (a24x))) a24f a244 a245
      · have hG15 := pE_tr hG7 hg15
        have hT15 := pE_TV hG15 ht
        rw [pE_Kf hG7] at a15x
        rw [pE_P hG7] at a155
        replace h : eT xq_19 _ 18 [some (.inr (.inl (some 12))), some (.inl k), some (.inl (μ.1 12 3))] [.inl (0 : Int32)] μ15 r μ' := h
        rcases tx_if (t := 30) (p' := 21) h em19_18 (by decide) rfl with ⟨c18_1, h⟩ | ⟨c18_1, h⟩
        · replace c18_1 : (0 : Int) = (0 : Int) := c18_1
          obtain ⟨rfl, hμ⟩ := tx_return h em19_30
          refine ⟨rfl, ?_⟩
          rw [hμ]
          exact oT_f (gE_p hG15) ((pTell_n (by omega)).trans ((pSeq_y a7x).trans (pSeq_n a15x a15f))) a15f a154 a155
        · replace c18_1 : ¬ (0 : Int) = (0 : Int) := c18_1
          exfalso
          omega
  · have hG7 := pE_tr hG0 hg7
    have hT7 := pE_TV hG7 ht
    replace h : eT xq_19 _ 10 [some (.inr (.inl (some 12))), some (.inl k), some (.inl (μ.1 12 3))] [.inl (0 : Int32)] μ7 r μ' := h
    rcases tx_if (t := 30) (p' := 13) h em19_10 (by decide) rfl with ⟨c10_1, h⟩ | ⟨c10_1, h⟩
    · replace c10_1 : (0 : Int) = (0 : Int) := c10_1
      obtain ⟨rfl, hμ⟩ := tx_return h em19_30
      refine ⟨rfl, ?_⟩
      rw [hμ]
      exact oT_f (gE_p hG7) ((pTell_n (by omega)).trans (pSeq_n a7x a7f)) a7f a74 a75
    · replace c10_1 : ¬ (0 : Int) = (0 : Int) := c10_1
      exfalso
      omega
