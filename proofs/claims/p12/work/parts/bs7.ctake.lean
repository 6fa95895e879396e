theorem pGi_b {S : kSt} (hW : kWf S) {ρ : Nat → Int32} {l v : Nat} : -1 ≤ pGi S ρ l v ∧ pGi S ρ l v ≤ 4 := by
  have h5 := hW.1
  by_cases hx : ∃ x, gvR S.1.length (fun h => pLv S ρ h l v) (fun h => pFe ρ (8 * h + l)) (fun h => pRk S ρ h l v) x
  · obtain ⟨x, h⟩ := hx
    have := gvR_b h
    rw [← pGi_eq h]
    omega
  · unfold pGi
    rw [dif_neg hx]
    omega
/-- cells that the laws look at -/
def lwC (x : Nat) : Prop := x < 40 ∨ (80 ≤ x ∧ x < 320) ∨ x = 386
theorem pVh_cg {S : kSt} {ρ ρ' : Nat → Int32} {h l v : Nat} (e : ∀ x, lwC x → ρ' x = ρ x) (hh : h ≤ 4) (hl : l ≤ 7) : pVh S ρ' h l v = pVh S ρ h l v := by
  have e5 : pLent ρ' h l = pLent ρ h l := s5_cg 5 (fun o ho => e _ (Or.inr (Or.inl ⟨by omega, by omega⟩)))
  unfold pVh
  rw [e5, e 386 (Or.inr (Or.inr rfl)), e _ (Or.inr (Or.inl ⟨by omega, by omega⟩)), e _ (Or.inl (by omega))]
theorem pLv_cg {S : kSt} {ρ ρ' : Nat → Int32} {h l v : Nat} (e : ∀ x, lwC x → ρ' x = ρ x) (hh : h ≤ 4) (hl : l ≤ 7) : pLv S ρ' h l v ↔ pLv S ρ h l v := by
  unfold pLv
  rw [pVh_cg e hh hl]
theorem pRk_cg {S : kSt} {ρ ρ' : Nat → Int32} {h l v : Nat} (e : ∀ x, lwC x → ρ' x = ρ x) (hh : h ≤ 4) (hl : l ≤ 7) : pRk S ρ' h l v = pRk S ρ h l v := by
  unfold pRk
  rw [pVh_cg e hh hl]
theorem pFe_o {ρ ρ' : Nat → Int32} {c : Nat} (h1 : ρ' c = ρ c) (h2 : ρ' (40 + c) = ρ (40 + c)) : pFe ρ' c = pFe ρ c := by unfold pFe; rw [h1, h2]
theorem pFe_p {ρ : Nat → Int32} {c : Nat} (h : ¬ pFe ρ c = 0) : pFe ρ c = ρ c - ρ (40 + c) ∧ 1 ≤ (ρ c - ρ (40 + c)).toInt := by
  unfold pFe at h ⊢
  by_cases b : (ρ c - ρ (40 + c)).toInt < 0
  · rw [if_pos b] at h; exact absurd rfl h
  · rw [if_neg b] at h ⊢
    refine ⟨rfl, ?_⟩
    have e0 : (0 : Int32).toInt = 0 := by decide
    by_cases z : (ρ c - ρ (40 + c)).toInt = 0
    · exact absurd (Int32.toInt_inj.mp (z.trans e0.symm)) h
    · omega
theorem pFe_s {ρ : Nat → Int32} {c j : Nat} {x : Int32} (hc : c < 40) (hj : 80 ≤ j) (h : ¬ pFe ρ c = 0) : pFe (pUp (pUp ρ j x) (40 + c) (ρ (40 + c) + 1)) c = pFe ρ c - 1 := by
  obtain ⟨h1, h2⟩ := pFe_p h
  have e1i : (1 : Int32).toInt = 1 := by decide
  have ec : pUp (pUp ρ j x) (40 + c) (ρ (40 + c) + 1) c = ρ c := by rw [pUp_ne (by omega), pUp_ne (by omega)]
  have eu : pUp (pUp ρ j x) (40 + c) (ρ (40 + c) + 1) (40 + c) = ρ (40 + c) + 1 := pUp_at
  rw [h1]
  unfold pFe
  rw [ec, eu]
  have es : ρ c - (ρ (40 + c) + 1) = ρ c - ρ (40 + c) - 1 := (Int32.sub_sub _ _ _).symm
  have hh := an_hi (ρ c - ρ (40 + c))
  have et : (ρ c - ρ (40 + c) - 1).toInt = (ρ c - ρ (40 + c)).toInt - 1 := by rw [an_sub (by rw [e1i]; omega) (by rw [e1i]; omega), e1i]
  rw [es, if_neg (by omega)]
/-- what a verse that is set leaves of the row -/
theorem pSt_out {S : kSt} (hW : kWf S) {v : Nat} {ρ1 : Nat → Int32} : ∀ k, k ≤ (kV S v).1.length → ∀ ρk, pSt S v k ρ1 = some ρk → (∀ x, (x < 40 ∨ 80 ≤ x) → ¬ (330 + 8 * v ≤ x ∧ x < 330 + 8 * v + 8) → ρk x = ρ1 x) ∧ (∀ c, c < 40 → ¬ pFe ρk c = 0 → ¬ pFe ρ1 c = 0) ∧ ∀ x, 330 + 8 * v + k ≤ x → ρk x = ρ1 x
  | 0, _, ρk, h => by
    have h : ρ1 = ρk := Option.some.inj h
    subst h
    exact ⟨fun _ _ _ => rfl, fun _ _ q => q, fun _ _ => rfl⟩
  | k + 1, hk, ρk, h => by
    have h8 := (kWf_V hW v).1
    obtain ⟨-, w7⟩ := wl_b hW (v := v) (k := k) (by omega)
    replace h : (pSt S v k ρ1).bind _ = some ρk := h
    cases e : pSt S v k ρ1 with
    | none => rw [e] at h; cases h
    | some ρ' =>
      rw [e] at h
      replace h : (if pGi S ρ' (wl S v k) v < 0 then none else some (pUp (pUp ρ' (330 + 8 * v + k) (Int32.ofInt (pGi S ρ' (wl S v k) v))) (40 + (8 * (pGi S ρ' (wl S v k) v).toNat + wl S v k)) (ρ' (40 + (8 * (pGi S ρ' (wl S v k) v).toNat + wl S v k)) + 1))) = some ρk := h
      obtain ⟨i1, i2, i3⟩ := pSt_out hW k (by omega) ρ' e
      have hb := pGi_b hW (ρ := ρ') (l := wl S v k) (v := v)
      by_cases z : pGi S ρ' (wl S v k) v < 0
      · rw [if_pos z] at h; cases h
      · rw [if_neg z] at h
        have h := Option.some.inj h
        subst h
        refine ⟨fun x hx hn => ?_, fun c hc q => ?_, fun x hx => ?_⟩
        · rw [pUp_ne (by omega), pUp_ne (by omega)]; exact i1 x hx hn
        · by_cases ec : c = 8 * (pGi S ρ' (wl S v k) v).toNat + wl S v k
          · refine i2 c hc (fun hz => ?_)
            -- its giver had one
            by_cases hx : ∃ x, gvR S.1.length (fun h => pLv S ρ' h (wl S v k) v) (fun h => pFe ρ' (8 * h + wl S v k)) (fun h => pRk S ρ' h (wl S v k) v) x
            · obtain ⟨x, hg⟩ := hx
              have ex := pGi_eq hg
              rcases hg with ⟨a, -⟩ | ⟨b, a, ⟨c1, c2, c3⟩, -⟩
              · omega
              · refine c2 ?_
                show pFe ρ' (8 * b + wl S v k) = 0
                rw [show 8 * b + wl S v k = c by omega]
                exact hz
            · unfold pGi at z
              rw [dif_neg hx] at z
              omega
          · refine i2 c hc (fun hz => q ?_)
            rw [pFe_o (ρ := ρ') (by rw [pUp_ne (by omega), pUp_ne (by omega)]) (by rw [pUp_ne (by omega), pUp_ne (by omega)])]
            exact hz
        · rw [pUp_ne (by omega), pUp_ne (by omega)]; exact i3 x (by omega)
theorem pNo_o {v x : Nat} {ρ : Nat → Int32} (h : ¬ (330 + 8 * v ≤ x ∧ x < 330 + 8 * v + 8)) : pNo v ρ x = ρ x := if_neg h
/-- a verse's letters' givers stand in the planner -/
def gOk (S : kSt) (ρ f0 : Nat → Int32) (μ : xM) (v l : Nat) : Prop := ∃ G, gLs 52 μ v l (fun h => pRk S ρ h l v) G ∧ gSrt (fun h => pRk S ρ h l v) G ∧ gMem S.1.length (fun h => pLv S ρ h l v) (fun h => f0 (8 * h + l)) G
theorem gOk_e {S : kSt} {ρ f0 : Nat → Int32} {μ ν : xM} {v l : Nat} (h : gOk S ρ f0 μ v l) (e : ∀ k j, 56 ≤ k → k ≤ 58 → ν.1 k j = μ.1 k j) : gOk S ρ f0 ν v l := by
  obtain ⟨G, ⟨a1, a2, a3⟩, b, c⟩ := h
  refine ⟨G, ⟨?_, a2, fun i hi => ?_⟩, b, c⟩
  · rw [e (52 + 6) _ (by decide) (by decide)]; exact a1
  · rw [e (52 + 4) _ (by decide) (by decide), e (52 + 5) _ (by decide) (by decide)]; exact a3 i hi
/-- free pieces, picks, clashes alone -/
def gK (v : Nat) (μ μ' : xM) : Prop := (∀ a j, a ≠ 53 → ¬ (a = 54 ∧ 8 * v ≤ j ∧ j < 8 * v + 8) → ¬ (a = 52 ∧ j = 5) → μ'.1 a j = μ.1 a j) ∧ μ'.2 = μ.2
theorem gK_tr {v : Nat} {μ ν ω : xM} (h1 : gK v μ ν) (h2 : gK v ν ω) : gK v μ ω := ⟨fun k j a b c => (h2.1 k j a b c).trans (h1.1 k j a b c), h2.2.trans h1.2⟩
theorem gK_C {v : Nat} {μ ν : xM} (h : gC 52 μ ν) : gK v μ ν := ⟨fun k j _ _ c => h.1 k j c, h.2⟩
theorem cS9_K {S : kSt} {v : Nat} {μ ν : xM} (h : cS9 S μ) (e : gK v μ ν) : cS9 S ν := cS9_cg h (fun k j a b => e.1 k j (by omega) (by omega) (by omega))
set_option maxRecDepth 10000 in
set_option maxHeartbeats 4000000 in
theorem ex_giveUpF {v c : Int32} {μ μ' : xM} {r : Option zV} (h0 : Ex gx xq_21 [.inr (.inl (some 52)), .inl v, .inl c] μ r μ') (hP : pOK9 μ) : r = none ∧ (∀ a j, a ≠ 53 → μ'.1 a j = μ.1 a j) ∧ μ'.2 = μ.2 := by
  obtain ⟨n, h⟩ := tx_in (L := [some (.inr (.inl (some 52))), some (.inl v), some (.inl c), none, none]) h0 rfl
  have loop : ∀ (n : Nat) (i : Int32) (ω : xM) {o : Option zV}, eT xq_21 n 2 [some (.inr (.inl (some 52))), some (.inl v), some (.inl c), some (.inl i), o] [] ω r μ' → ((∀ a j, a ≠ 53 → ω.1 a j = μ.1 a j) ∧ ω.2 = μ.2) → r = none ∧ (∀ a j, a ≠ 53 → μ'.1 a j = μ.1 a j) ∧ μ'.2 = μ.2 := by
    intro n
    induction n using Nat.strongRecOn with
    | ind n ih =>
    intro i ω o h hG
    replace h := tx_iload_n (p' := 3) h em21_2 rfl rfl
    replace h := tx_iload_n (p' := 4) h em21_3 rfl rfl
    rcases tx_icmp (t := 51) (p' := 7) h em21_4 (by decide) rfl with ⟨c4, h⟩ | ⟨c4, h⟩
    · replace c4 : c.toInt ≤ i.toInt := c4
      obtain ⟨rfl, hμ⟩ := tx_return h em21_51
      rw [hμ]
      exact ⟨rfl, hG⟩
    · replace c4 : ¬ c.toInt ≤ i.toInt := c4
      replace h := tx_iload_n (p' := 8) h em21_7 rfl rfl
      replace h := tx_bipush (v := 8) (p' := 10) h em21_8 (by decide +kernel) rfl
      replace h := tx_imul (p' := 11) h em21_10 rfl
      replace h := tx_iload_n (p' := 12) h em21_11 rfl rfl
      replace h := tx_iadd (p' := 13) h em21_12 rfl
      replace h := tx_istore (p' := 15) h em21_13 rfl
      replace h : eT xq_21 _ 15 [some (.inr (.inl (some 52))), some (.inl v), some (.inl c), some (.inl i), some (.inl ((v * (8 : Int32)) + i))] [] ω r μ' := h
      replace h := tx_aload_n (p' := 16) h em21_15 rfl rfl
      obtain ⟨b16, hk_b16, hr_b16, h⟩ := tx_getk (c := 3) (j := 2) (p' := 19) h em21_16 ((congrFun xo_4 9).trans rfl) rfl rfl rfl
      have eb16 : b16 = 53 := Option.some.inj (hr_b16.symm.trans ((pOK9_2 hG.2 hP) 52 (by decide) 2 (by decide)))
      subst eb16
      replace h := tx_aload_n (p' := 20) h em21_19 rfl rfl
      obtain ⟨b20, hk_b20, hr_b20, h⟩ := tx_getk (c := 3) (j := 3) (p' := 23) h em21_20 ((congrFun xo_4 15).trans rfl) rfl rfl rfl
      have eb20 : b20 = 54 := Option.some.inj (hr_b20.symm.trans ((pOK9_2 hG.2 hP) 52 (by decide) 3 (by decide)))
      subst eb20
      replace h := tx_iload (p' := 25) h em21_23 rfl rfl
      obtain ⟨hb25, h⟩ := tx_iald (len := 56) (p' := 26) h em21_25 rfl rfl
      replace hb25 : (0 : Int) ≤ ((v * (8 : Int32)) + i).toInt ∧ ((v * (8 : Int32)) + i).toInt < 56 := hb25
      replace h := tx_bipush (v := 8) (p' := 28) h em21_26 (by decide +kernel) rfl
      replace h := tx_imul (p' := 29) h em21_28 rfl
      replace h := tx_aload_n (p' := 30) h em21_29 rfl rfl
      replace h := tx_getc (c := 3) (j := 0) (p' := 33) h em21_30 ((congrFun xo_4 30).trans rfl) rfl rfl rfl
      replace h := tx_getc (c := 6) (j := 9) (p' := 36) h em21_33 ((congrFun xo_4 90).trans rfl) rfl rfl rfl
      replace h := tx_iload (p' := 38) h em21_36 rfl rfl
      obtain ⟨hb38, h⟩ := tx_iald (len := 56) (p' := 39) h em21_38 rfl rfl
      replace hb38 : (0 : Int) ≤ ((v * (8 : Int32)) + i).toInt ∧ ((v * (8 : Int32)) + i).toInt < 56 := hb38
      replace h := tx_iadd (p' := 40) h em21_39 rfl
      replace h := tx_dup2 (p' := 41) h em21_40 rfl
      obtain ⟨hb41, h⟩ := tx_iald (len := 40) (p' := 42) h em21_41 rfl rfl
      replace hb41 : (0 : Int) ≤ (((ω.1 54 ((v * (8 : Int32)) + i).toInt.toNat) * (8 : Int32)) + (ω.1 7 ((v * (8 : Int32)) + i).toInt.toNat)).toInt ∧ (((ω.1 54 ((v * (8 : Int32)) + i).toInt.toNat) * (8 : Int32)) + (ω.1 7 ((v * (8 : Int32)) + i).toInt.toNat)).toInt < 40 := hb41
      replace h := tx_iconst (v := 1) (p' := 43) h em21_42 (by decide +kernel) rfl
      replace h := tx_iadd (p' := 44) h em21_43 rfl
      obtain ⟨hb44, h⟩ := tx_iast (len := 40) (p' := 45) h em21_44 rfl rfl
      replace hb44 : (0 : Int) ≤ (((ω.1 54 ((v * (8 : Int32)) + i).toInt.toNat) * (8 : Int32)) + (ω.1 7 ((v * (8 : Int32)) + i).toInt.toNat)).toInt ∧ (((ω.1 54 ((v * (8 : Int32)) + i).toInt.toNat) * (8 : Int32)) + (ω.1 7 ((v * (8 : Int32)) + i).toInt.toNat)).toInt < 40 := hb44
      replace h := tx_iinc (v := 1) (p' := 48) h em21_45 (by decide +kernel) rfl rfl
      replace h : eT xq_21 _ 48 [some (.inr (.inl (some 52))), some (.inl v), some (.inl c), some (.inl (i + 1)), some (.inl ((v * (8 : Int32)) + i))] [] (xpi ω 53 (((ω.1 54 ((v * (8 : Int32)) + i).toInt.toNat) * (8 : Int32)) + (ω.1 7 ((v * (8 : Int32)) + i).toInt.toNat)).toInt.toNat ((ω.1 53 (((ω.1 54 ((v * (8 : Int32)) + i).toInt.toNat) * (8 : Int32)) + (ω.1 7 ((v * (8 : Int32)) + i).toInt.toNat)).toInt.toNat) + (1 : Int32))) r μ' := h
      obtain ⟨n2, hn2, h⟩ := tx_gotoS (t := 2) h em21_48 (by decide)
      exact ih n2 hn2 _ _ h ⟨fun a j q => (xpi_ne (fun z => q z.1)).trans (hG.1 a j q), hG.2⟩
  replace h := tx_iconst (v := 0) (p' := 1) h em21_0 (by decide +kernel) rfl
  replace h := tx_istore_n (p' := 2) h em21_1 rfl
  replace h : eT xq_21 _ 2 [some (.inr (.inl (some 52))), some (.inl v), some (.inl c), some (.inl (0 : Int32)), none] [] μ r μ' := h
  exact loop _ _ _ h ⟨fun _ _ _ => rfl, rfl⟩
set_option maxRecDepth 10000 in
set_option maxHeartbeats 4000000 in
theorem ex_take {v : Int32} {vn : Nat} {S : kSt} {ρ f0 : Nat → Int32} {μ μ' : xM} {r : Option zV} (h0 : Ex gx xq_30 [.inr (.inl (some 52)), .inl v] μ r μ') (hP : pOK9 μ) (hS : cS9 S μ) (hv : v.toInt = (vn : Int)) (hvn : vn < S.2.1.length) (hLs : ∀ l, l ≤ 7 → (∃ k, k < (kV S vn).1.length ∧ wl S vn k = l) → gOk S ρ f0 μ vn l) (hf0 : ∀ c, c < 40 → ¬ pFe ρ c = 0 → ¬ f0 c = 0) (hfr : ∀ c, c < 40 → μ.1 53 c = pFe ρ c) : (r = some (.inl 1) ∧ gK vn μ μ' ∧ ∃ ρ', pSt S vn (kV S vn).1.length (pNo vn ρ) = some ρ' ∧ (∀ c, c < 40 → μ'.1 53 c = pFe ρ' c) ∧ ∀ i, i < (kV S vn).1.length → μ'.1 54 (8 * vn + i) = ρ' (330 + 8 * vn + i)) ∨ (r = some (.inl 0) ∧ gK vn μ μ' ∧ pSt S vn (kV S vn).1.length (pNo vn ρ) = none) := by
  obtain ⟨n, h⟩ := tx_in (L := [some (.inr (.inl (some 52))), some (.inl v), none, none, none]) h0 rfl
  have e1i : (1 : Int32).toInt = 1 := by decide
  have e8i : (8 : Int32).toInt = 8 := by decide
  have h8 := (kWf_V hS.1 vn).1
  have loop : ∀ (n k : Nat) (i : Int32) (ω : xM) (ρk : Nat → Int32) {o3 o4 : Option zV}, eT xq_30 n 7 [some (.inr (.inl (some 52))), some (.inl v), some (.inl i), o3, o4] [] ω r μ' → i.toInt = (k : Int) → k ≤ (kV S vn).1.length → gK vn μ ω → pSt S vn k (pNo vn ρ) = some ρk → (∀ c, c < 40 → ω.1 53 c = pFe ρk c) → (∀ q, q < k → ω.1 54 (8 * vn + q) = ρk (330 + 8 * vn + q)) → (r = some (.inl 1) ∧ gK vn μ μ' ∧ ∃ ρ', pSt S vn (kV S vn).1.length (pNo vn ρ) = some ρ' ∧ (∀ c, c < 40 → μ'.1 53 c = pFe ρ' c) ∧ ∀ i, i < (kV S vn).1.length → μ'.1 54 (8 * vn + i) = ρ' (330 + 8 * vn + i)) ∨ (r = some (.inl 0) ∧ gK vn μ μ' ∧ pSt S vn (kV S vn).1.length (pNo vn ρ) = none) := by
    intro n
    induction n using Nat.strongRecOn with
    | ind n ih =>
    intro k i ω ρk o3 o4 h hi hk hG hR hF hK
    have hSω := cS9_K hS hG
    have hPω := pOK9_2 hG.2 hP
    have h7 := hS.1.2.1
    have h8 := (kWf_V hS.1 vn).1
    have hlen : (ω.1 6 v.toInt.toNat).toInt = ((kV S vn).1.length : Int) := by
      rw [show v.toInt.toNat = vn by omega]
      exact (hSω.2.2.1.2.2.1 vn hvn).2.2.1
    have t9 : (v * (8 : Int32)).toInt = 8 * (vn : Int) := by rw [an_mul (by rw [e8i]; omega) (by rw [e8i]; omega), e8i, hv]; omega
    have nv : ((v * (8 : Int32)) + i).toInt.toNat = 8 * vn + k := by
      have : ((v * (8 : Int32)) + i).toInt = 8 * (vn : Int) + k := by rw [an_add (by rw [t9]; omega) (by rw [t9]; omega), t9, hi]
      omega
    have ei : (i + 1).toInt = ((k + 1 : Nat) : Int) := by rw [an_add (by rw [e1i]; omega) (by rw [e1i]; omega), e1i]; omega
    replace h := tx_iload_n (p' := 8) h em30_7 rfl rfl
    replace h := tx_aload_n (p' := 9) h em30_8 rfl rfl
    replace h := tx_getc (c := 3) (j := 0) (p' := 12) h em30_9 ((congrFun xo_4 30).trans rfl) rfl rfl rfl
    replace h := tx_getc (c := 6) (j := 8) (p' := 15) h em30_12 ((congrFun xo_4 87).trans rfl) rfl rfl rfl
    replace h := tx_iload_n (p' := 16) h em30_15 rfl rfl
    obtain ⟨hb16, h⟩ := tx_iald (len := 7) (p' := 17) h em30_16 rfl rfl
    replace hb16 : (0 : Int) ≤ v.toInt ∧ v.toInt < 7 := hb16
    rcases tx_icmp (t := 92) (p' := 20) h em30_17 (by decide) rfl with ⟨c17, h⟩ | ⟨c17, h⟩
    · replace c17 : (ω.1 6 v.toInt.toNat).toInt ≤ i.toInt := c17
      replace h := tx_iconst (v := 1) (p' := 93) h em30_92 (by decide +kernel) rfl
      obtain ⟨rfl, hμ⟩ := tx_ireturn h em30_93
      rw [hμ]
      have ek : k = (kV S vn).1.length := by omega
      rw [ek] at hR hK
      exact Or.inl ⟨rfl, hG, ρk, hR, hF, hK⟩
    · replace c17 : ¬ (ω.1 6 v.toInt.toNat).toInt ≤ i.toInt := c17
      replace h := tx_aload_n (p' := 21) h em30_20 rfl rfl
      replace h := tx_getc (c := 3) (j := 0) (p' := 24) h em30_21 ((congrFun xo_4 30).trans rfl) rfl rfl rfl
      replace h := tx_getc (c := 6) (j := 9) (p' := 27) h em30_24 ((congrFun xo_4 90).trans rfl) rfl rfl rfl
      replace h := tx_iload_n (p' := 28) h em30_27 rfl rfl
      replace h := tx_bipush (v := 8) (p' := 30) h em30_28 (by decide +kernel) rfl
      replace h := tx_imul (p' := 31) h em30_30 rfl
      replace h := tx_iload_n (p' := 32) h em30_31 rfl rfl
      replace h := tx_iadd (p' := 33) h em30_32 rfl
      obtain ⟨hb33, h⟩ := tx_iald (len := 56) (p' := 34) h em30_33 rfl rfl
      replace hb33 : (0 : Int) ≤ ((v * (8 : Int32)) + i).toInt ∧ ((v * (8 : Int32)) + i).toInt < 56 := hb33
      replace h := tx_istore_n (p' := 35) h em30_34 rfl
      replace h : eT xq_30 _ 35 [some (.inr (.inl (some 52))), some (.inl v), some (.inl i), some (.inl (ω.1 7 ((v * (8 : Int32)) + i).toInt.toNat)), o4] [] ω r μ' := h
      replace h := tx_aload_n (p' := 36) h em30_35 rfl rfl
      replace h := tx_iload_n (p' := 37) h em30_36 rfl rfl
      replace h := tx_iload_n (p' := 38) h em30_37 rfl rfl
      obtain ⟨r38, μ38, hE38, h⟩ := tx_invV (na := 3) (mn := 25) (as := [.inr (.inl (some 52)), .inl v, .inl (ω.1 7 ((v * (8 : Int32)) + i).toInt.toNat)]) (rest := []) (p' := 41) h em30_38 ((congrFun xo_4 93).trans rfl) xm_25 rfl rfl
      have hkl : k < (kV S vn).1.length := by omega
      obtain ⟨w1, w2⟩ := wl_b hS.1 (v := vn) hkl
      have hw : (ω.1 7 (8 * vn + k)).toInt = (wl S vn k : Int) := ((cS9_v hSω hvn).2.2.2 k hkl).trans w1
      rw [nv] at hE38
      obtain ⟨G, hL, hs, hm⟩ := gOk_e (hLs _ w2 ⟨k, hkl, rfl⟩) (ν := ω) (fun a j p q => hG.1 a j (by omega) (by omega) (by omega))
      obtain ⟨o1, o2, -⟩ := pSt_out hS.1 k (by omega) ρk hR
      have oL : ∀ x, lwC x → ρk x = ρ x := fun x hx => by
        have hx' : (x < 40 ∨ 80 ≤ x) ∧ ¬ (330 + 8 * vn ≤ x ∧ x < 330 + 8 * vn + 8) := by
          have h7 := hS.1.2.1
          rcases hx with q | ⟨q, q2⟩ | q <;> omega
        rw [o1 x hx'.1 hx'.2]
        exact pNo_o hx'.2
      have oF : ∀ c, c < 40 → pFe (pNo vn ρ) c = pFe ρ c := fun c hc => pFe_o (pNo_o (by omega)) (pNo_o (by omega))
      obtain ⟨gx, rfl, hV, gp⟩ := ex_pick hE38 hPω hv (by omega) hw w2 hL hs hm hS.1.1 (fun q hq z => by
        show ¬ f0 (8 * q + wl S vn k) = 0
        have hq5 := hS.1.1
        refine hf0 _ (by omega) (fun y => ?_)
        have z : ¬ ω.1 53 (8 * q + wl S vn k) = 0 := z
        rw [hF _ (by omega)] at z
        exact o2 _ (by omega) z (by rw [oF _ (by omega)]; exact y))
      have hV' : gvR S.1.length (fun h => pLv S ρk h (wl S vn k) vn) (fun h => pFe ρk (8 * h + wl S vn k)) (fun h => pRk S ρk h (wl S vn k) vn) gx.toInt := gvR_cg (fun q hq => pLv_cg oL (by have := hS.1.1; omega) w2) (fun q hq => (hF _ (by have := hS.1.1; omega)).symm) (fun q hq => pRk_cg oL (by have := hS.1.1; omega) w2) hV
      have hx := pGi_eq hV'
      replace h : eT xq_30 _ 41 [some (.inr (.inl (some 52))), some (.inl v), some (.inl i), some (.inl (ω.1 7 ((v * (8 : Int32)) + i).toInt.toNat)), o4] [.inl gx] μ38 r μ' := h
      replace h := tx_istore (p' := 43) h em30_41 rfl
      replace h : eT xq_30 _ 43 [some (.inr (.inl (some 52))), some (.inl v), some (.inl i), some (.inl (ω.1 7 ((v * (8 : Int32)) + i).toInt.toNat)), some (.inl gx)] [] μ38 r μ' := h
      replace h := tx_iload (p' := 45) h em30_43 rfl rfl
      replace h := tx_iconst (v := (-1)) (p' := 46) h em30_45 (by decide +kernel) rfl
      rcases tx_icmp (t := 57) (p' := 49) h em30_46 (by decide) rfl with ⟨c46, h⟩ | ⟨c46, h⟩
      · replace c46 : ¬ gx.toInt = (-1) := c46
        replace h := tx_aload_n (p' := 58) h em30_57 rfl rfl
        obtain ⟨b58, hk_b58, hr_b58, h⟩ := tx_getk (c := 3) (j := 3) (p' := 61) h em30_58 ((congrFun xo_4 15).trans rfl) rfl rfl rfl
        have eb58 : b58 = 54 := Option.some.inj (hr_b58.symm.trans ((pOK9_2 gp.2 hPω) 52 (by decide) 3 (by decide)))
        subst eb58
        replace h := tx_iload_n (p' := 62) h em30_61 rfl rfl
        replace h := tx_bipush (v := 8) (p' := 64) h em30_62 (by decide +kernel) rfl
        replace h := tx_imul (p' := 65) h em30_64 rfl
        replace h := tx_iload_n (p' := 66) h em30_65 rfl rfl
        replace h := tx_iadd (p' := 67) h em30_66 rfl
        replace h := tx_iload (p' := 69) h em30_67 rfl rfl
        obtain ⟨hb69, h⟩ := tx_iast (len := 56) (p' := 70) h em30_69 rfl rfl
        replace hb69 : (0 : Int) ≤ ((v * (8 : Int32)) + i).toInt ∧ ((v * (8 : Int32)) + i).toInt < 56 := hb69
        replace h := tx_aload_n (p' := 71) h em30_70 rfl rfl
        obtain ⟨b71, hk_b71, hr_b71, h⟩ := tx_getk (c := 3) (j := 2) (p' := 74) h em30_71 ((congrFun xo_4 9).trans rfl) rfl rfl rfl
        have eb71 : b71 = 53 := Option.some.inj (hr_b71.symm.trans ((pOK9_2 gp.2 hPω) 52 (by decide) 2 (by decide)))
        subst eb71
        replace h := tx_iload (p' := 76) h em30_74 rfl rfl
        replace h := tx_bipush (v := 8) (p' := 78) h em30_76 (by decide +kernel) rfl
        replace h := tx_imul (p' := 79) h em30_78 rfl
        replace h := tx_iload_n (p' := 80) h em30_79 rfl rfl
        replace h := tx_iadd (p' := 81) h em30_80 rfl
        replace h := tx_dup2 (p' := 82) h em30_81 rfl
        obtain ⟨hb82, h⟩ := tx_iald (len := 40) (p' := 83) h em30_82 rfl rfl
        replace hb82 : (0 : Int) ≤ ((gx * (8 : Int32)) + (ω.1 7 ((v * (8 : Int32)) + i).toInt.toNat)).toInt ∧ ((gx * (8 : Int32)) + (ω.1 7 ((v * (8 : Int32)) + i).toInt.toNat)).toInt < 40 := hb82
        replace h : eT xq_30 _ 83 [some (.inr (.inl (some 52))), some (.inl v), some (.inl i), some (.inl (ω.1 7 ((v * (8 : Int32)) + i).toInt.toNat)), some (.inl gx)] [.inl (μ38.1 53 ((gx * (8 : Int32)) + (ω.1 7 ((v * (8 : Int32)) + i).toInt.toNat)).toInt.toNat), .inl ((gx * (8 : Int32)) + (ω.1 7 ((v * (8 : Int32)) + i).toInt.toNat)), .inr (.inl (some 53))] (xpi μ38 54 ((v * (8 : Int32)) + i).toInt.toNat gx) r μ' := h
        replace h := tx_iconst (v := 1) (p' := 84) h em30_83 (by decide +kernel) rfl
        replace h := tx_isub (p' := 85) h em30_84 rfl
        obtain ⟨hb85, h⟩ := tx_iast (len := 40) (p' := 86) h em30_85 rfl rfl
        replace hb85 : (0 : Int) ≤ ((gx * (8 : Int32)) + (ω.1 7 ((v * (8 : Int32)) + i).toInt.toNat)).toInt ∧ ((gx * (8 : Int32)) + (ω.1 7 ((v * (8 : Int32)) + i).toInt.toNat)).toInt < 40 := hb85
        replace h := tx_iinc (v := 1) (p' := 89) h em30_86 (by decide +kernel) rfl rfl
        replace h : eT xq_30 _ 89 [some (.inr (.inl (some 52))), some (.inl v), some (.inl (i + 1)), some (.inl (ω.1 7 ((v * (8 : Int32)) + i).toInt.toNat)), some (.inl gx)] [] (xpi (xpi μ38 54 ((v * (8 : Int32)) + i).toInt.toNat gx) 53 ((gx * (8 : Int32)) + (ω.1 7 ((v * (8 : Int32)) + i).toInt.toNat)).toInt.toNat ((μ38.1 53 ((gx * (8 : Int32)) + (ω.1 7 ((v * (8 : Int32)) + i).toInt.toNat)).toInt.toNat) - (1 : Int32))) r μ' := h
        obtain ⟨n2, hn2, h⟩ := tx_gotoS (t := 7) h em30_89 (by decide)
        have hb := pGi_b hS.1 (ρ := ρk) (l := wl S vn k) (v := vn)
        have em1 : (-1 : Int32).toInt = -1 := by decide
        have g0 : 0 ≤ gx.toInt ∧ gx.toInt ≤ 4 := by omega
        have t1 : (gx * (8 : Int32)).toInt = 8 * gx.toInt := by rw [an_mul (by rw [e8i]; omega) (by rw [e8i]; omega), e8i]; omega
        have t3 : ((gx * (8 : Int32)) + (ω.1 7 (8 * vn + k))).toInt.toNat = 8 * gx.toInt.toNat + wl S vn k := by
          have : ((gx * (8 : Int32)) + (ω.1 7 (8 * vn + k))).toInt = 8 * gx.toInt + wl S vn k := by rw [an_add (by rw [t1, hw]; omega) (by rw [t1, hw]; omega), t1, hw]
          omega
        rw [nv, t3] at h
        have hne : ¬ pFe ρk (8 * gx.toInt.toNat + wl S vn k) = 0 := by
          rcases hV' with ⟨a, -⟩ | ⟨b, a, ⟨c1, c2, c3⟩, -⟩
          · omega
          · rw [show gx.toInt.toNat = b by omega]; exact c2
        have e53 : ∀ j, μ38.1 53 j = ω.1 53 j := fun j => gp.1 53 j (fun q => absurd q.1 (by decide))
        have e54 : ∀ j, μ38.1 54 j = ω.1 54 j := fun j => gp.1 54 j (fun q => absurd q.1 (by decide))
        refine ih n2 hn2 (k + 1) _ _ (pUp (pUp ρk (330 + 8 * vn + k) gx) (40 + (8 * gx.toInt.toNat + wl S vn k)) (ρk (40 + (8 * gx.toInt.toNat + wl S vn k)) + 1)) h ei (by omega) (gK_tr hG (gK_tr (gK_C gp) ⟨fun a j q1 q2 q3 => (xpi_ne (fun z => q1 z.1)).trans (xpi_ne (fun z => q2 ⟨z.1, by omega, by omega⟩)), rfl⟩)) ?_ (fun c hc => ?_) (fun q hq => ?_)
        · show (pSt S vn k (pNo vn ρ)).bind _ = _
          rw [hR]
          show (if pGi S ρk (wl S vn k) vn < 0 then none else some (pUp (pUp ρk (330 + 8 * vn + k) (Int32.ofInt (pGi S ρk (wl S vn k) vn))) (40 + (8 * (pGi S ρk (wl S vn k) vn).toNat + wl S vn k)) (ρk (40 + (8 * (pGi S ρk (wl S vn k) vn).toNat + wl S vn k)) + 1))) = _
          rw [← hx, if_neg (by omega), Int32.ofInt_toInt]
        · by_cases ec : c = 8 * gx.toInt.toNat + wl S vn k
          · rw [ec, xpi_at, e53, hF _ (by omega)]
            exact (pFe_s (by omega) (by omega) hne).symm
          · rw [xpi_ne (fun q => ec q.2), xpi_ne (fun q => absurd q.1 (by decide)), e53, hF c hc]
            exact (pFe_o (by rw [pUp_ne (by omega), pUp_ne (by omega)]) (by rw [pUp_ne (by omega), pUp_ne (by omega)])).symm
        · rw [xpi_ne (fun z => absurd z.1 (by decide)), pUp_ne (by omega)]
          by_cases z : q = k
          · rw [z, xpi_at, pUp_at]
          · rw [xpi_ne (fun y => z (by omega)), e54, hK q (by omega), pUp_ne (by omega)]
      · replace c46 : ¬ ¬ gx.toInt = (-1) := c46
        replace h := tx_aload_n (p' := 50) h em30_49 rfl rfl
        replace h := tx_iload_n (p' := 51) h em30_50 rfl rfl
        replace h := tx_iload_n (p' := 52) h em30_51 rfl rfl
        obtain ⟨r52, μ52, hE52, h⟩ := tx_invV (na := 3) (mn := 21) (as := [.inr (.inl (some 52)), .inl v, .inl i]) (rest := []) (p' := 55) h em30_52 ((congrFun xo_4 96).trans rfl) xm_21 rfl rfl
        have gu := ex_giveUpF hE52 (pOK9_2 gp.2 hPω)
        have gu2 := gu
        obtain ⟨rfl, -⟩ := gu2
        replace h : eT xq_30 _ 55 [some (.inr (.inl (some 52))), some (.inl v), some (.inl i), some (.inl (ω.1 7 ((v * (8 : Int32)) + i).toInt.toNat)), some (.inl gx)] [] μ52 r μ' := h
        replace h := tx_iconst (v := 0) (p' := 56) h em30_55 (by decide +kernel) rfl
        obtain ⟨rfl, hμ⟩ := tx_ireturn h em30_56
        rw [hμ]
        refine Or.inr ⟨rfl, gK_tr hG (gK_tr (gK_C gp) ⟨fun a j q _ _ => gu.2.1 a j q, gu.2.2⟩), pSt_no (k := k + 1) ?_ (by omega)⟩
        show (pSt S vn k (pNo vn ρ)).bind _ = none
        rw [hR]
        show (if pGi S ρk (wl S vn k) vn < 0 then none else _) = none
        have em1 : (-1 : Int32).toInt = -1 := by decide
        rw [if_pos (by omega)]
  replace h := tx_aload_n (p' := 1) h em30_0 rfl rfl
  replace h := tx_iconst (v := 0) (p' := 2) h em30_1 (by decide +kernel) rfl
  replace h := tx_putf (a := 52) (c := 3) (j := 5) (p' := 5) h em30_2 ((congrFun xo_4 84).trans rfl) rfl
  replace h := tx_iconst (v := 0) (p' := 6) h em30_5 (by decide +kernel) rfl
  replace h := tx_istore_n (p' := 7) h em30_6 rfl
  replace h : eT xq_30 _ 7 [some (.inr (.inl (some 52))), some (.inl v), some (.inl (0 : Int32)), none, none] [] (xpi μ 52 5 (0 : Int32)) r μ' := h
  exact loop _ 0 _ _ (pNo vn ρ) h (by decide) (Nat.zero_le _) ⟨fun a j _ _ q => xpi_ne q, rfl⟩ rfl (fun c hc => by rw [xpi_ne (fun q => absurd q.1 (by decide)), hfr c hc]; exact (pFe_o (pNo_o (by omega)) (pNo_o (by omega))).symm) (fun q hq => absurd hq (Nat.not_lt_zero q))
