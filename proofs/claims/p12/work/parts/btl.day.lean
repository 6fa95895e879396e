/-! ===== a day, pure ===== -/
theorem xb_nz {x : Int32} {v : Nat} (h : v < 7) : (x &&& ((1 : Int32) <<< (Int32.ofNat v &&& 31))).toInt = 0 ↔ xb x v = false := by
  have e : ∀ v, v < 7 → ((1 : Int32) <<< (Int32.ofNat v &&& 31)).toBitVec = BitVec.twoPow 32 v := by decide
  have e2 : ∀ v, v < 7 → ¬ (BitVec.twoPow 32 v).toInt = 0 := by decide
  have e3 : (x &&& ((1 : Int32) <<< (Int32.ofNat v &&& 31))).toBitVec = if x.toBitVec.getLsbD v then BitVec.twoPow 32 v else 0#32 := by
    rw [Int32.toBitVec_and, e v h, BitVec.and_twoPow]
  show (x &&& ((1 : Int32) <<< (Int32.ofNat v &&& 31))).toBitVec.toInt = 0 ↔ _
  rw [e3]
  unfold xb
  cases x.toBitVec.getLsbD v with
  | false => exact ⟨fun _ => rfl, fun _ => rfl⟩
  | true => exact ⟨fun z => absurd z (e2 v h), fun z => by cases z⟩
/-- what is owed for the first k verses -/
def pOw (S : kSt) (ρ : Nat → Int32) : Nat → Int32
  | 0 => 0
  | k + 1 => pOw S ρ k + (if ρ (320 + k) = 1 then pPy S (ρ 386) k else 0)
def pDn (n : Nat) (ρ : Nat → Int32) : Nat → Int32 := fun i => if 320 ≤ i ∧ i < 320 + n ∧ ρ i = 1 then 2 else ρ i
def pPd (S : kSt) (n : Nat) (ρ : Nat → Int32) : Nat → Int32 := pUp (pDn n ρ) 387 (ρ 387 + pOw S ρ n)
/-- a piece is lost -/
def pLs (c : Nat) (ρ : Nat → Int32) : Nat → Int32 := if ρ c = 0 then ρ else pUp (pUp ρ c (ρ c - 1)) 388 (ρ 388 + 1)
/-- a cell is worn -/
def pWx (w : Int32) (c : Nat) (ρ : Nat → Int32) : Int32 := pHd (ρ (80 + c) + ρ (40 + c) * w) 0 999
def pW1 (sp : Int) (w : Int32) (c : Nat) (ρ : Nat → Int32) : Nat → Int32 := if ρ (40 + c) = 0 then ρ else if (pWx w c ρ).toInt < sp then pUp ρ (80 + c) (pWx w c ρ) else pLs c (pUp (pUp ρ (80 + c) (pWx w c ρ)) (80 + c) 0)
/-- a piece of it is gone by that -/
def pGn (sp : Int) (w : Int32) (c : Nat) (ρ : Nat → Int32) : Prop := ¬ ρ (40 + c) = 0 ∧ ¬ (pWx w c ρ).toInt < sp ∧ ¬ ρ c = 0
def pWn (S : kSt) (ρ0 : Nat → Int32) : Nat → (Nat → Int32) → (Nat → Int32)
  | 0, ρ => ρ
  | k + 1, ρ => pW1 S.2.2.1.1 (pWr S ρ0 (k / 8) (k % 8)) k (pWn S ρ0 k ρ)
/-- the richest of the first k houses, the first of equals -/
def pRi (ρ : Nat → Int32) (l : Nat) : Nat → Nat
  | 0 => 0
  | k + 1 => if (ρ (8 * pRi ρ l k + l)).toInt < (ρ (8 * k + l)).toInt then k else pRi ρ l k
theorem pRi_1 {ρ : Nat → Int32} {l : Nat} : pRi ρ l 1 = 0 := by
  show (if (ρ (8 * 0 + l)).toInt < (ρ (8 * 0 + l)).toInt then 0 else 0) = 0
  rw [if_neg (by omega)]
theorem pRi_b {ρ : Nat → Int32} {l : Nat} : ∀ k, 0 < k → pRi ρ l k < k
  | 0, h => absurd h (Nat.lt_irrefl 0)
  | 1, _ => by rw [pRi_1]; decide
  | k + 2, _ => by
    have ih := pRi_b (ρ := ρ) (l := l) (k + 1) (by omega)
    show (if (ρ (8 * pRi ρ l (k + 1) + l)).toInt < (ρ (8 * (k + 1) + l)).toInt then k + 1 else pRi ρ l (k + 1)) < k + 2
    by_cases q : (ρ (8 * pRi ρ l (k + 1) + l)).toInt < (ρ (8 * (k + 1) + l)).toInt
    · rw [if_pos q]; omega
    · rw [if_neg q]; omega
theorem pRi_5 {ρ : Nat → Int32} {l H : Nat} (h : H ≤ 5) : pRi ρ l H ≤ 4 := by
  by_cases q : H = 0
  · rw [q]; exact Nat.zero_le _
  · have := pRi_b (ρ := ρ) (l := l) H (by omega); omega
/-- which letter thieves take -/
def pTl (sd : Int32) (ρ : Nat → Int32) : Nat := (pLt 8 sd ((4 : Int32) * ρ 386 + (1 : Int32))).toInt.toNat
theorem pTl_b {sd : Int32} {ρ : Nat → Int32} : (pLt 8 sd ((4 : Int32) * ρ 386 + (1 : Int32))).toInt = (pTl sd ρ : Int) ∧ pTl sd ρ ≤ 7 := by
  have h := pLt_b (k := 8) (s := sd) (w := (4 : Int32) * ρ 386 + (1 : Int32)) (by decide)
  have e : (8 : Int32).toInt = 8 := by decide
  unfold pTl
  omega
noncomputable def pTv (S : kSt) (sd : Int32) (ρ : Nat → Int32) : Nat → Int32 := @ite _ (pTh S sd ρ) (Classical.propDecidable _) (pLs (8 * pRi ρ (pTl sd ρ) S.1.length + pTl sd ρ) ρ) ρ
theorem pTv_y {S : kSt} {sd : Int32} {ρ : Nat → Int32} (h : pTh S sd ρ) : pTv S sd ρ = pLs (8 * pRi ρ (pTl sd ρ) S.1.length + pTl sd ρ) ρ := if_pos h
theorem pTv_n {S : kSt} {sd : Int32} {ρ : Nat → Int32} (h : ¬ pTh S sd ρ) : pTv S sd ρ = ρ := if_neg h
/-- a day but for its thieves and its end -/
def pWk (S : kSt) (ρ : Nat → Int32) : Nat → Int32 := pWn S ρ (8 * S.1.length) (pPd S S.2.1.length ρ)
noncomputable def pDx (S : kSt) (st : Int32) (sd : Int32) (ρ : Nat → Int32) : Nat → Int32 := if st.toInt = 0 then pTv S sd (pWk S ρ) else pWk S ρ
noncomputable def pDy (S : kSt) (st : Int32) (sd : Int32) (ρ : Nat → Int32) : Nat → Int32 := pUp (pDx S st sd ρ) 386 (pDx S st sd ρ 386 + 1)
noncomputable def pDys (S : kSt) (st : Int32) (sd : Int32) : Nat → (Nat → Int32) → (Nat → Int32)
  | 0, ρ => ρ
  | k + 1, ρ => pDy S st sd (pDys S st sd k ρ)
theorem pDn_0 {ρ : Nat → Int32} : pDn 0 ρ = ρ := by
  funext i
  exact if_neg (fun q => by omega)
theorem pDn_n {n : Nat} {ρ : Nat → Int32} (h : ¬ ρ (320 + n) = 1) : pDn (n + 1) ρ = pDn n ρ := by
  funext i
  unfold pDn
  by_cases e : i = 320 + n
  · rw [if_neg (fun q => h (by rw [← e]; exact q.2.2)), if_neg (fun q => by omega)]
  · by_cases q : 320 ≤ i ∧ i < 320 + n ∧ ρ i = 1
    · rw [if_pos q, if_pos ⟨q.1, by omega, q.2.2⟩]
    · rw [if_neg q, if_neg (fun z => q ⟨z.1, by omega, z.2.2⟩)]
theorem pDn_y {n : Nat} {ρ : Nat → Int32} (h : ρ (320 + n) = 1) : pDn (n + 1) ρ = pUp (pDn n ρ) (320 + n) 2 := by
  funext i
  show (if 320 ≤ i ∧ i < 320 + (n + 1) ∧ ρ i = 1 then (2 : Int32) else ρ i) = (if i = 320 + n then 2 else if 320 ≤ i ∧ i < 320 + n ∧ ρ i = 1 then 2 else ρ i)
  by_cases e : i = 320 + n
  · rw [if_pos e, if_pos ⟨by omega, by omega, by rw [e]; exact h⟩]
  · rw [if_neg e]
    by_cases q : 320 ≤ i ∧ i < 320 + n ∧ ρ i = 1
    · rw [if_pos q, if_pos ⟨q.1, by omega, q.2.2⟩]
    · rw [if_neg q, if_neg (fun z => q ⟨z.1, by omega, z.2.2⟩)]
theorem pDn_ne {n i : Nat} {ρ : Nat → Int32} (h : i < 320 ∨ 320 + n ≤ i) : pDn n ρ i = ρ i := if_neg (fun q => by omega)
theorem pDn_at {n v : Nat} {ρ : Nat → Int32} (h : v < n) : pDn n ρ (320 + v) = if ρ (320 + v) = 1 then 2 else ρ (320 + v) := by
  unfold pDn
  by_cases q : ρ (320 + v) = 1
  · rw [if_pos ⟨by omega, by omega, q⟩, if_pos q]
  · rw [if_neg (fun z => q z.2.2), if_neg q]
theorem pUp_up {ρ : Nat → Int32} {j : Nat} {x y : Int32} : pUp (pUp ρ j x) j y = pUp ρ j y := by
  funext i
  unfold pUp
  by_cases e : i = j
  · rw [if_pos e, if_pos e]
  · rw [if_neg e, if_neg e, if_neg e]
theorem pUp_sw {ρ : Nat → Int32} {i j : Nat} {x y : Int32} (h : ¬ i = j) : pUp (pUp ρ i x) j y = pUp (pUp ρ j y) i x := by
  funext k
  unfold pUp
  by_cases e : k = j
  · rw [if_pos e, if_pos e, if_neg (fun z => h (z.symm.trans e))]
  · rw [if_neg e, if_neg e]
theorem pPd_0 {S : kSt} {ρ : Nat → Int32} : pPd S 0 ρ = ρ := by
  funext i
  unfold pPd
  rw [pDn_0]
  unfold pUp
  by_cases e : i = 387
  · rw [if_pos e, e]; exact Int32.add_zero _
  · rw [if_neg e]
theorem pPd_n {S : kSt} {n : Nat} {ρ : Nat → Int32} (h : ¬ ρ (320 + n) = 1) : pPd S (n + 1) ρ = pPd S n ρ := by
  unfold pPd
  rw [pDn_n h]
  show pUp (pDn n ρ) 387 (ρ 387 + (pOw S ρ n + if ρ (320 + n) = 1 then pPy S (ρ 386) n else 0)) = _
  rw [if_neg h, Int32.add_zero]
theorem pPd_y {S : kSt} {n : Nat} {ρ : Nat → Int32} (hn : n < 7) (h : ρ (320 + n) = 1) : pPd S (n + 1) ρ = pUp (pUp (pPd S n ρ) (320 + n) 2) 387 (pPd S n ρ 387 + pPy S (ρ 386) n) := by
  have e : pPd S n ρ 387 = ρ 387 + pOw S ρ n := pUp_at
  rw [e]
  unfold pPd
  rw [pDn_y h, pUp_sw (i := 387) (j := 320 + n) (by omega), pUp_up]
  show pUp _ 387 (ρ 387 + (pOw S ρ n + if ρ (320 + n) = 1 then pPy S (ρ 386) n else 0)) = _
  rw [if_pos h, Int32.add_assoc]
theorem pPd_ne {S : kSt} {n i : Nat} {ρ : Nat → Int32} (h : i < 320 ∨ 320 + n ≤ i) (h2 : ¬ i = 387) : pPd S n ρ i = ρ i := by
  unfold pPd
  rw [pUp_ne h2]
  exact pDn_ne h
theorem pPd_st {S : kSt} {n v : Nat} {ρ : Nat → Int32} (h : v < n) (h7 : n ≤ 7) : pPd S n ρ (320 + v) = if ρ (320 + v) = 1 then 2 else ρ (320 + v) := by
  unfold pPd
  rw [pUp_ne (by omega)]
  exact pDn_at h
theorem pLs_ne {c i : Nat} {ρ : Nat → Int32} (h : ¬ i = c) (h2 : ¬ i = 388) : pLs c ρ i = ρ i := by
  unfold pLs
  by_cases q : ρ c = 0
  · rw [if_pos q]
  · rw [if_neg q, pUp_ne h2, pUp_ne h]
theorem pW1_ne {sp : Int} {w : Int32} {c i : Nat} {ρ : Nat → Int32} (h : ¬ i = c) (h1 : ¬ i = 80 + c) (h2 : ¬ i = 388) : pW1 sp w c ρ i = ρ i := by
  unfold pW1
  by_cases q : ρ (40 + c) = 0
  · rw [if_pos q]
  · rw [if_neg q]
    by_cases q2 : (pWx w c ρ).toInt < sp
    · rw [if_pos q2, pUp_ne h1]
    · rw [if_neg q2, pLs_ne h h2, pUp_ne h1, pUp_ne h1]
theorem pWn_ne {S : kSt} {ρ0 ρ : Nat → Int32} {i : Nat} : ∀ k, ¬ i < k → ¬ (80 ≤ i ∧ i < 80 + k) → ¬ i = 388 → pWn S ρ0 k ρ i = ρ i
  | 0, _, _, _ => rfl
  | k + 1, h1, h2, h3 => by
    show pW1 S.2.2.1.1 _ k (pWn S ρ0 k ρ) i = ρ i
    rw [pW1_ne (by omega) (by omega) h3]
    exact pWn_ne k (by omega) (by omega) h3
theorem pWr_cg {S : kSt} {ρ ρ' : Nat → Int32} {h l : Nat} (hh : h ≤ 4) (hl : l ≤ 7) (e : ∀ x, x = 386 ∨ x = 80 + (8 * h + l) ∨ x = 8 * h + l ∨ (120 ≤ x ∧ x < 320) → ρ' x = ρ x) : pWr S ρ' h l = pWr S ρ h l := by
  have e5 : pLent ρ' h l = pLent ρ h l := s5_cg 5 (fun o ho => e _ (by omega))
  unfold pWr pVw
  rw [e 386 (by omega), e (80 + (8 * h + l)) (by omega), e (8 * h + l) (by omega), e5]
theorem pWr_b {S : kSt} {ρ : Nat → Int32} {h l : Nat} : 0 ≤ (pWr S ρ h l).toInt ∧ (pWr S ρ h l).toInt ≤ 9 := by
  have := pHd_b (x := pJ S.2.2.2 2 (pVw ρ h l)) (lo := 0) (hi := 9) (by decide)
  exact this
/-- within its bounds -/
def pIb (ρ : Nat → Int32) : Prop := ∀ c, c < 40 → (0 ≤ (ρ (80 + c)).toInt ∧ (ρ (80 + c)).toInt ≤ 999) ∧ 0 ≤ (ρ (40 + c)).toInt ∧ (ρ (40 + c)).toInt ≤ 56
theorem pIb_cg {ρ ρ' : Nat → Int32} (h : pIb ρ) (e : ∀ c, c < 40 → ρ' (80 + c) = ρ (80 + c) ∧ ρ' (40 + c) = ρ (40 + c)) : pIb ρ' := fun c hc => by
  rw [(e c hc).1, (e c hc).2]
  exact h c hc
theorem pWx_b {w : Int32} {c : Nat} {ρ : Nat → Int32} : 0 ≤ (pWx w c ρ).toInt ∧ (pWx w c ρ).toInt ≤ 999 := by
  have := pHd_b (x := ρ (80 + c) + ρ (40 + c) * w) (lo := 0) (hi := 999) (by decide)
  exact this
theorem pIb_w {sp : Int} {w : Int32} {c : Nat} {ρ : Nat → Int32} (hc : c < 40) (h : pIb ρ) : pIb (pW1 sp w c ρ) := fun i hi => by
  have e40 : pW1 sp w c ρ (40 + i) = ρ (40 + i) := by
    by_cases q : 40 + i = 80 + c
    · exfalso; omega
    · exact pW1_ne (by omega) q (by omega)
  rw [e40]
  refine ⟨?_, (h i hi).2⟩
  by_cases q : i = c
  · subst q
    unfold pW1
    by_cases q1 : ρ (40 + i) = 0
    · rw [if_pos q1]; exact (h i hi).1
    · rw [if_neg q1]
      by_cases q2 : (pWx w i ρ).toInt < sp
      · rw [if_pos q2, pUp_at]; exact pWx_b
      · rw [if_neg q2, pLs_ne (by omega) (by omega), pUp_at]; decide
  · rw [pW1_ne (by omega) (by omega) (by omega)]; exact (h i hi).1
theorem pIb_n {S : kSt} {ρ0 ρ : Nat → Int32} (h : pIb ρ) : ∀ k, k ≤ 40 → pIb (pWn S ρ0 k ρ)
  | 0, _ => h
  | k + 1, hk => pIb_w (by omega) (pIb_n h k (by omega))
/-! ===== what is kept of a row ===== -/
/-- pieces of a cell in use for the first k letters of a verse -/
def cnV (S : kSt) (g : Nat → Int32) (v c : Nat) : Nat → Nat
  | 0 => 0
  | k + 1 => cnV S g v c k + (if 8 * (g k).toInt.toNat + wl S v k = c then 1 else 0)
theorem cnV_le {S : kSt} {g : Nat → Int32} {v c : Nat} : ∀ k, cnV S g v c k ≤ k
  | 0 => Nat.le_refl _
  | k + 1 => by
    have := cnV_le (S := S) (g := g) (v := v) (c := c) k
    show cnV S g v c k + (if 8 * (g k).toInt.toNat + wl S v k = c then 1 else 0) ≤ k + 1
    by_cases q : 8 * (g k).toInt.toNat + wl S v k = c
    · rw [if_pos q]; omega
    · rw [if_neg q]; omega
theorem cnV_cg {S : kSt} {g g' : Nat → Int32} {v c : Nat} : ∀ k, (∀ i, i < k → g' i = g i) → cnV S g' v c k = cnV S g v c k
  | 0, _ => rfl
  | k + 1, h => by
    show cnV S g' v c k + (if 8 * (g' k).toInt.toNat + wl S v k = c then 1 else 0) = cnV S g v c k + (if 8 * (g k).toInt.toNat + wl S v k = c then 1 else 0)
    rw [cnV_cg k (fun i hi => h i (by omega)), h k (Nat.lt_succ_self k)]
/-- of all letters of a verse that is SET -/
def cnS (S : kSt) (ρ : Nat → Int32) (c v : Nat) : Nat := if ρ (320 + v) = 1 ∨ ρ (320 + v) = 2 then cnV S (fun i => ρ (330 + 8 * v + i)) v c (kV S v).1.length else 0
def cnT (S : kSt) (ρ : Nat → Int32) (c : Nat) : Nat → Nat
  | 0 => 0
  | v + 1 => cnT S ρ c v + cnS S ρ c v
theorem cnS_le {S : kSt} (hW : kWf S) {ρ : Nat → Int32} {c v : Nat} : cnS S ρ c v ≤ 8 := by
  unfold cnS
  have h8 := (kWf_V hW v).1
  by_cases q : ρ (320 + v) = 1 ∨ ρ (320 + v) = 2
  · rw [if_pos q]
    have := cnV_le (S := S) (g := fun i => ρ (330 + 8 * v + i)) (v := v) (c := c) (kV S v).1.length
    omega
  · rw [if_neg q]; omega
theorem cnT_le {S : kSt} (hW : kWf S) {ρ : Nat → Int32} {c : Nat} : ∀ n, cnT S ρ c n ≤ 8 * n
  | 0 => Nat.le_refl _
  | n + 1 => by
    have := cnT_le hW (ρ := ρ) (c := c) n
    have := cnS_le hW (ρ := ρ) (c := c) (v := n)
    show cnT S ρ c n + cnS S ρ c n ≤ 8 * (n + 1)
    omega
theorem cnS_cg {S : kSt} {ρ ρ' : Nat → Int32} {c v : Nat} (hs : stS ρ' v ↔ stS ρ v) (hf : stS ρ v → ∀ i, i < (kV S v).1.length → ρ' (330 + 8 * v + i) = ρ (330 + 8 * v + i)) : cnS S ρ' c v = cnS S ρ c v := by
  unfold cnS
  by_cases q : stS ρ v
  · rw [if_pos (show ρ' (320 + v) = 1 ∨ ρ' (320 + v) = 2 from hs.mpr q), if_pos (show ρ (320 + v) = 1 ∨ ρ (320 + v) = 2 from q)]
    exact cnV_cg _ (hf q)
  · rw [if_neg (show ¬ (ρ' (320 + v) = 1 ∨ ρ' (320 + v) = 2) from fun z => q (hs.mp z)), if_neg (show ¬ (ρ (320 + v) = 1 ∨ ρ (320 + v) = 2) from q)]
theorem cnT_cg {S : kSt} {ρ ρ' : Nat → Int32} {c : Nat} : ∀ n, (∀ v, v < n → cnS S ρ' c v = cnS S ρ c v) → cnT S ρ' c n = cnT S ρ c n
  | 0, _ => rfl
  | n + 1, h => by
    show cnT S ρ' c n + cnS S ρ' c n = cnT S ρ c n + cnS S ρ c n
    rw [cnT_cg n (fun v hv => h v (by omega)), h n (Nat.lt_succ_self n)]
/-- one verse more -/
theorem cnT_1 {S : kSt} {ρ ρ' : Nat → Int32} {c w x : Nat} (h0 : cnS S ρ' c w = cnS S ρ c w + x) : ∀ n, (∀ v, v < n → ¬ v = w → cnS S ρ' c v = cnS S ρ c v) → cnT S ρ' c n = cnT S ρ c n + (if w < n then x else 0)
  | 0, _ => rfl
  | n + 1, h => by
    have ih := cnT_1 h0 n (fun v hv => h v (by omega))
    show cnT S ρ' c n + cnS S ρ' c n = cnT S ρ c n + cnS S ρ c n + (if w < n + 1 then x else 0)
    rw [ih]
    by_cases e : n = w
    · subst e
      rw [h0, if_neg (Nat.lt_irrefl n), if_pos (Nat.lt_succ_self n)]
      omega
    · rw [h n (Nat.lt_succ_self n) e]
      by_cases q : w < n
      · rw [if_pos q, if_pos (by omega)]; omega
      · rw [if_neg q, if_neg (by omega)]; omega
/-- what is kept of a row -/
def pI (S : kSt) (ρ : Nat → Int32) : Prop := (∀ c, c < 40 → ρ (40 + c) = Int32.ofNat (cnT S ρ c S.2.1.length)) ∧ (∀ c, c < 40 → 0 ≤ (ρ (80 + c)).toInt ∧ (ρ (80 + c)).toInt ≤ 999) ∧ ∀ c, 8 * S.1.length ≤ c → c < 40 → ρ c = 0
theorem pI_b {S : kSt} (hW : kWf S) {ρ : Nat → Int32} (h : pI S ρ) : pIb ρ := fun c hc => by
  refine ⟨h.2.1 c hc, ?_⟩
  have h7 := hW.2.1
  have := cnT_le hW (ρ := ρ) (c := c) S.2.1.length
  rw [h.1 c hc, Int32.toInt_ofNat_of_lt (by omega)]
  omega
theorem pI_r {S : kSt} (hW : kWf S) {ρ ρ' : Nat → Int32} (h : pI S ρ) (e : ∀ x, x < 390 → ρ' x = ρ x) : pI S ρ' := by
  have h7 := hW.2.1
  have hC : ∀ c, cnT S ρ' c S.2.1.length = cnT S ρ c S.2.1.length := fun c => cnT_cg _ (fun v hv => cnS_cg (by unfold stS; rw [e _ (by omega)]) (fun _ i hi => e _ (by have := (kWf_V hW v).1; omega)))
  refine ⟨fun c hc => ?_, fun c hc => ?_, fun c h1 hc => ?_⟩
  · rw [e _ (by omega), hC]; exact h.1 c hc
  · rw [e _ (by omega)]; exact h.2.1 c hc
  · rw [e _ (by omega)]; exact h.2.2 c h1 hc
/-- used and set are as they were -/
theorem pI_s {S : kSt} {ρ ρ' : Nat → Int32} (h : pI S ρ) (e1 : ∀ c, c < 40 → ρ' (40 + c) = ρ (40 + c)) (e2 : ∀ v, v < S.2.1.length → (stS ρ' v ↔ stS ρ v) ∧ ∀ i, i < (kV S v).1.length → ρ' (330 + 8 * v + i) = ρ (330 + 8 * v + i)) (e3 : ∀ c, c < 40 → 0 ≤ (ρ' (80 + c)).toInt ∧ (ρ' (80 + c)).toInt ≤ 999) (e4 : ∀ c, 8 * S.1.length ≤ c → c < 40 → ρ' c = 0) : pI S ρ' := by
  refine ⟨fun c hc => ?_, e3, e4⟩
  rw [e1 c hc, h.1 c hc, cnT_cg (ρ' := ρ') (ρ := ρ) _ (fun v hv => cnS_cg (e2 v hv).1 (fun _ => (e2 v hv).2))]
theorem pMv_ne {a b l i : Nat} {ρ : Nat → Int32} (h1 : ¬ i = 8 * a + l) (h2 : ¬ i = 8 * b + l) : pMv a b l ρ i = ρ i := by
  unfold pMv
  rw [pUp_ne h2, pUp_ne h1]
theorem pI_ld {S : kSt} (hW : kWf S) {ρ : Nat → Int32} {a b l : Nat} (h : pI S ρ) (ha : a < S.1.length) (hb : b < S.1.length) (hl : l < 8) : pI S (pLd a b l ρ) := by
  have h5 := hW.1
  have h7 := hW.2.1
  have e : ∀ x, ¬ x = 8 * a + l → ¬ x = 8 * b + l → ¬ x = 120 + (40 * a + 8 * b + l) → pLd a b l ρ x = ρ x := fun x p q w => by
    unfold pLd
    rw [pUp_ne w, pMv_ne p q]
  exact pI_s h (fun c hc => e _ (by omega) (by omega) (by omega)) (fun v hv => ⟨by unfold stS; rw [e _ (by omega) (by omega) (by omega)], fun i hi => e _ (by omega) (by omega) (by omega)⟩) (fun c hc => by rw [e _ (by omega) (by omega) (by omega)]; exact h.2.1 c hc) (fun c h1 hc => by rw [e _ (by omega) (by omega) (by omega)]; exact h.2.2 c h1 hc)
theorem pI_gb {S : kSt} (hW : kWf S) {ρ : Nat → Int32} {a b l : Nat} (h : pI S ρ) (ha : a < S.1.length) (hb : b < S.1.length) (hl : l < 8) : pI S (pGb a b l ρ) := by
  have h5 := hW.1
  have h7 := hW.2.1
  have e : ∀ x, ¬ x = 8 * a + l → ¬ x = 8 * b + l → ¬ x = 120 + (40 * b + 8 * a + l) → pGb a b l ρ x = ρ x := fun x p q w => by
    unfold pGb
    rw [pUp_ne w, pMv_ne p q]
  exact pI_s h (fun c hc => e _ (by omega) (by omega) (by omega)) (fun v hv => ⟨by unfold stS; rw [e _ (by omega) (by omega) (by omega)], fun i hi => e _ (by omega) (by omega) (by omega)⟩) (fun c hc => by rw [e _ (by omega) (by omega) (by omega)]; exact h.2.1 c hc) (fun c h1 hc => by rw [e _ (by omega) (by omega) (by omega)]; exact h.2.2 c h1 hc)
/-- in use, behind n letters laid down by g -/
theorem pLy_u {S : kSt} (hW : kWf S) {v c : Nat} {g : Nat → Int32} {ρ : Nat → Int32} (hc : c < 40) : ∀ n, n ≤ (kV S v).1.length → (∀ i, i < n → (g i).toInt ≤ 4) → pLy S v g n ρ (40 + c) = ρ (40 + c) + Int32.ofNat (cnV S g v c n)
  | 0, _, _ => (Int32.add_zero _).symm
  | n + 1, hn, hg => by
    have ih := pLy_u hW (v := v) (g := g) (ρ := ρ) hc n (by omega) (fun i hi => hg i (by omega))
    have h4 := hg n (Nat.lt_succ_self n)
    have hw := (wl_b hW (v := v) (k := n) (by omega)).2
    show pUp (pUp (pLy S v g n ρ) (330 + 8 * v + n) (g n)) (40 + (8 * (g n).toInt.toNat + wl S v n)) (pLy S v g n ρ (40 + (8 * (g n).toInt.toNat + wl S v n)) + 1) (40 + c) = ρ (40 + c) + Int32.ofNat (cnV S g v c n + (if 8 * (g n).toInt.toNat + wl S v n = c then 1 else 0))
    by_cases q : 8 * (g n).toInt.toNat + wl S v n = c
    · rw [q, if_pos rfl, pUp_at, ih, Int32.ofNat_add, ← Int32.add_assoc] <;> rfl
    · rw [if_neg q, pUp_ne (by omega), pUp_ne (by omega), ih] <;> rfl
theorem pLy_ne {S : kSt} (hW : kWf S) {v i : Nat} {g : Nat → Int32} {ρ : Nat → Int32} (h : i < 40 ∨ 80 ≤ i) (h2 : ¬ (330 + 8 * v ≤ i ∧ i < 330 + 8 * v + 8)) : ∀ n, n ≤ (kV S v).1.length → (∀ i, i < n → (g i).toInt ≤ 4) → pLy S v g n ρ i = ρ i
  | 0, _, _ => rfl
  | n + 1, hn, hg => by
    have ih := pLy_ne hW (v := v) (g := g) (ρ := ρ) h h2 n (by omega) (fun i hi => hg i (by omega))
    have h4 := hg n (Nat.lt_succ_self n)
    have hw := (wl_b hW (v := v) (k := n) (by omega)).2
    have h8 := (kWf_V hW v).1
    show pUp (pUp (pLy S v g n ρ) (330 + 8 * v + n) (g n)) (40 + (8 * (g n).toInt.toNat + wl S v n)) _ i = ρ i
    rw [pUp_ne (by omega), pUp_ne (by omega), ih]
theorem pI_set {S : kSt} (hW : kWf S) {ρ ρ' : Nat → Int32} {v : Nat} (h : pI S ρ) (hv : v < S.2.1.length) (h0 : ρ (320 + v) = 0) (hst : pSt S v (kV S v).1.length (pNo v ρ) = some ρ') : pI S (pUp ρ' (320 + v) 1) := by
  obtain ⟨e1, e2⟩ := pLy_of hW _ (Nat.le_refl _) ρ' hst
  have h7 := hW.2.1
  have h8 := (kWf_V hW v).1
  have hN : ∀ x, ¬ (330 + 8 * v ≤ x ∧ x < 330 + 8 * v + 8) → pNo v ρ x = ρ x := fun x q => if_neg q
  have hne : ∀ x, (x < 40 ∨ 80 ≤ x) → ¬ (330 + 8 * v ≤ x ∧ x < 330 + 8 * v + 8) → ρ' x = ρ x := fun x p q => by
    have h9 := pLy_ne hW (v := v) (g := fun i => ρ' (330 + 8 * v + i)) (ρ := pNo v ρ) p q _ (Nat.le_refl _) (fun i hi => (e2 i hi).2)
    rw [← e1, hN x q] at h9
    exact h9
  have hu : ∀ c, c < 40 → ρ' (40 + c) = ρ (40 + c) + Int32.ofNat (cnV S (fun i => ρ' (330 + 8 * v + i)) v c (kV S v).1.length) := fun c hc => by
    have h9 := pLy_u hW (v := v) (g := fun i => ρ' (330 + 8 * v + i)) (ρ := pNo v ρ) hc _ (Nat.le_refl _) (fun i hi => (e2 i hi).2)
    rw [← e1, hN _ (by omega)] at h9
    exact h9
  have hC : ∀ c, cnT S (pUp ρ' (320 + v) 1) c S.2.1.length = cnT S ρ c S.2.1.length + cnV S (fun i => ρ' (330 + 8 * v + i)) v c (kV S v).1.length := fun c => by
    have h9 := cnT_1 (S := S) (ρ := ρ) (ρ' := pUp ρ' (320 + v) 1) (c := c) (w := v) (x := cnV S (fun i => ρ' (330 + 8 * v + i)) v c (kV S v).1.length) (by
      unfold cnS
      rw [if_pos (Or.inl pUp_at), if_neg (fun z => by rw [h0] at z; rcases z with z | z <;> exact absurd z (by decide)), Nat.zero_add]
      exact cnV_cg _ (fun i hi => pUp_ne (by omega))) S.2.1.length (fun w hw hne2 => cnS_cg (by
        have ew : pUp ρ' (320 + v) 1 (320 + w) = ρ (320 + w) := by rw [pUp_ne (by omega)]; exact hne _ (by omega) (by omega)
        unfold stS
        rw [ew]) (fun _ i hi => by
        have h8w := (kWf_V hW w).1
        rw [pUp_ne (by omega)]
        exact hne _ (by omega) (by omega)))
    rw [if_pos hv] at h9
    exact h9
  refine ⟨fun c hc => ?_, fun c hc => ?_, fun c h1 hc => ?_⟩
  · rw [pUp_ne (by omega), hu c hc, h.1 c hc, hC, Int32.ofNat_add]
  · rw [pUp_ne (by omega), hne _ (by omega) (by omega)]; exact h.2.1 c hc
  · rw [pUp_ne (by omega), hne _ (by omega) (by omega)]; exact h.2.2 c h1 hc
/-- in use, behind k letters cleared -/
theorem pCl_u {S : kSt} (hW : kWf S) {v c : Nat} {ρ : Nat → Int32} (hc : c < 40) : ∀ k, k ≤ (kV S v).1.length → (∀ i, i < k → 0 ≤ (ρ (330 + 8 * v + i)).toInt ∧ (ρ (330 + 8 * v + i)).toInt ≤ 4) → pCl S v k ρ (40 + c) + Int32.ofNat (cnV S (fun i => ρ (330 + 8 * v + i)) v c k) = ρ (40 + c)
  | 0, _, _ => Int32.add_zero _
  | k + 1, hk, hf => by
    have ih := pCl_u hW (v := v) (ρ := ρ) hc k (by omega) (fun i hi => hf i (by omega))
    have ef := pCl_hi hW (v := v) (ρ := ρ) k (by omega) (fun i hi => (hf i (by omega)).2) (330 + 8 * v + k) (by omega)
    obtain ⟨h0, h4⟩ := hf k (Nat.lt_succ_self k)
    have hw := (wl_b hW (v := v) (k := k) (by omega)).2
    have es : pCl S v (k + 1) ρ = pUp (pCl S v k ρ) (40 + (8 * (ρ (330 + 8 * v + k)).toInt.toNat + wl S v k)) (pCl S v k ρ (40 + (8 * (ρ (330 + 8 * v + k)).toInt.toNat + wl S v k)) - 1) := by
      show (if 0 ≤ (pCl S v k ρ (330 + 8 * v + k)).toInt then _ else _) = _
      rw [ef, if_pos h0]
    rw [es]
    show pUp (pCl S v k ρ) (40 + (8 * (ρ (330 + 8 * v + k)).toInt.toNat + wl S v k)) (pCl S v k ρ (40 + (8 * (ρ (330 + 8 * v + k)).toInt.toNat + wl S v k)) - 1) (40 + c) + Int32.ofNat (cnV S (fun i => ρ (330 + 8 * v + i)) v c k + (if 8 * (ρ (330 + 8 * v + k)).toInt.toNat + wl S v k = c then 1 else 0)) = ρ (40 + c)
    by_cases q : 8 * (ρ (330 + 8 * v + k)).toInt.toNat + wl S v k = c
    · rw [q, if_pos rfl, pUp_at, Int32.ofNat_add, ← ih, Int32.add_comm (Int32.ofNat _) (Int32.ofNat 1), ← Int32.add_assoc]
      have e1 : pCl S v k ρ (40 + c) - 1 + Int32.ofNat 1 = pCl S v k ρ (40 + c) := Int32.sub_add_cancel _ _
      rw [e1]
    · rw [if_neg q, pUp_ne (by omega), Nat.add_zero]; exact ih
theorem pCl_lo {S : kSt} {v i : Nat} {ρ : Nat → Int32} (h : i < 40) : ∀ k, pCl S v k ρ i = ρ i
  | 0 => rfl
  | k + 1 => by
    have ih := pCl_lo (S := S) (v := v) (ρ := ρ) h k
    show (if 0 ≤ (pCl S v k ρ (330 + 8 * v + k)).toInt then pUp (pCl S v k ρ) (40 + (8 * (pCl S v k ρ (330 + 8 * v + k)).toInt.toNat + wl S v k)) _ else pCl S v k ρ) i = ρ i
    by_cases q : 0 ≤ (pCl S v k ρ (330 + 8 * v + k)).toInt
    · rw [if_pos q, pUp_ne (by omega)]; exact ih
    · rw [if_neg q]; exact ih
theorem pI_clr {S : kSt} (hW : kWf S) {ρ : Nat → Int32} {v : Nat} (h : pI S ρ) (hv : v < S.2.1.length) (hs : stS ρ v) (hf : ∀ i, i < (kV S v).1.length → 0 ≤ (ρ (330 + 8 * v + i)).toInt ∧ (ρ (330 + 8 * v + i)).toInt ≤ 4) : pI S (pClr S v ρ) := by
  have h7 := hW.2.1
  have h8 := (kWf_V hW v).1
  have hhi : ∀ x, 80 ≤ x → ¬ x = 320 + v → pClr S v ρ x = ρ x := fun x q p => by
    unfold pClr
    rw [pUp_ne p]
    exact pCl_hi hW _ (Nat.le_refl _) (fun i hi => (hf i hi).2) x q
  have hat : pClr S v ρ (320 + v) = if ρ (320 + v) = 2 then 3 else 0 := by
    unfold pClr
    exact pUp_at
  have hn : ¬ stS (pClr S v ρ) v := fun z => by
    unfold stS at z
    rw [hat] at z
    by_cases y : ρ (320 + v) = 2
    · rw [if_pos y] at z; exact absurd z (by decide)
    · rw [if_neg y] at z; exact absurd z (by decide)
  have hC : ∀ c, cnT S ρ c S.2.1.length = cnT S (pClr S v ρ) c S.2.1.length + cnV S (fun i => ρ (330 + 8 * v + i)) v c (kV S v).1.length := fun c => by
    have h9 := cnT_1 (S := S) (ρ := pClr S v ρ) (ρ' := ρ) (c := c) (w := v) (x := cnV S (fun i => ρ (330 + 8 * v + i)) v c (kV S v).1.length) (by
      unfold cnS
      rw [if_pos (show ρ (320 + v) = 1 ∨ ρ (320 + v) = 2 from hs), if_neg (show ¬ (pClr S v ρ (320 + v) = 1 ∨ pClr S v ρ (320 + v) = 2) from hn), Nat.zero_add]) S.2.1.length (fun w hw hne2 => cnS_cg (by
        unfold stS
        rw [hhi _ (by omega) (by omega)]) (fun _ i hi => (hhi _ (by omega) (by have := (kWf_V hW w).1; omega)).symm))
    rw [if_pos hv] at h9
    exact h9
  refine ⟨fun c hc => ?_, fun c hc => ?_, fun c h1 hc => ?_⟩
  · have h9 := pCl_u hW (v := v) hc _ (Nat.le_refl _) hf
    have h6 := h.1 c hc
    rw [hC, Int32.ofNat_add, ← h9] at h6
    have e : pClr S v ρ (40 + c) = pCl S v (kV S v).1.length ρ (40 + c) := by
      unfold pClr
      rw [pUp_ne (by omega)]
    rw [e]
    exact (Int32.add_left_inj _).mp h6
  · rw [hhi _ (by omega) (by omega)]; exact h.2.1 c hc
  · have e : pClr S v ρ c = ρ c := by
      unfold pClr
      rw [pUp_ne (by omega)]
      exact pCl_lo hc _
    rw [e]; exact h.2.2 c h1 hc
theorem pI_ls {S : kSt} {ρ : Nat → Int32} {c : Nat} (h : pI S ρ) (hc : c < 40) (h0 : c < 8 * S.1.length ∨ ρ c = 0) (hW : kWf S) : pI S (pLs c ρ) := by
  by_cases q : ρ c = 0
  · unfold pLs
    rw [if_pos q]; exact h
  · have e : ∀ x, ¬ x = c → ¬ x = 388 → pLs c ρ x = ρ x := fun x p w => pLs_ne p w
    have h7 := hW.2.1
    have hcl : c < 8 * S.1.length := by
      rcases h0 with a | a
      · exact a
      · exact absurd a q
    exact pI_s h (fun x hx => e _ (by omega) (by omega)) (fun v hv => ⟨by unfold stS; rw [e _ (by omega) (by omega)], fun i hi => e _ (by omega) (by have := (kWf_V hW v).1; omega)⟩) (fun x hx => by rw [e _ (by omega) (by omega)]; exact h.2.1 x hx) (fun x h1 hx => by rw [e _ (by omega) (by omega)]; exact h.2.2 x h1 hx)
theorem pI_w1 {S : kSt} {sp : Int} {w : Int32} {ρ : Nat → Int32} {c : Nat} (h : pI S ρ) (hc : c < 8 * S.1.length) (hW : kWf S) : pI S (pW1 sp w c ρ) := by
  have h5 := hW.1
  have h7 := hW.2.1
  have e : ∀ x, ¬ x = c → ¬ x = 80 + c → ¬ x = 388 → pW1 sp w c ρ x = ρ x := fun x p q w => pW1_ne p q w
  exact pI_s h (fun x hx => e _ (by omega) (by omega) (by omega)) (fun v hv => ⟨by unfold stS; rw [e _ (by omega) (by omega) (by omega)], fun i hi => e _ (by omega) (by omega) (by have := (kWf_V hW v).1; omega)⟩) (fun x hx => ((pIb_w (sp := sp) (w := w) (by omega) (pI_b hW h)) x hx).1) (fun x h1 hx => by rw [e _ (by omega) (by omega) (by omega)]; exact h.2.2 x h1 hx)
theorem pI_wn {S : kSt} {ρ0 ρ : Nat → Int32} (hW : kWf S) (h : pI S ρ) : ∀ k, k ≤ 8 * S.1.length → pI S (pWn S ρ0 k ρ)
  | 0, _ => h
  | k + 1, hk => pI_w1 (pI_wn hW h k (by omega)) (by omega) hW
theorem pPd_S {S : kSt} {n v : Nat} {ρ : Nat → Int32} (hn : n ≤ 7) (hv : v < n) : stS (pPd S n ρ) v ↔ stS ρ v := by
  unfold stS
  rw [pPd_st hv hn]
  by_cases q : ρ (320 + v) = 1
  · rw [if_pos q, q]; decide
  · rw [if_neg q]
theorem pI_pd {S : kSt} (hW : kWf S) {ρ : Nat → Int32} (h : pI S ρ) : pI S (pPd S S.2.1.length ρ) := by
  have h7 := hW.2.1
  exact pI_s h (fun c hc => pPd_ne (by omega) (by omega)) (fun v hv => ⟨pPd_S h7 hv, fun i hi => pPd_ne (by omega) (by have := (kWf_V hW v).1; omega)⟩) (fun c hc => by rw [pPd_ne (by omega) (by omega)]; exact h.2.1 c hc) (fun c h1 hc => by rw [pPd_ne (by omega) (by omega)]; exact h.2.2 c h1 hc)
theorem pI_wk {S : kSt} (hW : kWf S) {ρ : Nat → Int32} (h : pI S ρ) : pI S (pWk S ρ) := pI_wn hW (pI_pd hW h) _ (Nat.le_refl _)
theorem pI_tv {S : kSt} (hW : kWf S) {sd : Int32} {ρ : Nat → Int32} (h : pI S ρ) : pI S (pTv S sd ρ) := by
  by_cases q : pTh S sd ρ
  · rw [pTv_y q]
    have hl := (pTl_b (sd := sd) (ρ := ρ)).2
    have h5 := pRi_5 (ρ := ρ) (l := pTl sd ρ) hW.1
    refine pI_ls h (by omega) ?_ hW
    by_cases e : S.1.length = 0
    · refine Or.inr (h.2.2 _ (by omega) (by omega))
    · have := pRi_b (ρ := ρ) (l := pTl sd ρ) S.1.length (by omega)
      exact Or.inl (by omega)
  · rw [pTv_n q]; exact h
theorem pI_dx {S : kSt} (hW : kWf S) {st sd : Int32} {ρ : Nat → Int32} (h : pI S ρ) : pI S (pDx S st sd ρ) := by
  unfold pDx
  by_cases q : st.toInt = 0
  · rw [if_pos q]; exact pI_tv hW (pI_wk hW h)
  · rw [if_neg q]; exact pI_wk hW h
theorem pI_up {S : kSt} (hW : kWf S) {ρ : Nat → Int32} {j : Nat} {x : Int32} (hj : 386 ≤ j) (h : pI S ρ) : pI S (pUp ρ j x) := by
  have h7 := hW.2.1
  have e : ∀ i, i < 386 → pUp ρ j x i = ρ i := fun i hi => pUp_ne (by omega)
  exact pI_s h (fun c hc => e _ (by omega)) (fun v hv => ⟨by unfold stS; rw [e _ (by omega)], fun i hi => e _ (by have := (kWf_V hW v).1; omega)⟩) (fun c hc => by rw [e _ (by omega)]; exact h.2.1 c hc) (fun c h1 hc => by rw [e _ (by omega)]; exact h.2.2 c h1 hc)
theorem pI_dy {S : kSt} (hW : kWf S) {st sd : Int32} {ρ : Nat → Int32} (h : pI S ρ) : pI S (pDy S st sd ρ) := pI_up hW (by decide) (pI_dx hW h)
theorem pI_dys {S : kSt} (hW : kWf S) {st sd : Int32} {ρ : Nat → Int32} (h : pI S ρ) : ∀ k, pI S (pDys S st sd k ρ)
  | 0 => h
  | k + 1 => pI_dy hW (pI_dys hW h k)
