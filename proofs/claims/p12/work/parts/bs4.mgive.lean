/-! ===== who gives a piece ===== -/
/-- free pieces of a cell -/
def pFe (ρ : Nat → Int32) (c : Nat) : Int32 := if (ρ c - ρ (40 + c)).toInt < 0 then 0 else ρ c - ρ (40 + c)
theorem pFe_c {ρ : Nat → Int32} {c : Nat} : (if (0 : Int32) < ρ c - ρ (40 + c) then ρ c - ρ (40 + c) else 0) = pFe ρ c := by
  have e0 : (0 : Int32).toInt = 0 := by decide
  unfold pFe
  by_cases a : (0 : Int32) < ρ c - ρ (40 + c)
  · have := Int32.lt_iff_toInt_lt.mp a
    rw [if_pos a, if_neg (show ¬ (ρ c - ρ (40 + c)).toInt < 0 by omega)]
  · have a2 : ¬ (0 : Int32).toInt < (ρ c - ρ (40 + c)).toInt := fun q => a (Int32.lt_iff_toInt_lt.mpr q)
    rw [if_neg a]
    by_cases b : (ρ c - ρ (40 + c)).toInt < 0
    · rw [if_pos b]
    · rw [if_neg b]
      exact Int32.toInt_inj.mp (by omega)
theorem pFe_nn {ρ : Nat → Int32} {c : Nat} : 0 ≤ (pFe ρ c).toInt := by
  unfold pFe
  by_cases b : (ρ c - ρ (40 + c)).toInt < 0
  · rw [if_pos b]; decide
  · rw [if_neg b]; omega
def elG (H : Nat) (lv : Nat → Prop) (fr : Nat → Int32) (h : Nat) : Prop := h < H ∧ ¬ fr h = 0 ∧ lv h
def isGv (H : Nat) (lv : Nat → Prop) (fr rk : Nat → Int32) (b : Nat) : Prop := elG H lv fr b ∧ ∀ h, elG H lv fr h → (rk h).toInt < (rk b).toInt ∨ ((rk h).toInt = (rk b).toInt ∧ b ≤ h)
theorem isGv_1 {H : Nat} {lv : Nat → Prop} {fr rk : Nat → Int32} {a b : Nat} (ha : isGv H lv fr rk a) (hb : isGv H lv fr rk b) : a = b := by
  have h1 := ha.2 b hb.1
  have h2 := hb.2 a ha.1
  omega
/-- the giver's number, or -1 -/
def gvR (H : Nat) (lv : Nat → Prop) (fr rk : Nat → Int32) (x : Int) : Prop := (x = -1 ∧ ∀ h, ¬ elG H lv fr h) ∨ ∃ b : Nat, x = (b : Int) ∧ isGv H lv fr rk b
theorem gvR_1 {H : Nat} {lv : Nat → Prop} {fr rk : Nat → Int32} {x y : Int} (h1 : gvR H lv fr rk x) (h2 : gvR H lv fr rk y) : x = y := by
  rcases h1 with ⟨a, b⟩ | ⟨b, a, c⟩
  · rcases h2 with ⟨d, -⟩ | ⟨d, -, e⟩
    · rw [a, d]
    · exact absurd e.1 (b d)
  · rcases h2 with ⟨-, e⟩ | ⟨d, e, f⟩
    · exact absurd c.1 (e b)
    · rw [a, e, isGv_1 c f]
theorem gvR_cg {H : Nat} {lv lv' : Nat → Prop} {fr fr' rk rk' : Nat → Int32} {x : Int} (e1 : ∀ h, h < H → (lv' h ↔ lv h)) (e2 : ∀ h, h < H → fr' h = fr h) (e3 : ∀ h, h < H → rk' h = rk h) (hx : gvR H lv fr rk x) : gvR H lv' fr' rk' x := by
  have el : ∀ h, elG H lv' fr' h ↔ elG H lv fr h := fun h => ⟨fun ⟨a, b, c⟩ => ⟨a, by rw [← e2 h a]; exact b, (e1 h a).mp c⟩, fun ⟨a, b, c⟩ => ⟨a, by rw [e2 h a]; exact b, (e1 h a).mpr c⟩⟩
  rcases hx with ⟨a, b⟩ | ⟨b, a, c, d⟩
  · exact Or.inl ⟨a, fun h q => b h ((el h).mp q)⟩
  · refine Or.inr ⟨b, a, (el b).mpr c, fun h q => ?_⟩
    rw [e3 h q.1, e3 b c.1]
    exact d h ((el h).mp q)
theorem gvR_0 {lv : Nat → Prop} {fr rk : Nat → Int32} : gvR 0 lv fr rk (-1) := Or.inl ⟨rfl, fun h q => absurd q.1 (Nat.not_lt_zero h)⟩
theorem gvR_no {i : Nat} {lv : Nat → Prop} {fr rk : Nat → Int32} {x : Int} (h : gvR i lv fr rk x) (hn : ¬ (¬ fr i = 0 ∧ lv i)) : gvR (i + 1) lv fr rk x := by
  have el : ∀ h, elG (i + 1) lv fr h → elG i lv fr h := fun h ⟨a, b, c⟩ => by
    by_cases e : h = i
    · subst e; exact absurd ⟨b, c⟩ hn
    · exact ⟨by omega, b, c⟩
  rcases h with ⟨a, b⟩ | ⟨b, a, c, d⟩
  · exact Or.inl ⟨a, fun h q => b h (el h q)⟩
  · exact Or.inr ⟨b, a, ⟨Nat.lt_succ_of_lt c.1, c.2⟩, fun h q => d h (el h q)⟩
theorem gvR_le {i : Nat} {lv : Nat → Prop} {fr rk : Nat → Int32} {b : Nat} (h : gvR i lv fr rk (b : Int)) (hr : (rk i).toInt ≤ (rk b).toInt) : gvR (i + 1) lv fr rk (b : Int) := by
  rcases h with ⟨a, -⟩ | ⟨b', a, c, d⟩
  · omega
  · have e : b' = b := by omega
    subst e
    refine Or.inr ⟨b', rfl, ⟨Nat.lt_succ_of_lt c.1, c.2⟩, fun h ⟨q1, q2, q3⟩ => ?_⟩
    by_cases e : h = i
    · subst e; have := c.1; omega
    · exact d h ⟨by omega, q2, q3⟩
theorem gvR_new {i : Nat} {lv : Nat → Prop} {fr rk : Nat → Int32} {x : Int} (h : gvR i lv fr rk x) (hf : ¬ fr i = 0) (hl : lv i) (hr : x = -1 ∨ (rk x.toNat).toInt < (rk i).toInt) : gvR (i + 1) lv fr rk (i : Int) := by
  refine Or.inr ⟨i, rfl, ⟨Nat.lt_succ_self i, hf, hl⟩, fun k ⟨q1, q2, q3⟩ => ?_⟩
  by_cases e : k = i
  · subst e; exact Or.inr ⟨rfl, Nat.le_refl _⟩
  · rcases h with ⟨a, b⟩ | ⟨b, a, c, d⟩
    · exact absurd ⟨by omega, q2, q3⟩ (b k)
    · have := d k ⟨by omega, q2, q3⟩
      have e2 : x.toNat = b := by omega
      rw [e2] at hr
      left
      omega
/-- a giver for a letter of a verse, on a row -/
noncomputable def pGi (S : kSt) (ρ : Nat → Int32) (l v : Nat) : Int := @dite _ (∃ x, gvR S.1.length (fun h => pLv S ρ h l v) (fun h => pFe ρ (8 * h + l)) (fun h => pRk S ρ h l v) x) (Classical.propDecidable _) (fun h => h.choose) (fun _ => -1)
theorem pGi_eq {S : kSt} {ρ : Nat → Int32} {l v : Nat} {x : Int} (h : gvR S.1.length (fun h => pLv S ρ h l v) (fun h => pFe ρ (8 * h + l)) (fun h => pRk S ρ h l v) x) : x = pGi S ρ l v := by
  have hx : ∃ x, gvR S.1.length (fun h => pLv S ρ h l v) (fun h => pFe ρ (8 * h + l)) (fun h => pRk S ρ h l v) x := ⟨x, h⟩
  unfold pGi
  rw [dif_pos hx]
  exact gvR_1 h hx.choose_spec
def pUp (ρ : Nat → Int32) (j : Nat) (x : Int32) : Nat → Int32 := fun i => if i = j then x else ρ i
theorem pUp_at {ρ : Nat → Int32} {j : Nat} {x : Int32} : pUp ρ j x j = x := if_pos rfl
theorem pUp_ne {ρ : Nat → Int32} {i j : Nat} {x : Int32} (h : ¬ i = j) : pUp ρ j x i = ρ i := if_neg h
theorem row_i {ω : xM} {j : Nat} {v : Int32} : (fun x => (xpi ω 108 j v).1 108 x) = pUp (fun x => ω.1 108 x) j v := by
  funext x
  show (if 108 = 108 ∧ x = j then v else ω.1 108 x) = if x = j then v else ω.1 108 x
  by_cases h : x = j
  · rw [if_pos ⟨rfl, h⟩, if_pos h]
  · rw [if_neg (fun q => h q.2), if_neg h]
/-- a verse's k-th letter -/
def wl (S : kSt) (v k : Nat) : Nat := ((kV S v).1.getD k 0).toNat
theorem wl_b {S : kSt} (hW : kWf S) {v k : Nat} (hk : k < (kV S v).1.length) : (kV S v).1.getD k 0 = (wl S v k : Int) ∧ wl S v k ≤ 7 := by
  have h := (kWf_V hW v).2.1 ((kV S v).1.getD k 0) (by rw [List.getD_eq_getElem?_getD, List.getElem?_eq_getElem hk]; exact List.getElem_mem hk)
  unfold wl
  omega
/-- a row behind k letters of a verse that is cleared -/
def pCl (S : kSt) (v : Nat) : Nat → (Nat → Int32) → (Nat → Int32)
  | 0, ρ => ρ
  | k + 1, ρ => if 0 ≤ (pCl S v k ρ (330 + 8 * v + k)).toInt then pUp (pCl S v k ρ) (40 + (8 * (pCl S v k ρ (330 + 8 * v + k)).toInt.toNat + wl S v k)) (pCl S v k ρ (40 + (8 * (pCl S v k ρ (330 + 8 * v + k)).toInt.toNat + wl S v k)) - 1) else pCl S v k ρ
/-- behind k letters of a verse that is set, none: it can't be -/
noncomputable def pSt (S : kSt) (v : Nat) : Nat → (Nat → Int32) → Option (Nat → Int32)
  | 0, ρ => some ρ
  | k + 1, ρ => (pSt S v k ρ).bind (fun ρ' => if pGi S ρ' (wl S v k) v < 0 then none else some (pUp (pUp ρ' (330 + 8 * v + k) (Int32.ofInt (pGi S ρ' (wl S v k) v))) (40 + (8 * (pGi S ρ' (wl S v k) v).toNat + wl S v k)) (ρ' (40 + (8 * (pGi S ρ' (wl S v k) v).toNat + wl S v k)) + 1)))
/-- no house for its letters yet -/
def pNo (v : Nat) (ρ : Nat → Int32) : Nat → Int32 := fun i => if 330 + 8 * v ≤ i ∧ i < 330 + 8 * v + 8 then -1 else ρ i
/-- the row, and what a giver is sought with, may change -/
def gR (μ μ' : xM) : Prop := (∀ k j, k ≠ 105 → k ≠ 106 → k ≠ 108 → ¬ (k = 75 ∧ (j = 58 ∨ j = 59)) → μ'.1 k j = μ.1 k j) ∧ μ'.2 = μ.2
theorem gR_rf {μ : xM} : gR μ μ := ⟨fun _ _ _ _ _ _ => rfl, rfl⟩
theorem gR_tr {μ ν ω : xM} (h1 : gR μ ν) (h2 : gR ν ω) : gR μ ω := ⟨fun k j a b c d => (h2.1 k j a b c d).trans (h1.1 k j a b c d), h2.2.trans h1.2⟩
theorem gR_i {μ ν : xM} {j : Nat} {v : Int32} (h : gR μ ν) : gR μ (xpi ν 108 j v) := ⟨fun k i a b c d => (xpi_ne (fun q => c q.1)).trans (h.1 k i a b c d), h.2⟩
theorem gR_f {μ ν : xM} {v : Int32} (h : gR μ ν) : gR μ (xpi ν 75 59 v) := ⟨fun k i a b c d => (xpi_ne (fun q => d ⟨q.1, Or.inr q.2⟩)).trans (h.1 k i a b c d), h.2⟩
theorem gR_M {μ ν : xM} (h : gM μ ν) : gR μ ν := ⟨fun k j a b _ d => h.1 k j a b (fun q => d ⟨q.1, Or.inl q.2⟩), h.2⟩
theorem gR_c {μ ν : xM} (h : gR μ ν) {k j : Nat} (a : k ≠ 105) (b : k ≠ 106) (c : k ≠ 108) (d : k ≠ 75) : ν.1 k j = μ.1 k j := h.1 k j a b c (fun q => d q.1)
theorem rS9_R {S : kSt} {s : Nat} {μ ν : xM} (h : rS9 S s μ) (e : gR μ ν) : rS9 S s ν := rS9_cg h (fun k j a b => gR_c e (by omega) (by omega) (by omega) (by omega)) (e.1 75 2 (by decide) (by decide) (by decide) (fun q => by omega))
abbrev xq_138 : xP := (⟨"CapitalCaseModel", "freeOf", "(II)I"⟩, prog_14_method_54_code, 4, (some .int))
abbrev xq_141 : xP := (⟨"CapitalCaseModel", "giverOf", "(II)I"⟩, prog_14_method_63_code, 7, (some .int))
abbrev xq_128 : xP := (⟨"CapitalCaseModel", "clears", "(I)V"⟩, prog_14_method_64_code, 3, none)
abbrev xq_185 : xP := (⟨"CapitalCaseModel", "sets", "(I)Z"⟩, prog_14_method_65_code, 5, (some .boolean))
set_option maxRecDepth 10000 in
set_option maxHeartbeats 4000000 in
theorem ex_freeOf {hh0 l : Int32} {hn ln : Nat} {μ μ' : xM} {r : Option zV} (h0 : Ex gx xq_138 [.inr (.inl (some 75)), .inl hh0, .inl l] μ r μ') (hsh : (μ.1 75 8).toInt = -1) (hh : hh0.toInt = (hn : Int)) (hh4 : hn ≤ 4) (hl : l.toInt = (ln : Int)) (hl7 : ln ≤ 7) : μ' = μ ∧ r = some (.inl (pFe (fun x => μ.1 108 x) (8 * hn + ln))) := by
  obtain ⟨n, h⟩ := tx_in (L := [some (.inr (.inl (some 75))), some (.inl hh0), some (.inl l), none]) h0 rfl
  have e8i : (8 : Int32).toInt = 8 := by decide
  have e40 : (40 : Int32).toInt = 40 := by decide
  have m1 : ((8 : Int32) * hh0).toInt = 8 * (hn : Int) := by rw [an_mul (by rw [e8i]; omega) (by rw [e8i]; omega), e8i, hh]
  have m2 : (((8 : Int32) * hh0) + l).toInt = 8 * (hn : Int) + ln := by rw [an_add (by rw [m1]; omega) (by rw [m1]; omega), m1, hl]
  have m3 : ((40 : Int32) + ((8 : Int32) * hh0)).toInt = 40 + 8 * (hn : Int) := by rw [an_add (by rw [m1, e40]; omega) (by rw [m1, e40]; omega), m1, e40]
  have m4 : (((40 : Int32) + ((8 : Int32) * hh0)) + l).toInt = 40 + 8 * (hn : Int) + ln := by rw [an_add (by rw [m3]; omega) (by rw [m3]; omega), m3, hl]
  have i1 : (((8 : Int32) * hh0) + l).toInt.toNat = 8 * hn + ln := by omega
  have i2 : (((40 : Int32) + ((8 : Int32) * hh0)) + l).toInt.toNat = 40 + (8 * hn + ln) := by omega
  replace h := tx_aload_n (p' := 1) h em138_0 rfl rfl
  replace h := tx_getc (c := 12) (j := 0) (p' := 4) h em138_1 ((congrFun xo_12 116).trans rfl) rfl rfl rfl
  replace h := tx_bipush (v := 8) (p' := 6) h em138_4 (by decide +kernel) rfl
  replace h := tx_iload_n (p' := 7) h em138_6 rfl rfl
  replace h := tx_imul (p' := 8) h em138_7 rfl
  replace h := tx_iload_n (p' := 9) h em138_8 rfl rfl
  replace h := tx_iadd (p' := 10) h em138_9 rfl
  obtain ⟨hb10, h⟩ := tx_iald (len := 390) (p' := 11) h em138_10 rfl rfl
  replace hb10 : (0 : Int) ≤ (((8 : Int32) * hh0) + l).toInt ∧ (((8 : Int32) * hh0) + l).toInt < 390 := hb10
  replace h := tx_aload_n (p' := 12) h em138_11 rfl rfl
  replace h := tx_getc (c := 12) (j := 0) (p' := 15) h em138_12 ((congrFun xo_12 116).trans rfl) rfl rfl rfl
  replace h := tx_bipush (v := 40) (p' := 17) h em138_15 (by decide +kernel) rfl
  replace h := tx_bipush (v := 8) (p' := 19) h em138_17 (by decide +kernel) rfl
  replace h := tx_iload_n (p' := 20) h em138_19 rfl rfl
  replace h := tx_imul (p' := 21) h em138_20 rfl
  replace h := tx_iadd (p' := 22) h em138_21 rfl
  replace h := tx_iload_n (p' := 23) h em138_22 rfl rfl
  replace h := tx_iadd (p' := 24) h em138_23 rfl
  obtain ⟨hb24, h⟩ := tx_iald (len := 390) (p' := 25) h em138_24 rfl rfl
  replace hb24 : (0 : Int) ≤ (((40 : Int32) + ((8 : Int32) * hh0)) + l).toInt ∧ (((40 : Int32) + ((8 : Int32) * hh0)) + l).toInt < 390 := hb24
  replace h := tx_isub (p' := 26) h em138_25 rfl
  replace h := tx_istore_n (p' := 27) h em138_26 rfl
  replace h : eT xq_138 _ 27 [some (.inr (.inl (some 75))), some (.inl hh0), some (.inl l), some (.inl ((μ.1 108 (((8 : Int32) * hh0) + l).toInt.toNat) - (μ.1 108 (((40 : Int32) + ((8 : Int32) * hh0)) + l).toInt.toNat)))] [] μ r μ' := h
  replace h := tx_iload_n (p' := 28) h em138_27 rfl rfl
  rcases tx_if (t := 39) (p' := 31) h em138_28 (by decide) rfl with ⟨c28, h⟩ | ⟨c28, h⟩
  · replace c28 : ((μ.1 108 (((8 : Int32) * hh0) + l).toInt.toNat) - (μ.1 108 (((40 : Int32) + ((8 : Int32) * hh0)) + l).toInt.toNat)).toInt < 0 := c28
    replace h := tx_iconst (v := 0) (p' := 40) h em138_39 (by decide +kernel) rfl
    replace h := tx_goto (t := 44) h em138_40 (by decide)
    obtain ⟨rfl, hμ⟩ := tx_ireturn h em138_44
    rw [i1, i2] at c28
    refine ⟨hμ, ?_⟩
    unfold pFe
    rw [if_pos (by omega)]
  · replace c28 : ¬ ((μ.1 108 (((8 : Int32) * hh0) + l).toInt.toNat) - (μ.1 108 (((40 : Int32) + ((8 : Int32) * hh0)) + l).toInt.toNat)).toInt < 0 := c28
    replace h := tx_iload_n (p' := 32) h em138_31 rfl rfl
    replace h := tx_aload_n (p' := 33) h em138_32 rfl rfl
    replace h := tx_getf (c := 12) (j := 8) (p' := 36) h em138_33 ((congrFun xo_12 334).trans rfl) rfl rfl (by decide) rfl
    rcases tx_icmp (t := 43) (p' := 39) h em138_36 (by decide) rfl with ⟨c36, h⟩ | ⟨c36, h⟩
    · replace c36 : ¬ hh0.toInt = (μ.1 75 8).toInt := c36
      replace h := tx_iload_n (p' := 44) h em138_43 rfl rfl
      obtain ⟨rfl, hμ⟩ := tx_ireturn h em138_44
      rw [i1, i2] at c28
      refine ⟨hμ, ?_⟩
      unfold pFe
      rw [if_neg (by omega), i1, i2]
    · replace c36 : ¬ ¬ hh0.toInt = (μ.1 75 8).toInt := c36
      replace h := tx_iconst (v := 0) (p' := 40) h em138_39 (by decide +kernel) rfl
      replace h := tx_goto (t := 44) h em138_40 (by decide)
      obtain ⟨rfl, hμ⟩ := tx_ireturn h em138_44
      exfalso
      omega
set_option maxRecDepth 10000 in
set_option maxHeartbeats 4000000 in
theorem ex_giverOf {l v : Int32} {ln vn s : Nat} {S : kSt} {μ μ' : xM} {r : Option zV} (h0 : Ex gx xq_141 [.inr (.inl (some 75)), .inl l, .inl v] μ r μ') (hS : rS9 S s μ) (hsh : (μ.1 75 8).toInt = -1) (hl : l.toInt = (ln : Int)) (hl7 : ln ≤ 7) (hv : v.toInt = (vn : Int)) (hvn : vn < S.2.1.length) : ∃ x : Int32, r = some (.inl x) ∧ gvR S.1.length (fun h => pLv S (fun x => μ.1 108 x) h ln vn) (fun h => pFe (fun x => μ.1 108 x) (8 * h + ln)) (fun h => pRk S (fun x => μ.1 108 x) h ln vn) x.toInt ∧ gR μ μ' ∧ ∀ j, μ'.1 108 j = μ.1 108 j := by
  obtain ⟨n, h⟩ := tx_in (L := [some (.inr (.inl (some 75))), some (.inl l), some (.inl v), none, none, none, none]) h0 rfl
  have e1i : (1 : Int32).toInt = 1 := by decide
  have hH5 := hS.1.1.1
  have loop : ∀ (n k : Nat) (be mo i : Int32) (ω : xM) {o : Option zV}, eT xq_141 n 13 [some (.inr (.inl (some 75))), some (.inl l), some (.inl v), some (.inl be), some (.inl mo), some (.inl i), o] [] ω r μ' → i.toInt = (k : Int) → k ≤ S.1.length → gR μ ω → (fun x => ω.1 108 x) = (fun x => μ.1 108 x) → gvR k (fun h => pLv S (fun x => μ.1 108 x) h ln vn) (fun h => pFe (fun x => μ.1 108 x) (8 * h + ln)) (fun h => pRk S (fun x => μ.1 108 x) h ln vn) be.toInt → (0 ≤ be.toInt → mo = pRk S (fun x => μ.1 108 x) be.toInt.toNat ln vn) → ∃ x : Int32, r = some (.inl x) ∧ gvR S.1.length (fun h => pLv S (fun x => μ.1 108 x) h ln vn) (fun h => pFe (fun x => μ.1 108 x) (8 * h + ln)) (fun h => pRk S (fun x => μ.1 108 x) h ln vn) x.toInt ∧ gR μ μ' ∧ ∀ j, μ'.1 108 j = μ.1 108 j := by
    intro n
    induction n using Nat.strongRecOn with
    | ind n ih =>
    intro k be mo i ω o h hi hk hG eρ hV hM
    have hSω := rS9_R hS hG
    have hH : (ω.1 84 (ω.1 75 2).toInt.toNat).toInt = (S.1.length : Int) := by
      rw [show (ω.1 75 2).toInt.toNat = s by have := hSω.2.1.2; omega]
      exact hSω.2.2.1.1.1
    replace h := tx_iload (p' := 15) h em141_13 rfl rfl
    replace h := tx_aload_n (p' := 16) h em141_15 rfl rfl
    replace h := tx_getc (c := 12) (j := 3) (p' := 19) h em141_16 ((congrFun xo_12 43).trans rfl) rfl rfl rfl
    replace h := tx_aload_n (p' := 20) h em141_19 rfl rfl
    replace h := tx_getf (c := 12) (j := 2) (p' := 23) h em141_20 ((congrFun xo_12 230).trans rfl) rfl rfl (by decide) rfl
    obtain ⟨hb23, h⟩ := tx_iald (len := 2) (p' := 24) h em141_23 rfl rfl
    replace hb23 : (0 : Int) ≤ (ω.1 75 2).toInt ∧ (ω.1 75 2).toInt < 2 := hb23
    rcases tx_icmp (t := 114) (p' := 27) h em141_24 (by decide) rfl with ⟨c24, h⟩ | ⟨c24, h⟩
    · replace c24 : (ω.1 84 (ω.1 75 2).toInt.toNat).toInt ≤ i.toInt := c24
      replace h := tx_iload_n (p' := 115) h em141_114 rfl rfl
      obtain ⟨rfl, hμ⟩ := tx_ireturn h em141_115
      rw [hμ]
      have ek : k = S.1.length := by omega
      rw [ek] at hV
      exact ⟨be, rfl, hV, hG, fun j => congrFun eρ j⟩
    · replace c24 : ¬ (ω.1 84 (ω.1 75 2).toInt.toNat).toInt ≤ i.toInt := c24
      replace h := tx_aload_n (p' := 28) h em141_27 rfl rfl
      replace h := tx_iload (p' := 30) h em141_28 rfl rfl
      replace h := tx_iload_n (p' := 31) h em141_30 rfl rfl
      obtain ⟨r31, μ31, hE31, h⟩ := tx_invV (na := 3) (mn := 138) (as := [.inr (.inl (some 75)), .inl i, .inl l]) (rest := []) (p' := 34) h em141_31 ((congrFun xo_12 368).trans rfl) xm_138 rfl rfl
      obtain ⟨hm1, rfl⟩ := ex_freeOf hE31 (by rw [hG.1 75 8 (by decide) (by decide) (by decide) (by decide)]; exact hsh) hi (by omega) hl hl7
      rw [hm1] at h
      replace h : eT xq_141 _ 34 [some (.inr (.inl (some 75))), some (.inl l), some (.inl v), some (.inl be), some (.inl mo), some (.inl i), o] [.inl (pFe (fun x => ω.1 108 x) (8 * k + ln))] ω r μ' := h
      rcases tx_if (t := 108) (p' := 37) h em141_34 (by decide) rfl with ⟨c34, h⟩ | ⟨c34, h⟩
      · replace c34 : (pFe (fun x => ω.1 108 x) (8 * k + ln)).toInt = 0 := c34
        replace h := tx_iinc (v := 1) (p' := 111) h em141_108 (by decide +kernel) rfl rfl
        replace h : eT xq_141 _ 111 [some (.inr (.inl (some 75))), some (.inl l), some (.inl v), some (.inl be), some (.inl mo), some (.inl (i + 1)), o] [] ω r μ' := h
        obtain ⟨n2, hn2, h⟩ := tx_gotoS (t := 13) h em141_111 (by decide)
        have ei : (i + 1).toInt = ((k + 1 : Nat) : Int) := by rw [an_add (by rw [e1i]; omega) (by rw [e1i]; omega), e1i]; omega
        have hz : pFe (fun x => μ.1 108 x) (8 * k + ln) = 0 := by rw [← eρ]; exact Int32.toInt_inj.mp (c34.trans (by decide))
        exact ih n2 hn2 (k + 1)  _ _ _ _ h ei (by omega) hG (by funext x; exact congrFun eρ x) (gvR_no hV (fun q => q.1 hz)) (hM)
      · replace c34 : ¬ (pFe (fun x => ω.1 108 x) (8 * k + ln)).toInt = 0 := c34
        replace h := tx_aload_n (p' := 38) h em141_37 rfl rfl
        replace h := tx_iload (p' := 40) h em141_38 rfl rfl
        replace h := tx_iload_n (p' := 41) h em141_40 rfl rfl
        replace h := tx_iload_n (p' := 42) h em141_41 rfl rfl
        obtain ⟨r42, μ42, hE42, h⟩ := tx_invV (na := 4) (mn := 142) (as := [.inr (.inl (some 75)), .inl i, .inl l, .inl v]) (rest := []) (p' := 45) h em141_42 ((congrFun xo_12 371).trans rfl) xm_142 rfl rfl
        obtain ⟨g1, ⟨rfl, lv1⟩ | ⟨rfl, lv1⟩⟩ := ex_mleave hE42 hSω hi (by omega) hl hl7 hv hvn
        · rw [eρ] at lv1
          replace h : eT xq_141 _ 45 [some (.inr (.inl (some 75))), some (.inl l), some (.inl v), some (.inl be), some (.inl mo), some (.inl i), o] [.inl (1 : Int32)] μ42 r μ' := h
          rcases tx_if (t := 51) (p' := 48) h em141_45 (by decide) rfl with ⟨c45, h⟩ | ⟨c45, h⟩
          · replace c45 : ¬ (1 : Int) = (0 : Int) := c45
            replace h := tx_aload_n (p' := 52) h em141_51 rfl rfl
            replace h := tx_iload (p' := 54) h em141_52 rfl rfl
            replace h := tx_iload_n (p' := 55) h em141_54 rfl rfl
            replace h := tx_iload_n (p' := 56) h em141_55 rfl rfl
            obtain ⟨r56, μ56, hE56, h⟩ := tx_invV (na := 4) (mn := 179) (as := [.inr (.inl (some 75)), .inl i, .inl l, .inl v]) (rest := []) (p' := 59) h em141_56 ((congrFun xo_12 374).trans rfl) xm_179 rfl rfl
            have hS2 := rS9_M hSω g1
            have eρ2 : (fun x => μ42.1 108 x) = (fun x => μ.1 108 x) := by funext x; rw [gM_c g1 (by decide) (by decide) (by decide)]; exact congrFun eρ x
            obtain ⟨g2, rfl⟩ := ex_mrank hE56 hS2 hi (by omega) hl hl7 hv hvn
            rw [eρ2] at h
            replace h : eT xq_141 _ 59 [some (.inr (.inl (some 75))), some (.inl l), some (.inl v), some (.inl be), some (.inl mo), some (.inl i), o] [.inl (pRk S (fun x => μ.1 108 x) k ln vn)] μ56 r μ' := h
            replace h := tx_istore (p' := 61) h em141_59 rfl
            replace h : eT xq_141 _ 61 [some (.inr (.inl (some 75))), some (.inl l), some (.inl v), some (.inl be), some (.inl mo), some (.inl i), some (.inl (pRk S (fun x => μ.1 108 x) k ln vn))] [] μ56 r μ' := h
            replace h := tx_iload_n (p' := 62) h em141_61 rfl rfl
            rcases tx_if (t := 82) (p' := 65) h em141_62 (by decide) rfl with ⟨c62, h⟩ | ⟨c62, h⟩
            · replace c62 : be.toInt < 0 := c62
              replace h := tx_iload_n (p' := 83) h em141_82 rfl rfl
              rcases tx_if (t := 96) (p' := 86) h em141_83 (by decide) rfl with ⟨c83, h⟩ | ⟨c83, h⟩
              · replace c83 : be.toInt < 0 := c83
                replace h := tx_iload (p' := 98) h em141_96 rfl rfl
                replace h := tx_istore_n (p' := 99) h em141_98 rfl
                replace h : eT xq_141 _ 99 [some (.inr (.inl (some 75))), some (.inl l), some (.inl v), some (.inl i), some (.inl mo), some (.inl i), some (.inl (pRk S (fun x => μ.1 108 x) k ln vn))] [] μ56 r μ' := h
                replace h := tx_iload (p' := 101) h em141_99 rfl rfl
                replace h := tx_istore (p' := 103) h em141_101 rfl
                replace h : eT xq_141 _ 103 [some (.inr (.inl (some 75))), some (.inl l), some (.inl v), some (.inl i), some (.inl (pRk S (fun x => μ.1 108 x) k ln vn)), some (.inl i), some (.inl (pRk S (fun x => μ.1 108 x) k ln vn))] [] μ56 r μ' := h
                replace h := tx_aload_n (p' := 104) h em141_103 rfl rfl
                replace h := tx_iconst (v := 1) (p' := 105) h em141_104 (by decide +kernel) rfl
                replace h := tx_putf (a := 75) (c := 12) (j := 59) (p' := 108) h em141_105 ((congrFun xo_12 365).trans rfl) rfl
                replace h := tx_iinc (v := 1) (p' := 111) h em141_108 (by decide +kernel) rfl rfl
                replace h : eT xq_141 _ 111 [some (.inr (.inl (some 75))), some (.inl l), some (.inl v), some (.inl i), some (.inl (pRk S (fun x => μ.1 108 x) k ln vn)), some (.inl (i + 1)), some (.inl (pRk S (fun x => μ.1 108 x) k ln vn))] [] (xpi μ56 75 59 (1 : Int32)) r μ' := h
                obtain ⟨n2, hn2, h⟩ := tx_gotoS (t := 13) h em141_111 (by decide)
                have ei : (i + 1).toInt = ((k + 1 : Nat) : Int) := by rw [an_add (by rw [e1i]; omega) (by rw [e1i]; omega), e1i]; omega
                have hfz : ¬ pFe (fun x => μ.1 108 x) (8 * k + ln) = 0 := fun q => by
                  rw [← eρ] at q
                  rw [q] at c34
                  exact c34 (by decide)
                exact ih n2 hn2 (k + 1)  _ _ _ _ h ei (by omega) (gR_f (gR_tr hG (gR_M (gM_tr g1 g2)))) (by funext x; exact (gM_c g2 (by decide) (by decide) (by decide)).trans (congrFun eρ2 x)) (by rw [hi]; exact gvR_new hV hfz lv1 (Or.inl (by rcases hV with ⟨a, -⟩ | ⟨b, a, -⟩ <;> omega))) (fun _ => by rw [show i.toInt.toNat = k by omega])
              · replace c83 : ¬ be.toInt < 0 := c83
                replace h := tx_iload (p' := 88) h em141_86 rfl rfl
                replace h := tx_iload (p' := 90) h em141_88 rfl rfl
                rcases tx_icmp (t := 96) (p' := 93) h em141_90 (by decide) rfl with ⟨c90, h⟩ | ⟨c90, h⟩
                · replace c90 : mo.toInt < (pRk S (fun x => μ.1 108 x) k ln vn).toInt := c90
                  replace h := tx_iload (p' := 98) h em141_96 rfl rfl
                  replace h := tx_istore_n (p' := 99) h em141_98 rfl
                  replace h : eT xq_141 _ 99 [some (.inr (.inl (some 75))), some (.inl l), some (.inl v), some (.inl i), some (.inl mo), some (.inl i), some (.inl (pRk S (fun x => μ.1 108 x) k ln vn))] [] μ56 r μ' := h
                  replace h := tx_iload (p' := 101) h em141_99 rfl rfl
                  replace h := tx_istore (p' := 103) h em141_101 rfl
                  replace h : eT xq_141 _ 103 [some (.inr (.inl (some 75))), some (.inl l), some (.inl v), some (.inl i), some (.inl (pRk S (fun x => μ.1 108 x) k ln vn)), some (.inl i), some (.inl (pRk S (fun x => μ.1 108 x) k ln vn))] [] μ56 r μ' := h
                  replace h := tx_aload_n (p' := 104) h em141_103 rfl rfl
                  replace h := tx_iconst (v := 1) (p' := 105) h em141_104 (by decide +kernel) rfl
                  replace h := tx_putf (a := 75) (c := 12) (j := 59) (p' := 108) h em141_105 ((congrFun xo_12 365).trans rfl) rfl
                  replace h := tx_iinc (v := 1) (p' := 111) h em141_108 (by decide +kernel) rfl rfl
                  replace h : eT xq_141 _ 111 [some (.inr (.inl (some 75))), some (.inl l), some (.inl v), some (.inl i), some (.inl (pRk S (fun x => μ.1 108 x) k ln vn)), some (.inl (i + 1)), some (.inl (pRk S (fun x => μ.1 108 x) k ln vn))] [] (xpi μ56 75 59 (1 : Int32)) r μ' := h
                  obtain ⟨n2, hn2, h⟩ := tx_gotoS (t := 13) h em141_111 (by decide)
                  have ei : (i + 1).toInt = ((k + 1 : Nat) : Int) := by rw [an_add (by rw [e1i]; omega) (by rw [e1i]; omega), e1i]; omega
                  have hfz : ¬ pFe (fun x => μ.1 108 x) (8 * k + ln) = 0 := fun q => by
                    rw [← eρ] at q
                    rw [q] at c34
                    exact c34 (by decide)
                  exact ih n2 hn2 (k + 1)  _ _ _ _ h ei (by omega) (gR_f (gR_tr hG (gR_M (gM_tr g1 g2)))) (by funext x; exact (gM_c g2 (by decide) (by decide) (by decide)).trans (congrFun eρ2 x)) (by rw [hi]; exact gvR_new hV hfz lv1 (Or.inr (by rw [← hM (by omega)]; omega))) (fun _ => by rw [show i.toInt.toNat = k by omega])
                · replace c90 : ¬ mo.toInt < (pRk S (fun x => μ.1 108 x) k ln vn).toInt := c90
                  replace h := tx_goto (t := 108) h em141_93 (by decide)
                  replace h := tx_iinc (v := 1) (p' := 111) h em141_108 (by decide +kernel) rfl rfl
                  replace h : eT xq_141 _ 111 [some (.inr (.inl (some 75))), some (.inl l), some (.inl v), some (.inl be), some (.inl mo), some (.inl (i + 1)), some (.inl (pRk S (fun x => μ.1 108 x) k ln vn))] [] μ56 r μ' := h
                  obtain ⟨n2, hn2, h⟩ := tx_gotoS (t := 13) h em141_111 (by decide)
                  have ei : (i + 1).toInt = ((k + 1 : Nat) : Int) := by rw [an_add (by rw [e1i]; omega) (by rw [e1i]; omega), e1i]; omega
                  have hbn : be.toInt = ((be.toInt.toNat : Nat) : Int) := by omega
                  have hm9 := hM (by omega)
                  exact ih n2 hn2 (k + 1)  _ _ _ _ h ei (by omega) (gR_tr hG (gR_M (gM_tr g1 g2))) (by funext x; exact (gM_c g2 (by decide) (by decide) (by decide)).trans (congrFun eρ2 x)) (by rw [hbn] at hV ⊢; exact gvR_le hV (by rw [← hm9]; omega)) (hM)
            · replace c62 : ¬ be.toInt < 0 := c62
              replace h := tx_iload (p' := 67) h em141_65 rfl rfl
              replace h := tx_iload (p' := 69) h em141_67 rfl rfl
              rcases tx_icmp (t := 82) (p' := 72) h em141_69 (by decide) rfl with ⟨c69, h⟩ | ⟨c69, h⟩
              · replace c69 : ¬ (pRk S (fun x => μ.1 108 x) k ln vn).toInt = mo.toInt := c69
                replace h := tx_iload_n (p' := 83) h em141_82 rfl rfl
                rcases tx_if (t := 96) (p' := 86) h em141_83 (by decide) rfl with ⟨c83_1, h⟩ | ⟨c83_1, h⟩
                · replace c83_1 : be.toInt < 0 := c83_1
                  replace h := tx_iload (p' := 98) h em141_96 rfl rfl
                  replace h := tx_istore_n (p' := 99) h em141_98 rfl
                  replace h : eT xq_141 _ 99 [some (.inr (.inl (some 75))), some (.inl l), some (.inl v), some (.inl i), some (.inl mo), some (.inl i), some (.inl (pRk S (fun x => μ.1 108 x) k ln vn))] [] μ56 r μ' := h
                  replace h := tx_iload (p' := 101) h em141_99 rfl rfl
                  replace h := tx_istore (p' := 103) h em141_101 rfl
                  replace h : eT xq_141 _ 103 [some (.inr (.inl (some 75))), some (.inl l), some (.inl v), some (.inl i), some (.inl (pRk S (fun x => μ.1 108 x) k ln vn)), some (.inl i), some (.inl (pRk S (fun x => μ.1 108 x) k ln vn))] [] μ56 r μ' := h
                  replace h := tx_aload_n (p' := 104) h em141_103 rfl rfl
                  replace h := tx_iconst (v := 1) (p' := 105) h em141_104 (by decide +kernel) rfl
                  replace h := tx_putf (a := 75) (c := 12) (j := 59) (p' := 108) h em141_105 ((congrFun xo_12 365).trans rfl) rfl
                  replace h := tx_iinc (v := 1) (p' := 111) h em141_108 (by decide +kernel) rfl rfl
                  replace h : eT xq_141 _ 111 [some (.inr (.inl (some 75))), some (.inl l), some (.inl v), some (.inl i), some (.inl (pRk S (fun x => μ.1 108 x) k ln vn)), some (.inl (i + 1)), some (.inl (pRk S (fun x => μ.1 108 x) k ln vn))] [] (xpi μ56 75 59 (1 : Int32)) r μ' := h
                  obtain ⟨n2, hn2, h⟩ := tx_gotoS (t := 13) h em141_111 (by decide)
                  have ei : (i + 1).toInt = ((k + 1 : Nat) : Int) := by rw [an_add (by rw [e1i]; omega) (by rw [e1i]; omega), e1i]; omega
                  have hfz : ¬ pFe (fun x => μ.1 108 x) (8 * k + ln) = 0 := fun q => by
                    rw [← eρ] at q
                    rw [q] at c34
                    exact c34 (by decide)
                  exact ih n2 hn2 (k + 1)  _ _ _ _ h ei (by omega) (gR_f (gR_tr hG (gR_M (gM_tr g1 g2)))) (by funext x; exact (gM_c g2 (by decide) (by decide) (by decide)).trans (congrFun eρ2 x)) (by rw [hi]; exact gvR_new hV hfz lv1 (Or.inl (by rcases hV with ⟨a, -⟩ | ⟨b, a, -⟩ <;> omega))) (fun _ => by rw [show i.toInt.toNat = k by omega])
                · replace c83_1 : ¬ be.toInt < 0 := c83_1
                  replace h := tx_iload (p' := 88) h em141_86 rfl rfl
                  replace h := tx_iload (p' := 90) h em141_88 rfl rfl
                  rcases tx_icmp (t := 96) (p' := 93) h em141_90 (by decide) rfl with ⟨c90_1, h⟩ | ⟨c90_1, h⟩
                  · replace c90_1 : mo.toInt < (pRk S (fun x => μ.1 108 x) k ln vn).toInt := c90_1
                    replace h := tx_iload (p' := 98) h em141_96 rfl rfl
                    replace h := tx_istore_n (p' := 99) h em141_98 rfl
                    replace h : eT xq_141 _ 99 [some (.inr (.inl (some 75))), some (.inl l), some (.inl v), some (.inl i), some (.inl mo), some (.inl i), some (.inl (pRk S (fun x => μ.1 108 x) k ln vn))] [] μ56 r μ' := h
                    replace h := tx_iload (p' := 101) h em141_99 rfl rfl
                    replace h := tx_istore (p' := 103) h em141_101 rfl
                    replace h : eT xq_141 _ 103 [some (.inr (.inl (some 75))), some (.inl l), some (.inl v), some (.inl i), some (.inl (pRk S (fun x => μ.1 108 x) k ln vn)), some (.inl i), some (.inl (pRk S (fun x => μ.1 108 x) k ln vn))] [] μ56 r μ' := h
                    replace h := tx_aload_n (p' := 104) h em141_103 rfl rfl
                    replace h := tx_iconst (v := 1) (p' := 105) h em141_104 (by decide +kernel) rfl
                    replace h := tx_putf (a := 75) (c := 12) (j := 59) (p' := 108) h em141_105 ((congrFun xo_12 365).trans rfl) rfl
                    replace h := tx_iinc (v := 1) (p' := 111) h em141_108 (by decide +kernel) rfl rfl
                    replace h : eT xq_141 _ 111 [some (.inr (.inl (some 75))), some (.inl l), some (.inl v), some (.inl i), some (.inl (pRk S (fun x => μ.1 108 x) k ln vn)), some (.inl (i + 1)), some (.inl (pRk S (fun x => μ.1 108 x) k ln vn))] [] (xpi μ56 75 59 (1 : Int32)) r μ' := h
                    obtain ⟨n2, hn2, h⟩ := tx_gotoS (t := 13) h em141_111 (by decide)
                    have ei : (i + 1).toInt = ((k + 1 : Nat) : Int) := by rw [an_add (by rw [e1i]; omega) (by rw [e1i]; omega), e1i]; omega
                    have hfz : ¬ pFe (fun x => μ.1 108 x) (8 * k + ln) = 0 := fun q => by
                      rw [← eρ] at q
                      rw [q] at c34
                      exact c34 (by decide)
                    exact ih n2 hn2 (k + 1)  _ _ _ _ h ei (by omega) (gR_f (gR_tr hG (gR_M (gM_tr g1 g2)))) (by funext x; exact (gM_c g2 (by decide) (by decide) (by decide)).trans (congrFun eρ2 x)) (by rw [hi]; exact gvR_new hV hfz lv1 (Or.inr (by rw [← hM (by omega)]; omega))) (fun _ => by rw [show i.toInt.toNat = k by omega])
                  · replace c90_1 : ¬ mo.toInt < (pRk S (fun x => μ.1 108 x) k ln vn).toInt := c90_1
                    replace h := tx_goto (t := 108) h em141_93 (by decide)
                    replace h := tx_iinc (v := 1) (p' := 111) h em141_108 (by decide +kernel) rfl rfl
                    replace h : eT xq_141 _ 111 [some (.inr (.inl (some 75))), some (.inl l), some (.inl v), some (.inl be), some (.inl mo), some (.inl (i + 1)), some (.inl (pRk S (fun x => μ.1 108 x) k ln vn))] [] μ56 r μ' := h
                    obtain ⟨n2, hn2, h⟩ := tx_gotoS (t := 13) h em141_111 (by decide)
                    have ei : (i + 1).toInt = ((k + 1 : Nat) : Int) := by rw [an_add (by rw [e1i]; omega) (by rw [e1i]; omega), e1i]; omega
                    have hbn : be.toInt = ((be.toInt.toNat : Nat) : Int) := by omega
                    have hm9 := hM (by omega)
                    exact ih n2 hn2 (k + 1)  _ _ _ _ h ei (by omega) (gR_tr hG (gR_M (gM_tr g1 g2))) (by funext x; exact (gM_c g2 (by decide) (by decide) (by decide)).trans (congrFun eρ2 x)) (by rw [hbn] at hV ⊢; exact gvR_le hV (by rw [← hm9]; omega)) (hM)
              · replace c69 : ¬ ¬ (pRk S (fun x => μ.1 108 x) k ln vn).toInt = mo.toInt := c69
                replace h := tx_aload_n (p' := 73) h em141_72 rfl rfl
                replace h := tx_dup (p' := 74) h em141_73 rfl
                replace h := tx_getf (c := 12) (j := 59) (p' := 77) h em141_74 ((congrFun xo_12 365).trans rfl) rfl rfl (by decide) rfl
                replace h := tx_iconst (v := 1) (p' := 78) h em141_77 (by decide +kernel) rfl
                replace h := tx_iadd (p' := 79) h em141_78 rfl
                replace h := tx_putf (a := 75) (c := 12) (j := 59) (p' := 82) h em141_79 ((congrFun xo_12 365).trans rfl) rfl
                replace h := tx_iload_n (p' := 83) h em141_82 rfl rfl
                rcases tx_if (t := 96) (p' := 86) h em141_83 (by decide) rfl with ⟨c83_2, h⟩ | ⟨c83_2, h⟩
                · replace c83_2 : be.toInt < 0 := c83_2
                  replace h := tx_iload (p' := 98) h em141_96 rfl rfl
                  replace h := tx_istore_n (p' := 99) h em141_98 rfl
                  replace h : eT xq_141 _ 99 [some (.inr (.inl (some 75))), some (.inl l), some (.inl v), some (.inl i), some (.inl mo), some (.inl i), some (.inl (pRk S (fun x => μ.1 108 x) k ln vn))] [] (xpi μ56 75 59 ((μ56.1 75 59) + (1 : Int32))) r μ' := h
                  replace h := tx_iload (p' := 101) h em141_99 rfl rfl
                  replace h := tx_istore (p' := 103) h em141_101 rfl
                  replace h : eT xq_141 _ 103 [some (.inr (.inl (some 75))), some (.inl l), some (.inl v), some (.inl i), some (.inl (pRk S (fun x => μ.1 108 x) k ln vn)), some (.inl i), some (.inl (pRk S (fun x => μ.1 108 x) k ln vn))] [] (xpi μ56 75 59 ((μ56.1 75 59) + (1 : Int32))) r μ' := h
                  replace h := tx_aload_n (p' := 104) h em141_103 rfl rfl
                  replace h := tx_iconst (v := 1) (p' := 105) h em141_104 (by decide +kernel) rfl
                  replace h := tx_putf (a := 75) (c := 12) (j := 59) (p' := 108) h em141_105 ((congrFun xo_12 365).trans rfl) rfl
                  replace h := tx_iinc (v := 1) (p' := 111) h em141_108 (by decide +kernel) rfl rfl
                  replace h : eT xq_141 _ 111 [some (.inr (.inl (some 75))), some (.inl l), some (.inl v), some (.inl i), some (.inl (pRk S (fun x => μ.1 108 x) k ln vn)), some (.inl (i + 1)), some (.inl (pRk S (fun x => μ.1 108 x) k ln vn))] [] (xpi (xpi μ56 75 59 ((μ56.1 75 59) + (1 : Int32))) 75 59 (1 : Int32)) r μ' := h
                  obtain ⟨n2, hn2, h⟩ := tx_gotoS (t := 13) h em141_111 (by decide)
                  have ei : (i + 1).toInt = ((k + 1 : Nat) : Int) := by rw [an_add (by rw [e1i]; omega) (by rw [e1i]; omega), e1i]; omega
                  have hfz : ¬ pFe (fun x => μ.1 108 x) (8 * k + ln) = 0 := fun q => by
                    rw [← eρ] at q
                    rw [q] at c34
                    exact c34 (by decide)
                  exact ih n2 hn2 (k + 1)  _ _ _ _ h ei (by omega) (gR_f (gR_f (gR_tr hG (gR_M (gM_tr g1 g2))))) (by funext x; exact (gM_c g2 (by decide) (by decide) (by decide)).trans (congrFun eρ2 x)) (by rw [hi]; exact gvR_new hV hfz lv1 (Or.inl (by rcases hV with ⟨a, -⟩ | ⟨b, a, -⟩ <;> omega))) (fun _ => by rw [show i.toInt.toNat = k by omega])
                · replace c83_2 : ¬ be.toInt < 0 := c83_2
                  replace h := tx_iload (p' := 88) h em141_86 rfl rfl
                  replace h := tx_iload (p' := 90) h em141_88 rfl rfl
                  rcases tx_icmp (t := 96) (p' := 93) h em141_90 (by decide) rfl with ⟨c90_2, h⟩ | ⟨c90_2, h⟩
                  · replace c90_2 : mo.toInt < (pRk S (fun x => μ.1 108 x) k ln vn).toInt := c90_2
                    replace h := tx_iload (p' := 98) h em141_96 rfl rfl
                    replace h := tx_istore_n (p' := 99) h em141_98 rfl
                    replace h : eT xq_141 _ 99 [some (.inr (.inl (some 75))), some (.inl l), some (.inl v), some (.inl i), some (.inl mo), some (.inl i), some (.inl (pRk S (fun x => μ.1 108 x) k ln vn))] [] (xpi μ56 75 59 ((μ56.1 75 59) + (1 : Int32))) r μ' := h
                    replace h := tx_iload (p' := 101) h em141_99 rfl rfl
                    replace h := tx_istore (p' := 103) h em141_101 rfl
                    replace h : eT xq_141 _ 103 [some (.inr (.inl (some 75))), some (.inl l), some (.inl v), some (.inl i), some (.inl (pRk S (fun x => μ.1 108 x) k ln vn)), some (.inl i), some (.inl (pRk S (fun x => μ.1 108 x) k ln vn))] [] (xpi μ56 75 59 ((μ56.1 75 59) + (1 : Int32))) r μ' := h
                    replace h := tx_aload_n (p' := 104) h em141_103 rfl rfl
                    replace h := tx_iconst (v := 1) (p' := 105) h em141_104 (by decide +kernel) rfl
                    replace h := tx_putf (a := 75) (c := 12) (j := 59) (p' := 108) h em141_105 ((congrFun xo_12 365).trans rfl) rfl
                    replace h := tx_iinc (v := 1) (p' := 111) h em141_108 (by decide +kernel) rfl rfl
                    replace h : eT xq_141 _ 111 [some (.inr (.inl (some 75))), some (.inl l), some (.inl v), some (.inl i), some (.inl (pRk S (fun x => μ.1 108 x) k ln vn)), some (.inl (i + 1)), some (.inl (pRk S (fun x => μ.1 108 x) k ln vn))] [] (xpi (xpi μ56 75 59 ((μ56.1 75 59) + (1 : Int32))) 75 59 (1 : Int32)) r μ' := h
                    obtain ⟨n2, hn2, h⟩ := tx_gotoS (t := 13) h em141_111 (by decide)
                    have ei : (i + 1).toInt = ((k + 1 : Nat) : Int) := by rw [an_add (by rw [e1i]; omega) (by rw [e1i]; omega), e1i]; omega
                    have hfz : ¬ pFe (fun x => μ.1 108 x) (8 * k + ln) = 0 := fun q => by
                      rw [← eρ] at q
                      rw [q] at c34
                      exact c34 (by decide)
                    exact ih n2 hn2 (k + 1)  _ _ _ _ h ei (by omega) (gR_f (gR_f (gR_tr hG (gR_M (gM_tr g1 g2))))) (by funext x; exact (gM_c g2 (by decide) (by decide) (by decide)).trans (congrFun eρ2 x)) (by rw [hi]; exact gvR_new hV hfz lv1 (Or.inr (by rw [← hM (by omega)]; omega))) (fun _ => by rw [show i.toInt.toNat = k by omega])
                  · replace c90_2 : ¬ mo.toInt < (pRk S (fun x => μ.1 108 x) k ln vn).toInt := c90_2
                    replace h := tx_goto (t := 108) h em141_93 (by decide)
                    replace h := tx_iinc (v := 1) (p' := 111) h em141_108 (by decide +kernel) rfl rfl
                    replace h : eT xq_141 _ 111 [some (.inr (.inl (some 75))), some (.inl l), some (.inl v), some (.inl be), some (.inl mo), some (.inl (i + 1)), some (.inl (pRk S (fun x => μ.1 108 x) k ln vn))] [] (xpi μ56 75 59 ((μ56.1 75 59) + (1 : Int32))) r μ' := h
                    obtain ⟨n2, hn2, h⟩ := tx_gotoS (t := 13) h em141_111 (by decide)
                    have ei : (i + 1).toInt = ((k + 1 : Nat) : Int) := by rw [an_add (by rw [e1i]; omega) (by rw [e1i]; omega), e1i]; omega
                    have hbn : be.toInt = ((be.toInt.toNat : Nat) : Int) := by omega
                    have hm9 := hM (by omega)
                    exact ih n2 hn2 (k + 1)  _ _ _ _ h ei (by omega) (gR_f (gR_tr hG (gR_M (gM_tr g1 g2)))) (by funext x; exact (gM_c g2 (by decide) (by decide) (by decide)).trans (congrFun eρ2 x)) (by rw [hbn] at hV ⊢; exact gvR_le hV (by rw [← hm9]; omega)) (hM)
          · replace c45 : ¬ ¬ (1 : Int) = (0 : Int) := c45
            exfalso
            omega
        · rw [eρ] at lv1
          replace h : eT xq_141 _ 45 [some (.inr (.inl (some 75))), some (.inl l), some (.inl v), some (.inl be), some (.inl mo), some (.inl i), o] [.inl (0 : Int32)] μ42 r μ' := h
          rcases tx_if (t := 51) (p' := 48) h em141_45 (by decide) rfl with ⟨c45_1, h⟩ | ⟨c45_1, h⟩
          · replace c45_1 : ¬ (0 : Int) = (0 : Int) := c45_1
            exfalso
            omega
          · replace c45_1 : ¬ ¬ (0 : Int) = (0 : Int) := c45_1
            replace h := tx_goto (t := 108) h em141_48 (by decide)
            replace h := tx_iinc (v := 1) (p' := 111) h em141_108 (by decide +kernel) rfl rfl
            replace h : eT xq_141 _ 111 [some (.inr (.inl (some 75))), some (.inl l), some (.inl v), some (.inl be), some (.inl mo), some (.inl (i + 1)), o] [] μ42 r μ' := h
            obtain ⟨n2, hn2, h⟩ := tx_gotoS (t := 13) h em141_111 (by decide)
            have ei : (i + 1).toInt = ((k + 1 : Nat) : Int) := by rw [an_add (by rw [e1i]; omega) (by rw [e1i]; omega), e1i]; omega
            exact ih n2 hn2 (k + 1)  _ _ _ _ h ei (by omega) (gR_tr hG (gR_M g1)) (by funext x; exact (gM_c g1 (by decide) (by decide) (by decide)).trans (congrFun eρ x)) (gvR_no hV (fun q => lv1 q.2)) (hM)
  replace h := tx_iconst (v := (-1)) (p' := 1) h em141_0 (by decide +kernel) rfl
  replace h := tx_istore_n (p' := 2) h em141_1 rfl
  replace h : eT xq_141 _ 2 [some (.inr (.inl (some 75))), some (.inl l), some (.inl v), some (.inl (-1 : Int32)), none, none, none] [] μ r μ' := h
  replace h := tx_iconst (v := 0) (p' := 3) h em141_2 (by decide +kernel) rfl
  replace h := tx_istore (p' := 5) h em141_3 rfl
  replace h : eT xq_141 _ 5 [some (.inr (.inl (some 75))), some (.inl l), some (.inl v), some (.inl (-1 : Int32)), some (.inl (0 : Int32)), none, none] [] μ r μ' := h
  replace h := tx_aload_n (p' := 6) h em141_5 rfl rfl
  replace h := tx_iconst (v := 0) (p' := 7) h em141_6 (by decide +kernel) rfl
  replace h := tx_putf (a := 75) (c := 12) (j := 59) (p' := 10) h em141_7 ((congrFun xo_12 365).trans rfl) rfl
  replace h := tx_iconst (v := 0) (p' := 11) h em141_10 (by decide +kernel) rfl
  replace h := tx_istore (p' := 13) h em141_11 rfl
  replace h : eT xq_141 _ 13 [some (.inr (.inl (some 75))), some (.inl l), some (.inl v), some (.inl (-1 : Int32)), some (.inl (0 : Int32)), some (.inl (0 : Int32)), none] [] (xpi μ 75 59 (0 : Int32)) r μ' := h
  exact loop _ 0 _ _ _ _ h (by decide) (Nat.zero_le _) (gR_f gR_rf) rfl (by exact gvR_0) (fun q => absurd q (by decide))
