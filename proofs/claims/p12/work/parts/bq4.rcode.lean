/-! ===== what the reference's units and expressions print ===== -/
/-- the codes told so far stand, C comes behind them -/
def bP (μ μ' : xM) (C : List kOp) : Prop := (μ'.1 75 49).toInt = (μ.1 75 49).toInt + C.length ∧ (∀ j : Nat, (j : Int) < (μ.1 75 49).toInt → μ'.1 101 j = μ.1 101 j ∧ μ'.1 102 j = μ.1 102 j) ∧ ∀ i : Nat, i < C.length → (μ'.1 101 ((μ.1 75 49).toInt.toNat + i)).toInt = (C.getD i (0, 0)).1 ∧ (μ'.1 102 ((μ.1 75 49).toInt.toNat + i)).toInt = (C.getD i (0, 0)).2
theorem bP_tr {μ ν μ' : xM} {C D : List kOp} (h0 : 0 ≤ (μ.1 75 49).toInt) (h1 : bP μ ν C) (h2 : bP ν μ' D) : bP μ μ' (C ++ D) := by
  obtain ⟨a2, a3, a4⟩ := h1
  obtain ⟨b2, b3, b4⟩ := h2
  refine ⟨by rw [b2, a2, List.length_append]; omega, fun j hj => ?_, fun i hi => ?_⟩
  · have x := b3 j (by omega)
    have y := a3 j hj
    exact ⟨x.1.trans y.1, x.2.trans y.2⟩
  · rw [List.length_append] at hi
    by_cases q : i < C.length
    · have x := b3 ((μ.1 75 49).toInt.toNat + i) (by omega)
      have y := a4 i q
      have e : (C ++ D).getD i (0, 0) = C.getD i (0, 0) := by rw [List.getD_eq_getElem?_getD, List.getD_eq_getElem?_getD, List.getElem?_append_left q]
      rw [x.1, x.2, e]
      exact y
    · have x := b4 (i - C.length) (by omega)
      have e : (C ++ D).getD i (0, 0) = D.getD (i - C.length) (0, 0) := by rw [List.getD_eq_getElem?_getD, List.getD_eq_getElem?_getD, List.getElem?_append_right (by omega)]
      rw [show (ν.1 75 49).toInt.toNat + (i - C.length) = (μ.1 75 49).toInt.toNat + i by omega] at x
      rw [e]
      exact x
theorem bP_0 {μ : xM} : bP μ μ [] := ⟨(Int.add_zero _).symm, fun _ _ => ⟨rfl, rfl⟩, fun i hi => absurd hi (Nat.not_lt_zero i)⟩
theorem bP_e {μ ν m : xM} {C : List kOp} (h : bP μ ν C) (h1 : ∀ j, m.1 101 j = ν.1 101 j) (h2 : ∀ j, m.1 102 j = ν.1 102 j) (h3 : m.1 75 49 = ν.1 75 49) : bP μ m C := ⟨by rw [h3]; exact h.1, fun j hj => ⟨(h1 j).trans (h.2.1 j hj).1, (h2 j).trans (h.2.1 j hj).2⟩, fun i hi => by rw [h1, h2]; exact h.2.2 i hi⟩
theorem bP_l {μ ν m : xM} {C : List kOp} (h : bP ν m C) (h1 : ∀ j, ν.1 101 j = μ.1 101 j) (h2 : ∀ j, ν.1 102 j = μ.1 102 j) (h3 : ν.1 75 49 = μ.1 75 49) : bP μ m C := by
  obtain ⟨a, b, c⟩ := h
  rw [h3] at a b c
  exact ⟨a, fun j hj => ⟨(b j hj).1.trans (h1 j), (b j hj).2.trans (h2 j)⟩, c⟩
/-- the signs that wait, the last one first -/
def wS (μ : xM) (w : List Int) : Prop := (μ.1 75 55).toInt = w.length ∧ ∀ i : Nat, i < w.length → kmp (μ.1 104 (w.length - 1 - i)).toInt = w.getD i 0
theorem wS_e {ν m : xM} {w : List Int} (h : wS ν w) (h1 : ∀ j, m.1 104 j = ν.1 104 j) (h2 : m.1 75 55 = ν.1 75 55) : wS m w := ⟨by rw [h2]; exact h.1, fun i hi => by rw [h1]; exact h.2 i hi⟩
theorem wS_c {ν m : xM} {w : List Int} {x : Int} (h : wS ν w) (h1 : ∀ j, ¬ j = w.length → m.1 104 j = ν.1 104 j) (h2 : kmp (m.1 104 w.length).toInt = x) (h3 : (m.1 75 55).toInt = (w.length : Int) + 1) : wS m (x :: w) := by
  refine ⟨by rw [h3]; rfl, fun i hi => ?_⟩
  rw [List.length_cons] at hi
  cases i with
  | zero => exact h2
  | succ i =>
    rw [List.length_cons, show w.length + 1 - 1 - (i + 1) = w.length - 1 - i by omega, h1 _ (by omega)]
    exact h.2 i (by omega)
theorem wS_t {ν m : xM} {w : List Int} {x : Int} (h : wS ν (x :: w)) (h1 : ∀ j, m.1 104 j = ν.1 104 j) (h3 : (m.1 75 55).toInt = w.length) : wS m w := by
  refine ⟨h3, fun i hi => ?_⟩
  have q := h.2 (i + 1) (by rw [List.length_cons]; omega)
  rw [List.length_cons, show w.length + 1 - 1 - (i + 1) = w.length - 1 - i by omega] at q
  rw [h1]
  exact q
theorem wS_h {ν : xM} {w : List Int} {x : Int} (h : wS ν (x :: w)) : kmp (ν.1 104 w.length).toInt = x := h.2 0 (Nat.succ_pos _)
theorem popW_s {s : Bool} {x : Int} {w : List Int} (h : ¬ (x = 40 ∨ (s = true ∧ (x = 43 ∨ x = 45)))) : popW s (x :: w) = ((opc x, 0) :: (popW s w).1, (popW s w).2) := by
  show (if x = 40 ∨ (s = true ∧ (x = 43 ∨ x = 45)) then _ else _) = _
  rw [if_neg h]
theorem popW_y {s : Bool} {x : Int} {w : List Int} (h : x = 40 ∨ (s = true ∧ (x = 43 ∨ x = 45))) : popW s (x :: w) = ([], x :: w) := by
  show (if x = 40 ∨ (s = true ∧ (x = 43 ∨ x = 45)) then _ else _) = _
  rw [if_pos h]
theorem popW_n {s : Bool} : ∀ w : List Int, (popW s w).2.count 40 = w.count 40
  | [] => rfl
  | x :: w => by
    by_cases h : x = 40 ∨ (s = true ∧ (x = 43 ∨ x = 45))
    · rw [popW_y h]
    · rw [popW_s h, List.count_cons_of_ne (by omega)]
      exact popW_n w
theorem popW_o : ∀ w : List Int, 0 < w.count 40 → ∃ w3, (popW false w).2 = 40 :: w3 ∧ w3.count 40 + 1 = w.count 40
  | [], h => absurd h (Nat.lt_irrefl 0)
  | x :: w, h => by
    by_cases q : x = 40
    · subst q
      exact ⟨w, by rw [popW_y (Or.inl rfl)], by rw [List.count_cons_self]⟩
    · rw [List.count_cons_of_ne q] at h ⊢
      rw [popW_s (fun z => by rcases z with z | ⟨z, -⟩; exact q z; cases z)]
      exact popW_o w h
theorem kmp_e {v k : Int} (hk : 0 ≤ kmp k) : kmp v = kmp k ↔ v = k := ⟨fun h => kmp_inj h hk, fun h => by rw [h]⟩
theorem opc_k {v : Int} : opc (kmp v) = if v = 8 then 2 else if v = 9 then 3 else if v = 10 then 4 else 5 := by
  have e8 : kmp v = 43 ↔ v = 8 := kmp_e (k := 8) (by decide)
  have e9 : kmp v = 45 ↔ v = 9 := kmp_e (k := 9) (by decide)
  have e10 : kmp v = 42 ↔ v = 10 := kmp_e (k := 10) (by decide)
  unfold opc
  by_cases h8 : v = 8
  · rw [if_pos h8, if_pos (e8.mpr h8)]
  · rw [if_neg h8, if_neg (fun q => h8 (e8.mp q))]
    by_cases h9 : v = 9
    · rw [if_pos h9, if_pos (e9.mpr h9)]
    · rw [if_neg h9, if_neg (fun q => h9 (e9.mp q))]
      by_cases h10 : v = 10
      · rw [if_pos h10, if_pos (e10.mpr h10)]
      · rw [if_neg h10, if_neg (fun q => h10 (e10.mp q))]
theorem kmp_w {x : Int} (h : 32 ≤ x ∧ x ≤ 40) : kmp x = 108 + x := by
  unfold kmp
  repeat' split
  all_goals omega
theorem stM_on0 {ν m : xM} (hs : stM pOn ν m) (h0 : 0 ≤ rF ν) (hz : rF m = 0) : rF ν = 0 ∧ rT m = rT ν + 1 ∧ ¬ rT ν = 400 := by
  obtain ⟨g1, g2, g3⟩ := hs
  by_cases f0 : rF ν = 0
  · rcases g2 f0 with ⟨k1, k2, k3⟩ | ⟨k1, k2, k3⟩
    · by_cases h4 : rT ν = 400
      · rw [pOn_n h4] at k1
        exact absurd (show (2 : Int) = 0 from k1) (by decide)
      · rw [pOn_y h4] at k3
        exact ⟨f0, k3, h4⟩
    · omega
  · have := g3 (by omega)
    omega
theorem stM_fl0 {ν m : xM} {f : Int} (hs : stM (fun a => (a, f)) ν m) (hf : 0 < f) (h0 : 0 ≤ rF ν) : ¬ rF m = 0 := by
  obtain ⟨g1, g2, g3⟩ := hs
  by_cases f0 : rF ν = 0
  · rcases g2 f0 with ⟨k1, k2, k3⟩ | ⟨k1, k2, k3⟩
    · have k1 : f = 0 := k1
      omega
    · have k2 : rF m = f := k2
      omega
  · have := g3 (by omega)
    omega
theorem rM_b {μ ν m : xM} {C : List kOp} (h : bP μ ν C) (g : rM ν m) : bP μ m C := bP_e h (fun j => g.1 101 j (by decide)) (fun j => g.1 102 j (by decide)) (g.2.1 49 (by decide) (by decide) (by decide))
theorem rM_w {ν m : xM} {w : List Int} (h : wS ν w) (g : rM ν m) : wS m w := wS_e h (fun j => g.1 104 j (by decide)) (g.2.1 55 (by decide) (by decide) (by decide))
theorem rE_Vl {μ ν : xM} (h : rE μ ν) : rVl ν = rVl μ := by funext a; unfold rVl; rw [h.1 80 _ (by decide) (by decide)]
/-- bounds: codes and signs that wait against the tokens eaten -/
def xB (μ ν : xM) : Prop := 0 ≤ (ν.1 75 55).toInt ∧ (μ.1 75 49).toInt ≤ (ν.1 75 49).toInt ∧ (rF ν = 0 → (ν.1 75 49).toInt + (ν.1 75 55).toInt ≤ (μ.1 75 49).toInt + (rT ν - rT μ)) ∧ (ν.1 75 49).toInt + (ν.1 75 55).toInt ≤ (μ.1 75 49).toInt + (rT ν - rT μ) + 1 ∧ rT μ ≤ rT ν ∧ rT ν ≤ 400
def eB (μ μ' : xM) : Prop := (μ.1 75 49).toInt ≤ (μ'.1 75 49).toInt ∧ (rF μ' = 0 → (μ'.1 75 49).toInt ≤ (μ.1 75 49).toInt + (rT μ' - rT μ)) ∧ (μ'.1 75 49).toInt ≤ (μ.1 75 49).toInt + (rT μ' - rT μ) + 1 ∧ rT μ ≤ rT μ' ∧ rT μ' ≤ 400
/-- codes outside of what is printed now stand -/
def fP (μ μ' : xM) : Prop := ∀ j : Nat, ((j : Int) < (μ.1 75 49).toInt ∨ (μ'.1 75 49).toInt ≤ j) → μ'.1 101 j = μ.1 101 j ∧ μ'.1 102 j = μ.1 102 j
theorem fP_rf {μ : xM} : fP μ μ := fun _ _ => ⟨rfl, rfl⟩
theorem fP_tr {μ ν m : xM} (h1 : fP μ ν) (h2 : fP ν m) (c1 : (μ.1 75 49).toInt ≤ (ν.1 75 49).toInt) (c2 : (ν.1 75 49).toInt ≤ (m.1 75 49).toInt) : fP μ m := fun j hj => by
  have a := h1 j (by omega)
  have b := h2 j (by omega)
  exact ⟨b.1.trans a.1, b.2.trans a.2⟩
theorem fP_e {μ ν m : xM} (h : fP μ ν) (h1 : ∀ j, m.1 101 j = ν.1 101 j) (h2 : ∀ j, m.1 102 j = ν.1 102 j) (h3 : m.1 75 49 = ν.1 75 49) : fP μ m := fun j hj => by
  have a := h j (by rw [h3] at hj; exact hj)
  exact ⟨(h1 j).trans a.1, (h2 j).trans a.2⟩
theorem fP_l {μ ν m : xM} (h : fP ν m) (h1 : ∀ j, ν.1 101 j = μ.1 101 j) (h2 : ∀ j, ν.1 102 j = μ.1 102 j) (h3 : ν.1 75 49 = μ.1 75 49) : fP μ m := fun j hj => by
  have a := h j (by rw [h3]; exact hj)
  exact ⟨a.1.trans (h1 j), a.2.trans (h2 j)⟩
theorem rM_f {μ ν m : xM} (h : fP μ ν) (g : rM ν m) : fP μ m := fP_e h (fun j => g.1 101 j (by decide)) (fun j => g.1 102 j (by decide)) (g.2.1 49 (by decide) (by decide) (by decide))
theorem rM_f' {μ ν m m2 : xM} {v w : Int32} {i : Nat} {x : Int32} (h : fP μ ν) (g : rM ν m) (g2 : rM (xpi m 75 26 v) m2) : fP μ (xpi (xpi m2 104 i x) 75 55 w) := fP_e (rM_f (fP_e (rM_f h g) (fun j => xpi_ne (fun q => absurd q.1 (by decide))) (fun j => xpi_ne (fun q => absurd q.1 (by decide))) (xpi_ne (fun q => absurd q.2 (by decide)))) g2) (fun j => (xpi_ne (fun q => absurd q.1 (by decide))).trans (xpi_ne (fun q => absurd q.1 (by decide)))) (fun j => (xpi_ne (fun q => absurd q.1 (by decide))).trans (xpi_ne (fun q => absurd q.1 (by decide)))) ((xpi_ne (fun q => absurd q.2 (by decide))).trans (xpi_ne (fun q => absurd q.1 (by decide))))
theorem rM_f2 {μ ν m2 : xM} {v w : Int32} {i : Nat} {x : Int32} (h : fP μ ν) (g2 : rM (xpi ν 75 26 v) m2) : fP μ (xpi (xpi m2 104 i x) 75 55 w) := fP_e (rM_f (fP_e h (fun j => xpi_ne (fun q => absurd q.1 (by decide))) (fun j => xpi_ne (fun q => absurd q.1 (by decide))) (xpi_ne (fun q => absurd q.2 (by decide)))) g2) (fun j => (xpi_ne (fun q => absurd q.1 (by decide))).trans (xpi_ne (fun q => absurd q.1 (by decide)))) (fun j => (xpi_ne (fun q => absurd q.1 (by decide))).trans (xpi_ne (fun q => absurd q.1 (by decide)))) ((xpi_ne (fun q => absurd q.2 (by decide))).trans (xpi_ne (fun q => absurd q.1 (by decide))))
theorem xB_out {μ ν : xM} (h : xB μ ν) : eB μ ν := by
  obtain ⟨a, b, c, d, e, f⟩ := h
  exact ⟨b, fun q => by have := c q; omega, by omega, e, f⟩
theorem xB_mv {μ ν m : xM} (h : xB μ ν) (hF : rF m = 0 → rF ν = 0) (h0 : 0 ≤ (m.1 75 55).toInt) (h1 : (ν.1 75 49).toInt ≤ (m.1 75 49).toInt) (h2 : rF m = 0 → (m.1 75 49).toInt + (m.1 75 55).toInt - rT m ≤ (ν.1 75 49).toInt + (ν.1 75 55).toInt - rT ν) (h3 : rF ν = 0 → (m.1 75 49).toInt + (m.1 75 55).toInt - rT m ≤ (ν.1 75 49).toInt + (ν.1 75 55).toInt - rT ν + 1) (h4 : ¬ rF ν = 0 → (m.1 75 49).toInt + (m.1 75 55).toInt - rT m ≤ (ν.1 75 49).toInt + (ν.1 75 55).toInt - rT ν) (h5 : rT ν ≤ rT m) (h6 : rT m ≤ 400) : xB μ m := by
  obtain ⟨a, b, c, d, e, f⟩ := h
  refine ⟨h0, by omega, fun q => ?_, ?_, by omega, h6⟩
  · have := c (hF q)
    have := h2 q
    omega
  · by_cases q : rF ν = 0
    · have := c q
      have := h3 q
      omega
    · have := h4 q
      omega
/-- what an expression has printed and what waits -/
def xJ (μ ν : xM) (m : Bool) : Prop := rF ν = 0 → ∃ C w, bP μ ν C ∧ wS ν w ∧ (w.count 40 : Int) = rQ ν ∧ ys (rK μ) (rVl μ) (rT μ) 0 false [] = C ++ ys (rK μ) (rVl μ) (rT ν) (rQ ν) m w
set_option maxRecDepth 10000 in
set_option maxHeartbeats 4000000 in
theorem ex_go3 {μ μ' : xM} {r : Option zV} (h0 : Ex gx xq_144 [.inr (.inl (some 75))] μ r μ') (hr0 : 0 ≤ rT μ) (h4 : rT μ ≤ 400) (hF : 0 ≤ rF μ) : (rT μ' = rT μ ∧ 0 < rF μ') ∨ (rT μ' = rT μ + 1 ∧ rF μ' = rF μ ∧ rT μ ≤ 399) := by
  obtain ⟨n, h⟩ := tx_in (L := [some (.inr (.inl (some 75)))]) h0 rfl
  replace h := tx_aload_n (p' := 1) h em144_0 rfl rfl
  replace h := tx_getf (c := 12) (j := 25) (p' := 4) h em144_1 ((congrFun xo_12 203).trans rfl) rfl rfl (by decide) rfl
  replace h := tx_sipush (v := 400) (p' := 7) h em144_4 (by decide +kernel) rfl
  rcases tx_icmp (t := 18) (p' := 10) h em144_7 (by decide) rfl with ⟨c7, h⟩ | ⟨c7, h⟩
  · replace c7 : ¬ (μ.1 75 25).toInt = 400 := c7
    replace h := tx_aload_n (p' := 19) h em144_18 rfl rfl
    replace h := tx_dup (p' := 20) h em144_19 rfl
    replace h := tx_getf (c := 12) (j := 25) (p' := 23) h em144_20 ((congrFun xo_12 203).trans rfl) rfl rfl (by decide) rfl
    replace h := tx_iconst (v := 1) (p' := 24) h em144_23 (by decide +kernel) rfl
    replace h := tx_iadd (p' := 25) h em144_24 rfl
    replace h := tx_putf (a := 75) (c := 12) (j := 25) (p' := 28) h em144_25 ((congrFun xo_12 203).trans rfl) rfl
    obtain ⟨rfl, hμ⟩ := tx_return h em144_28
    rw [hμ]
    have e1i : (1 : Int32).toInt = 1 := by decide
    refine Or.inr ⟨?_, rfl, by unfold rT at *; omega⟩
    show (μ.1 75 25 + 1).toInt = _
    unfold rT at *
    rw [an_add (by rw [e1i]; omega) (by rw [e1i]; omega), e1i]
  · replace c7 : ¬ ¬ (μ.1 75 25).toInt = 400 := c7
    replace h := tx_aload_n (p' := 11) h em144_10 rfl rfl
    replace h := tx_iconst (v := 2) (p' := 12) h em144_11 (by decide +kernel) rfl
    obtain ⟨r12, μ12, hE12, h⟩ := tx_invV (na := 2) (mn := 133) (as := [.inr (.inl (some 75)), .inl (2 : Int32)]) (rest := []) (p' := 15) h em144_12 ((congrFun xo_12 215).trans rfl) xm_133 rfl rfl
    obtain ⟨rfl, -⟩ := ex_rfail hE12
    replace h : eT xq_144 _ 15 [some (.inr (.inl (some 75)))] [] μ12 r μ' := h
    replace h := tx_goto (t := 28) h em144_15 (by decide)
    obtain ⟨rfl, hμ⟩ := tx_return h em144_28
    obtain ⟨h1, ⟨h2, rfl⟩ | ⟨h2, rfl⟩⟩ := ex_rfail hE12
    · rw [hμ]
      exact Or.inl ⟨rfl, h2⟩
    · rw [hμ]
      refine Or.inl ⟨rfl, ?_⟩
      show (0 : Int) < (2 : Int32).toInt
      decide
theorem ex_fl3 {f : Int32} {μ μ' : xM} {r : Option zV} (h0 : Ex gx xq_133 [.inr (.inl (some 75)), .inl f] μ r μ') (hf : 0 < f.toInt) : rT μ' = rT μ ∧ 0 < rF μ' ∧ μ'.1 75 49 = μ.1 75 49 ∧ μ'.1 75 55 = μ.1 75 55 := by
  obtain ⟨h1, ⟨h2, rfl⟩ | ⟨h2, rfl⟩⟩ := ex_rfail h0
  · exact ⟨rfl, h2, rfl, rfl⟩
  · exact ⟨rfl, hf, rfl, rfl⟩
set_option maxRecDepth 10000 in
set_option maxHeartbeats 4000000 in
theorem ex_emit2 {a b : Int32} {μ μ' : xM} {r : Option zV} (h0 : Ex gx xq_228 [.inr (.inl (some 75)), .inl a, .inl b] μ r μ') : bP μ μ' [(a.toInt, b.toInt)] ∧ (∀ j, μ'.1 104 j = μ.1 104 j) ∧ μ'.1 75 55 = μ.1 75 55 := by
  obtain ⟨n, h⟩ := tx_in (L := [some (.inr (.inl (some 75))), some (.inl a), some (.inl b)]) h0 rfl
  replace h := tx_aload_n (p' := 1) h em228_0 rfl rfl
  replace h := tx_getc (c := 12) (j := 50) (p' := 4) h em228_1 ((congrFun xo_12 95).trans rfl) rfl rfl rfl
  replace h := tx_aload_n (p' := 5) h em228_4 rfl rfl
  replace h := tx_getf (c := 12) (j := 49) (p' := 8) h em228_5 ((congrFun xo_12 242).trans rfl) rfl rfl (by decide) rfl
  replace h := tx_iload_n (p' := 9) h em228_8 rfl rfl
  obtain ⟨hb9, h⟩ := tx_iast (len := 840) (p' := 10) h em228_9 rfl rfl
  replace hb9 : (0 : Int) ≤ (μ.1 75 49).toInt ∧ (μ.1 75 49).toInt < 840 := hb9
  replace h := tx_aload_n (p' := 11) h em228_10 rfl rfl
  replace h := tx_getc (c := 12) (j := 51) (p' := 14) h em228_11 ((congrFun xo_12 98).trans rfl) rfl rfl rfl
  replace h := tx_aload_n (p' := 15) h em228_14 rfl rfl
  replace h := tx_getf (c := 12) (j := 49) (p' := 18) h em228_15 ((congrFun xo_12 242).trans rfl) rfl rfl (by decide) rfl
  replace h : eT xq_228 _ 18 [some (.inr (.inl (some 75))), some (.inl a), some (.inl b)] [.inl (μ.1 75 49), .inr (.inl (some 102))] (xpi μ 101 (μ.1 75 49).toInt.toNat a) r μ' := h
  replace h := tx_iload_n (p' := 19) h em228_18 rfl rfl
  obtain ⟨hb19, h⟩ := tx_iast (len := 840) (p' := 20) h em228_19 rfl rfl
  replace hb19 : (0 : Int) ≤ (μ.1 75 49).toInt ∧ (μ.1 75 49).toInt < 840 := hb19
  replace h := tx_aload_n (p' := 21) h em228_20 rfl rfl
  replace h := tx_dup (p' := 22) h em228_21 rfl
  replace h := tx_getf (c := 12) (j := 49) (p' := 25) h em228_22 ((congrFun xo_12 242).trans rfl) rfl rfl (by decide) rfl
  replace h : eT xq_228 _ 25 [some (.inr (.inl (some 75))), some (.inl a), some (.inl b)] [.inl (μ.1 75 49), .inr (.inl (some 75))] (xpi (xpi μ 101 (μ.1 75 49).toInt.toNat a) 102 (μ.1 75 49).toInt.toNat b) r μ' := h
  replace h := tx_iconst (v := 1) (p' := 26) h em228_25 (by decide +kernel) rfl
  replace h := tx_iadd (p' := 27) h em228_26 rfl
  replace h := tx_putf (a := 75) (c := 12) (j := 49) (p' := 30) h em228_27 ((congrFun xo_12 242).trans rfl) rfl
  obtain ⟨rfl, hμ⟩ := tx_return h em228_30
  have e1i : (1 : Int32).toInt = 1 := by decide
  subst hμ
  refine ⟨⟨?_, fun j hj => ⟨?_, ?_⟩, fun i hi => ?_⟩, fun j => ?_, rfl⟩
  · rw [xpi_at, an_add (by rw [e1i]; omega) (by rw [e1i]; omega), e1i]; rfl
  · rw [xpi_ne (fun q => absurd q.1 (by decide)), xpi_ne (fun q => absurd q.1 (by decide)), xpi_ne (fun q => by omega)]
  · rw [xpi_ne (fun q => absurd q.1 (by decide)), xpi_ne (fun q => by omega), xpi_ne (fun q => absurd q.1 (by decide))]
  · have hi : i < 1 := hi
    have e : i = 0 := by omega
    subst e
    rw [Nat.add_zero]
    exact ⟨by rw [xpi_ne (fun q => absurd q.1 (by decide)), xpi_ne (fun q => absurd q.1 (by decide)), xpi_at]; rfl, by rw [xpi_ne (fun q => absurd q.1 (by decide)), xpi_at]; rfl⟩
  · rw [xpi_ne (fun q => absurd q.1 (by decide)), xpi_ne (fun q => absurd q.1 (by decide)), xpi_ne (fun q => absurd q.1 (by decide))]
set_option maxRecDepth 10000 in
set_option maxHeartbeats 4000000 in
theorem ex_emit3 {a b : Int32} {μ μ' : xM} {r : Option zV} (h0 : Ex gx xq_228 [.inr (.inl (some 75)), .inl a, .inl b] μ r μ') : fP μ μ' := by
  obtain ⟨n, h⟩ := tx_in (L := [some (.inr (.inl (some 75))), some (.inl a), some (.inl b)]) h0 rfl
  replace h := tx_aload_n (p' := 1) h em228_0 rfl rfl
  replace h := tx_getc (c := 12) (j := 50) (p' := 4) h em228_1 ((congrFun xo_12 95).trans rfl) rfl rfl rfl
  replace h := tx_aload_n (p' := 5) h em228_4 rfl rfl
  replace h := tx_getf (c := 12) (j := 49) (p' := 8) h em228_5 ((congrFun xo_12 242).trans rfl) rfl rfl (by decide) rfl
  replace h := tx_iload_n (p' := 9) h em228_8 rfl rfl
  obtain ⟨hb9, h⟩ := tx_iast (len := 840) (p' := 10) h em228_9 rfl rfl
  replace hb9 : (0 : Int) ≤ (μ.1 75 49).toInt ∧ (μ.1 75 49).toInt < 840 := hb9
  replace h := tx_aload_n (p' := 11) h em228_10 rfl rfl
  replace h := tx_getc (c := 12) (j := 51) (p' := 14) h em228_11 ((congrFun xo_12 98).trans rfl) rfl rfl rfl
  replace h := tx_aload_n (p' := 15) h em228_14 rfl rfl
  replace h := tx_getf (c := 12) (j := 49) (p' := 18) h em228_15 ((congrFun xo_12 242).trans rfl) rfl rfl (by decide) rfl
  replace h : eT xq_228 _ 18 [some (.inr (.inl (some 75))), some (.inl a), some (.inl b)] [.inl (μ.1 75 49), .inr (.inl (some 102))] (xpi μ 101 (μ.1 75 49).toInt.toNat a) r μ' := h
  replace h := tx_iload_n (p' := 19) h em228_18 rfl rfl
  obtain ⟨hb19, h⟩ := tx_iast (len := 840) (p' := 20) h em228_19 rfl rfl
  replace hb19 : (0 : Int) ≤ (μ.1 75 49).toInt ∧ (μ.1 75 49).toInt < 840 := hb19
  replace h := tx_aload_n (p' := 21) h em228_20 rfl rfl
  replace h := tx_dup (p' := 22) h em228_21 rfl
  replace h := tx_getf (c := 12) (j := 49) (p' := 25) h em228_22 ((congrFun xo_12 242).trans rfl) rfl rfl (by decide) rfl
  replace h : eT xq_228 _ 25 [some (.inr (.inl (some 75))), some (.inl a), some (.inl b)] [.inl (μ.1 75 49), .inr (.inl (some 75))] (xpi (xpi μ 101 (μ.1 75 49).toInt.toNat a) 102 (μ.1 75 49).toInt.toNat b) r μ' := h
  replace h := tx_iconst (v := 1) (p' := 26) h em228_25 (by decide +kernel) rfl
  replace h := tx_iadd (p' := 27) h em228_26 rfl
  replace h := tx_putf (a := 75) (c := 12) (j := 49) (p' := 30) h em228_27 ((congrFun xo_12 242).trans rfl) rfl
  obtain ⟨rfl, hμ⟩ := tx_return h em228_30
  have e1i : (1 : Int32).toInt = 1 := by decide
  subst hμ
  intro j hj
  rw [xpi_at, an_add (by rw [e1i]; omega) (by rw [e1i]; omega), e1i] at hj
  exact ⟨by rw [xpi_ne (fun q => absurd q.1 (by decide)), xpi_ne (fun q => absurd q.1 (by decide)), xpi_ne (fun q => by omega)], by rw [xpi_ne (fun q => absurd q.1 (by decide)), xpi_ne (fun q => by omega), xpi_ne (fun q => absurd q.1 (by decide))]⟩
set_option maxRecDepth 10000 in
set_option maxHeartbeats 4000000 in
theorem ex_co2 {s : Int32} {sb : Bool} {μ μ' : xM} {r : Option zV} {w : List Int} (h0 : Ex gx xq_229 [.inr (.inl (some 75)), .inl s] μ r μ') (hs : sb = true ↔ ¬ s.toInt = 0) (h0s : 0 ≤ (μ.1 75 49).toInt) (hW0 : wS μ w) : bP μ μ' (popW sb w).1 ∧ wS μ' (popW sb w).2 := by
  obtain ⟨n, h⟩ := tx_in (L := [some (.inr (.inl (some 75))), some (.inl s), none]) h0 rfl
  have e1i : (1 : Int32).toInt = 1 := by decide
  have loop : ∀ (n : Nat) (o : Option zV) (ν : xM) (w : List Int) (C : List kOp), eT xq_229 n 0 [some (.inr (.inl (some 75))), some (.inl s), o] [] ν r μ' → bP μ ν C → wS ν w → bP μ μ' (C ++ (popW sb w).1) ∧ wS μ' (popW sb w).2 := by
    intro n
    induction n using Nat.strongRecOn with
    | ind n ih =>
    intro o ν w C h hB hW
    replace h := tx_aload_n (p' := 1) h em229_0 rfl rfl
    replace h := tx_getf (c := 12) (j := 55) (p' := 4) h em229_1 ((congrFun xo_12 307).trans rfl) rfl rfl (by decide) rfl
    rcases tx_if (t := 91) (p' := 7) h em229_4 (by decide) rfl with ⟨c4, h⟩ | ⟨c4, h⟩
    · replace c4 : (ν.1 75 55).toInt ≤ 0 := c4
      obtain ⟨rfl, hμ⟩ := tx_return h em229_91
      have hw := hW.1
      cases w with
      | nil => rw [hμ]; exact ⟨by rw [show (popW sb []).1 = [] from rfl, List.append_nil]; exact hB, hW⟩
      | cons x w => exfalso; rw [List.length_cons] at hw; omega
    · replace c4 : ¬ (ν.1 75 55).toInt ≤ 0 := c4
      replace h := tx_aload_n (p' := 8) h em229_7 rfl rfl
      replace h := tx_getc (c := 12) (j := 54) (p' := 11) h em229_8 ((congrFun xo_12 104).trans rfl) rfl rfl rfl
      replace h := tx_aload_n (p' := 12) h em229_11 rfl rfl
      replace h := tx_getf (c := 12) (j := 55) (p' := 15) h em229_12 ((congrFun xo_12 307).trans rfl) rfl rfl (by decide) rfl
      replace h := tx_iconst (v := 1) (p' := 16) h em229_15 (by decide +kernel) rfl
      replace h := tx_isub (p' := 17) h em229_16 rfl
      obtain ⟨hb17, h⟩ := tx_iald (len := 64) (p' := 18) h em229_17 rfl rfl
      replace hb17 : (0 : Int) ≤ ((ν.1 75 55) - (1 : Int32)).toInt ∧ ((ν.1 75 55) - (1 : Int32)).toInt < 64 := hb17
      replace h := tx_istore_n (p' := 19) h em229_18 rfl
      replace h : eT xq_229 _ 19 [some (.inr (.inl (some 75))), some (.inl s), some (.inl (ν.1 104 ((ν.1 75 55) - (1 : Int32)).toInt.toNat))] [] ν r μ' := h
      replace h := tx_iload_n (p' := 20) h em229_19 rfl rfl
      replace h := tx_bipush (v := 6) (p' := 22) h em229_20 (by decide +kernel) rfl
      rcases tx_icmp (t := 41) (p' := 25) h em229_22 (by decide) rfl with ⟨c22, h⟩ | ⟨c22, h⟩
      · replace c22 : (ν.1 104 ((ν.1 75 55) - (1 : Int32)).toInt.toNat).toInt = 6 := c22
        obtain ⟨rfl, hμ⟩ := tx_return h em229_41
        have hw := hW.1
        cases w with
        | nil => exfalso; have hw0 : (([] : List Int).length : Int) = 0 := rfl; omega
        | cons x w =>
          rw [List.length_cons] at hw
          have h2 := an_hi (ν.1 75 55)
          have eTT : ((ν.1 75 55) - (1 : Int32)).toInt = w.length := by rw [an_sub (by rw [e1i]; omega) (by rw [e1i]; omega), e1i]; omega
          have eN : ((ν.1 75 55) - (1 : Int32)).toInt.toNat = w.length := by omega
          have hx := wS_h hW
          have v40 : x = 40 ↔ (ν.1 104 w.length).toInt = 6 := by rw [← hx]; exact kmp_e (k := 6) (by decide)
          have v43 : x = 43 ↔ (ν.1 104 w.length).toInt = 8 := by rw [← hx]; exact kmp_e (k := 8) (by decide)
          have v45 : x = 45 ↔ (ν.1 104 w.length).toInt = 9 := by rw [← hx]; exact kmp_e (k := 9) (by decide)
          rw [eN] at c22
          rw [hμ, popW_y (Or.inl (v40.mpr c22))]
          exact ⟨by rw [List.append_nil]; exact hB, hW⟩
      · replace c22 : ¬ (ν.1 104 ((ν.1 75 55) - (1 : Int32)).toInt.toNat).toInt = 6 := c22
        replace h := tx_iload_n (p' := 26) h em229_25 rfl rfl
        rcases tx_if (t := 42) (p' := 29) h em229_26 (by decide) rfl with ⟨c26, h⟩ | ⟨c26, h⟩
        · replace c26 : s.toInt = 0 := c26
          replace h := tx_aload_n (p' := 43) h em229_42 rfl rfl
          replace h := tx_dup (p' := 44) h em229_43 rfl
          replace h := tx_getf (c := 12) (j := 55) (p' := 47) h em229_44 ((congrFun xo_12 307).trans rfl) rfl rfl (by decide) rfl
          replace h := tx_iconst (v := 1) (p' := 48) h em229_47 (by decide +kernel) rfl
          replace h := tx_isub (p' := 49) h em229_48 rfl
          replace h := tx_putf (a := 75) (c := 12) (j := 55) (p' := 52) h em229_49 ((congrFun xo_12 307).trans rfl) rfl
          replace h := tx_aload_n (p' := 53) h em229_52 rfl rfl
          replace h := tx_iload_n (p' := 54) h em229_53 rfl rfl
          replace h := tx_bipush (v := 8) (p' := 56) h em229_54 (by decide +kernel) rfl
          rcases tx_icmp (t := 63) (p' := 59) h em229_56 (by decide) rfl with ⟨c56, h⟩ | ⟨c56, h⟩
          · replace c56 : ¬ (ν.1 104 ((ν.1 75 55) - (1 : Int32)).toInt.toNat).toInt = 8 := c56
            replace h := tx_iload_n (p' := 64) h em229_63 rfl rfl
            replace h := tx_bipush (v := 9) (p' := 66) h em229_64 (by decide +kernel) rfl
            rcases tx_icmp (t := 73) (p' := 69) h em229_66 (by decide) rfl with ⟨c66, h⟩ | ⟨c66, h⟩
            · replace c66 : ¬ (ν.1 104 ((ν.1 75 55) - (1 : Int32)).toInt.toNat).toInt = 9 := c66
              replace h := tx_iload_n (p' := 74) h em229_73 rfl rfl
              replace h := tx_bipush (v := 10) (p' := 76) h em229_74 (by decide +kernel) rfl
              rcases tx_icmp (t := 83) (p' := 79) h em229_76 (by decide) rfl with ⟨c76, h⟩ | ⟨c76, h⟩
              · replace c76 : ¬ (ν.1 104 ((ν.1 75 55) - (1 : Int32)).toInt.toNat).toInt = 10 := c76
                replace h := tx_iconst (v := 5) (p' := 84) h em229_83 (by decide +kernel) rfl
                replace h := tx_iconst (v := 0) (p' := 85) h em229_84 (by decide +kernel) rfl
                obtain ⟨r85, μ85, hE85, h⟩ := tx_invV (na := 3) (mn := 228) (as := [.inr (.inl (some 75)), .inl (5 : Int32), .inl (0 : Int32)]) (rest := []) (p' := 88) h em229_85 ((congrFun xo_12 310).trans rfl) xm_228 rfl rfl
                have he85 := ex_emit2 hE85
                have hfe85 := ex_emit3 hE85
                obtain ⟨rfl, hc85⟩ := ex_emit hE85
                replace h : eT xq_229 _ 88 [some (.inr (.inl (some 75))), some (.inl s), some (.inl (ν.1 104 ((ν.1 75 55) - (1 : Int32)).toInt.toNat))] [] μ85 r μ' := h
                obtain ⟨n2, hn2, h⟩ := tx_gotoS (t := 0) h em229_88 (by decide)
                have hw := hW.1
                cases w with
                | nil => exfalso; have hw0 : (([] : List Int).length : Int) = 0 := rfl; omega
                | cons x w =>
                  rw [List.length_cons] at hw
                  have h2 := an_hi (ν.1 75 55)
                  have eTT : ((ν.1 75 55) - (1 : Int32)).toInt = w.length := by rw [an_sub (by rw [e1i]; omega) (by rw [e1i]; omega), e1i]; omega
                  have eN : ((ν.1 75 55) - (1 : Int32)).toInt.toNat = w.length := by omega
                  have hx := wS_h hW
                  have v40 : x = 40 ↔ (ν.1 104 w.length).toInt = 6 := by rw [← hx]; exact kmp_e (k := 6) (by decide)
                  have v43 : x = 43 ↔ (ν.1 104 w.length).toInt = 8 := by rw [← hx]; exact kmp_e (k := 8) (by decide)
                  have v45 : x = 45 ↔ (ν.1 104 w.length).toInt = 9 := by rw [← hx]; exact kmp_e (k := 9) (by decide)
                  rw [eN] at c22 c56 c66 c76
                  have hsb : sb = false := by
                    cases sb with
                    | true => exact absurd c26 (hs.mp rfl)
                    | false => rfl
                  have ho : opc x = 5 := by rw [← hx, opc_k, if_neg (by omega), if_neg (by omega), if_neg (by omega)]
                  obtain ⟨e1, e2, e3⟩ := he85
                  have hD := bP_l e1 (fun j => xpi_ne (fun q => absurd q.1 (by decide))) (fun j => xpi_ne (fun q => absurd q.1 (by decide))) (xpi_ne (fun q => absurd q.2 (by decide)))
                  have hW2 : wS μ85 w := wS_t hW (fun j => (e2 j).trans (xpi_ne (fun q => absurd q.1 (by decide)))) (by rw [e3, xpi_at]; exact eTT)
                  have hg := ih n2 hn2 _ _ w _ h (bP_tr h0s hB hD) hW2
                  rw [popW_s (fun z => by rcases z with z | ⟨z, -⟩; exact c22 (v40.mp z); rw [hsb] at z; cases z), ho]
                  rw [List.append_assoc] at hg
                  exact hg
              · replace c76 : ¬ ¬ (ν.1 104 ((ν.1 75 55) - (1 : Int32)).toInt.toNat).toInt = 10 := c76
                replace h := tx_iconst (v := 4) (p' := 80) h em229_79 (by decide +kernel) rfl
                replace h := tx_goto (t := 84) h em229_80 (by decide)
                replace h := tx_iconst (v := 0) (p' := 85) h em229_84 (by decide +kernel) rfl
                obtain ⟨r85_1, μ85_1, hE85_1, h⟩ := tx_invV (na := 3) (mn := 228) (as := [.inr (.inl (some 75)), .inl (4 : Int32), .inl (0 : Int32)]) (rest := []) (p' := 88) h em229_85 ((congrFun xo_12 310).trans rfl) xm_228 rfl rfl
                have he85_1 := ex_emit2 hE85_1
                have hfe85_1 := ex_emit3 hE85_1
                obtain ⟨rfl, hc85_1⟩ := ex_emit hE85_1
                replace h : eT xq_229 _ 88 [some (.inr (.inl (some 75))), some (.inl s), some (.inl (ν.1 104 ((ν.1 75 55) - (1 : Int32)).toInt.toNat))] [] μ85_1 r μ' := h
                obtain ⟨n2, hn2, h⟩ := tx_gotoS (t := 0) h em229_88 (by decide)
                have hw := hW.1
                cases w with
                | nil => exfalso; have hw0 : (([] : List Int).length : Int) = 0 := rfl; omega
                | cons x w =>
                  rw [List.length_cons] at hw
                  have h2 := an_hi (ν.1 75 55)
                  have eTT : ((ν.1 75 55) - (1 : Int32)).toInt = w.length := by rw [an_sub (by rw [e1i]; omega) (by rw [e1i]; omega), e1i]; omega
                  have eN : ((ν.1 75 55) - (1 : Int32)).toInt.toNat = w.length := by omega
                  have hx := wS_h hW
                  have v40 : x = 40 ↔ (ν.1 104 w.length).toInt = 6 := by rw [← hx]; exact kmp_e (k := 6) (by decide)
                  have v43 : x = 43 ↔ (ν.1 104 w.length).toInt = 8 := by rw [← hx]; exact kmp_e (k := 8) (by decide)
                  have v45 : x = 45 ↔ (ν.1 104 w.length).toInt = 9 := by rw [← hx]; exact kmp_e (k := 9) (by decide)
                  rw [eN] at c22 c56 c66 c76
                  have hsb : sb = false := by
                    cases sb with
                    | true => exact absurd c26 (hs.mp rfl)
                    | false => rfl
                  have ho : opc x = 4 := by rw [← hx, opc_k, if_neg (by omega), if_neg (by omega), if_pos (by omega)]
                  obtain ⟨e1, e2, e3⟩ := he85_1
                  have hD := bP_l e1 (fun j => xpi_ne (fun q => absurd q.1 (by decide))) (fun j => xpi_ne (fun q => absurd q.1 (by decide))) (xpi_ne (fun q => absurd q.2 (by decide)))
                  have hW2 : wS μ85_1 w := wS_t hW (fun j => (e2 j).trans (xpi_ne (fun q => absurd q.1 (by decide)))) (by rw [e3, xpi_at]; exact eTT)
                  have hg := ih n2 hn2 _ _ w _ h (bP_tr h0s hB hD) hW2
                  rw [popW_s (fun z => by rcases z with z | ⟨z, -⟩; exact c22 (v40.mp z); rw [hsb] at z; cases z), ho]
                  rw [List.append_assoc] at hg
                  exact hg
            · replace c66 : ¬ ¬ (ν.1 104 ((ν.1 75 55) - (1 : Int32)).toInt.toNat).toInt = 9 := c66
              replace h := tx_iconst (v := 3) (p' := 70) h em229_69 (by decide +kernel) rfl
              replace h := tx_goto (t := 84) h em229_70 (by decide)
              replace h := tx_iconst (v := 0) (p' := 85) h em229_84 (by decide +kernel) rfl
              obtain ⟨r85_2, μ85_2, hE85_2, h⟩ := tx_invV (na := 3) (mn := 228) (as := [.inr (.inl (some 75)), .inl (3 : Int32), .inl (0 : Int32)]) (rest := []) (p' := 88) h em229_85 ((congrFun xo_12 310).trans rfl) xm_228 rfl rfl
              have he85_2 := ex_emit2 hE85_2
              have hfe85_2 := ex_emit3 hE85_2
              obtain ⟨rfl, hc85_2⟩ := ex_emit hE85_2
              replace h : eT xq_229 _ 88 [some (.inr (.inl (some 75))), some (.inl s), some (.inl (ν.1 104 ((ν.1 75 55) - (1 : Int32)).toInt.toNat))] [] μ85_2 r μ' := h
              obtain ⟨n2, hn2, h⟩ := tx_gotoS (t := 0) h em229_88 (by decide)
              have hw := hW.1
              cases w with
              | nil => exfalso; have hw0 : (([] : List Int).length : Int) = 0 := rfl; omega
              | cons x w =>
                rw [List.length_cons] at hw
                have h2 := an_hi (ν.1 75 55)
                have eTT : ((ν.1 75 55) - (1 : Int32)).toInt = w.length := by rw [an_sub (by rw [e1i]; omega) (by rw [e1i]; omega), e1i]; omega
                have eN : ((ν.1 75 55) - (1 : Int32)).toInt.toNat = w.length := by omega
                have hx := wS_h hW
                have v40 : x = 40 ↔ (ν.1 104 w.length).toInt = 6 := by rw [← hx]; exact kmp_e (k := 6) (by decide)
                have v43 : x = 43 ↔ (ν.1 104 w.length).toInt = 8 := by rw [← hx]; exact kmp_e (k := 8) (by decide)
                have v45 : x = 45 ↔ (ν.1 104 w.length).toInt = 9 := by rw [← hx]; exact kmp_e (k := 9) (by decide)
                rw [eN] at c22 c56 c66
                have hsb : sb = false := by
                  cases sb with
                  | true => exact absurd c26 (hs.mp rfl)
                  | false => rfl
                have ho : opc x = 3 := by rw [← hx, opc_k, if_neg (by omega), if_pos (by omega)]
                obtain ⟨e1, e2, e3⟩ := he85_2
                have hD := bP_l e1 (fun j => xpi_ne (fun q => absurd q.1 (by decide))) (fun j => xpi_ne (fun q => absurd q.1 (by decide))) (xpi_ne (fun q => absurd q.2 (by decide)))
                have hW2 : wS μ85_2 w := wS_t hW (fun j => (e2 j).trans (xpi_ne (fun q => absurd q.1 (by decide)))) (by rw [e3, xpi_at]; exact eTT)
                have hg := ih n2 hn2 _ _ w _ h (bP_tr h0s hB hD) hW2
                rw [popW_s (fun z => by rcases z with z | ⟨z, -⟩; exact c22 (v40.mp z); rw [hsb] at z; cases z), ho]
                rw [List.append_assoc] at hg
                exact hg
          · replace c56 : ¬ ¬ (ν.1 104 ((ν.1 75 55) - (1 : Int32)).toInt.toNat).toInt = 8 := c56
            replace h := tx_iconst (v := 2) (p' := 60) h em229_59 (by decide +kernel) rfl
            replace h := tx_goto (t := 84) h em229_60 (by decide)
            replace h := tx_iconst (v := 0) (p' := 85) h em229_84 (by decide +kernel) rfl
            obtain ⟨r85_3, μ85_3, hE85_3, h⟩ := tx_invV (na := 3) (mn := 228) (as := [.inr (.inl (some 75)), .inl (2 : Int32), .inl (0 : Int32)]) (rest := []) (p' := 88) h em229_85 ((congrFun xo_12 310).trans rfl) xm_228 rfl rfl
            have he85_3 := ex_emit2 hE85_3
            have hfe85_3 := ex_emit3 hE85_3
            obtain ⟨rfl, hc85_3⟩ := ex_emit hE85_3
            replace h : eT xq_229 _ 88 [some (.inr (.inl (some 75))), some (.inl s), some (.inl (ν.1 104 ((ν.1 75 55) - (1 : Int32)).toInt.toNat))] [] μ85_3 r μ' := h
            obtain ⟨n2, hn2, h⟩ := tx_gotoS (t := 0) h em229_88 (by decide)
            have hw := hW.1
            cases w with
            | nil => exfalso; have hw0 : (([] : List Int).length : Int) = 0 := rfl; omega
            | cons x w =>
              rw [List.length_cons] at hw
              have h2 := an_hi (ν.1 75 55)
              have eTT : ((ν.1 75 55) - (1 : Int32)).toInt = w.length := by rw [an_sub (by rw [e1i]; omega) (by rw [e1i]; omega), e1i]; omega
              have eN : ((ν.1 75 55) - (1 : Int32)).toInt.toNat = w.length := by omega
              have hx := wS_h hW
              have v40 : x = 40 ↔ (ν.1 104 w.length).toInt = 6 := by rw [← hx]; exact kmp_e (k := 6) (by decide)
              have v43 : x = 43 ↔ (ν.1 104 w.length).toInt = 8 := by rw [← hx]; exact kmp_e (k := 8) (by decide)
              have v45 : x = 45 ↔ (ν.1 104 w.length).toInt = 9 := by rw [← hx]; exact kmp_e (k := 9) (by decide)
              rw [eN] at c22 c56
              have hsb : sb = false := by
                cases sb with
                | true => exact absurd c26 (hs.mp rfl)
                | false => rfl
              have ho : opc x = 2 := by rw [← hx, opc_k, if_pos (by omega)]
              obtain ⟨e1, e2, e3⟩ := he85_3
              have hD := bP_l e1 (fun j => xpi_ne (fun q => absurd q.1 (by decide))) (fun j => xpi_ne (fun q => absurd q.1 (by decide))) (xpi_ne (fun q => absurd q.2 (by decide)))
              have hW2 : wS μ85_3 w := wS_t hW (fun j => (e2 j).trans (xpi_ne (fun q => absurd q.1 (by decide)))) (by rw [e3, xpi_at]; exact eTT)
              have hg := ih n2 hn2 _ _ w _ h (bP_tr h0s hB hD) hW2
              rw [popW_s (fun z => by rcases z with z | ⟨z, -⟩; exact c22 (v40.mp z); rw [hsb] at z; cases z), ho]
              rw [List.append_assoc] at hg
              exact hg
        · replace c26 : ¬ s.toInt = 0 := c26
          replace h := tx_iload_n (p' := 30) h em229_29 rfl rfl
          replace h := tx_bipush (v := 8) (p' := 32) h em229_30 (by decide +kernel) rfl
          rcases tx_icmp (t := 41) (p' := 35) h em229_32 (by decide) rfl with ⟨c32, h⟩ | ⟨c32, h⟩
          · replace c32 : (ν.1 104 ((ν.1 75 55) - (1 : Int32)).toInt.toNat).toInt = 8 := c32
            obtain ⟨rfl, hμ⟩ := tx_return h em229_41
            have hw := hW.1
            cases w with
            | nil => exfalso; have hw0 : (([] : List Int).length : Int) = 0 := rfl; omega
            | cons x w =>
              rw [List.length_cons] at hw
              have h2 := an_hi (ν.1 75 55)
              have eTT : ((ν.1 75 55) - (1 : Int32)).toInt = w.length := by rw [an_sub (by rw [e1i]; omega) (by rw [e1i]; omega), e1i]; omega
              have eN : ((ν.1 75 55) - (1 : Int32)).toInt.toNat = w.length := by omega
              have hx := wS_h hW
              have v40 : x = 40 ↔ (ν.1 104 w.length).toInt = 6 := by rw [← hx]; exact kmp_e (k := 6) (by decide)
              have v43 : x = 43 ↔ (ν.1 104 w.length).toInt = 8 := by rw [← hx]; exact kmp_e (k := 8) (by decide)
              have v45 : x = 45 ↔ (ν.1 104 w.length).toInt = 9 := by rw [← hx]; exact kmp_e (k := 9) (by decide)
              rw [eN] at c22 c32
              have hsb : sb = true := by
                cases sb with
                | true => rfl
                | false => exact absurd (hs.mpr c26) (by decide)
              rw [hμ, popW_y (Or.inr ⟨hsb, Or.inl (v43.mpr c32)⟩)]
              exact ⟨by rw [List.append_nil]; exact hB, hW⟩
          · replace c32 : ¬ (ν.1 104 ((ν.1 75 55) - (1 : Int32)).toInt.toNat).toInt = 8 := c32
            replace h := tx_iload_n (p' := 36) h em229_35 rfl rfl
            replace h := tx_bipush (v := 9) (p' := 38) h em229_36 (by decide +kernel) rfl
            rcases tx_icmp (t := 42) (p' := 41) h em229_38 (by decide) rfl with ⟨c38, h⟩ | ⟨c38, h⟩
            · replace c38 : ¬ (ν.1 104 ((ν.1 75 55) - (1 : Int32)).toInt.toNat).toInt = 9 := c38
              replace h := tx_aload_n (p' := 43) h em229_42 rfl rfl
              replace h := tx_dup (p' := 44) h em229_43 rfl
              replace h := tx_getf (c := 12) (j := 55) (p' := 47) h em229_44 ((congrFun xo_12 307).trans rfl) rfl rfl (by decide) rfl
              replace h := tx_iconst (v := 1) (p' := 48) h em229_47 (by decide +kernel) rfl
              replace h := tx_isub (p' := 49) h em229_48 rfl
              replace h := tx_putf (a := 75) (c := 12) (j := 55) (p' := 52) h em229_49 ((congrFun xo_12 307).trans rfl) rfl
              replace h := tx_aload_n (p' := 53) h em229_52 rfl rfl
              replace h := tx_iload_n (p' := 54) h em229_53 rfl rfl
              replace h := tx_bipush (v := 8) (p' := 56) h em229_54 (by decide +kernel) rfl
              rcases tx_icmp (t := 63) (p' := 59) h em229_56 (by decide) rfl with ⟨c56_1, h⟩ | ⟨c56_1, h⟩
              · replace c56_1 : ¬ (ν.1 104 ((ν.1 75 55) - (1 : Int32)).toInt.toNat).toInt = 8 := c56_1
                replace h := tx_iload_n (p' := 64) h em229_63 rfl rfl
                replace h := tx_bipush (v := 9) (p' := 66) h em229_64 (by decide +kernel) rfl
                rcases tx_icmp (t := 73) (p' := 69) h em229_66 (by decide) rfl with ⟨c66_1, h⟩ | ⟨c66_1, h⟩
                · replace c66_1 : ¬ (ν.1 104 ((ν.1 75 55) - (1 : Int32)).toInt.toNat).toInt = 9 := c66_1
                  replace h := tx_iload_n (p' := 74) h em229_73 rfl rfl
                  replace h := tx_bipush (v := 10) (p' := 76) h em229_74 (by decide +kernel) rfl
                  rcases tx_icmp (t := 83) (p' := 79) h em229_76 (by decide) rfl with ⟨c76_1, h⟩ | ⟨c76_1, h⟩
                  · replace c76_1 : ¬ (ν.1 104 ((ν.1 75 55) - (1 : Int32)).toInt.toNat).toInt = 10 := c76_1
                    replace h := tx_iconst (v := 5) (p' := 84) h em229_83 (by decide +kernel) rfl
                    replace h := tx_iconst (v := 0) (p' := 85) h em229_84 (by decide +kernel) rfl
                    obtain ⟨r85_4, μ85_4, hE85_4, h⟩ := tx_invV (na := 3) (mn := 228) (as := [.inr (.inl (some 75)), .inl (5 : Int32), .inl (0 : Int32)]) (rest := []) (p' := 88) h em229_85 ((congrFun xo_12 310).trans rfl) xm_228 rfl rfl
                    have he85_4 := ex_emit2 hE85_4
                    have hfe85_4 := ex_emit3 hE85_4
                    obtain ⟨rfl, hc85_4⟩ := ex_emit hE85_4
                    replace h : eT xq_229 _ 88 [some (.inr (.inl (some 75))), some (.inl s), some (.inl (ν.1 104 ((ν.1 75 55) - (1 : Int32)).toInt.toNat))] [] μ85_4 r μ' := h
                    obtain ⟨n2, hn2, h⟩ := tx_gotoS (t := 0) h em229_88 (by decide)
                    have hw := hW.1
                    cases w with
                    | nil => exfalso; have hw0 : (([] : List Int).length : Int) = 0 := rfl; omega
                    | cons x w =>
                      rw [List.length_cons] at hw
                      have h2 := an_hi (ν.1 75 55)
                      have eTT : ((ν.1 75 55) - (1 : Int32)).toInt = w.length := by rw [an_sub (by rw [e1i]; omega) (by rw [e1i]; omega), e1i]; omega
                      have eN : ((ν.1 75 55) - (1 : Int32)).toInt.toNat = w.length := by omega
                      have hx := wS_h hW
                      have v40 : x = 40 ↔ (ν.1 104 w.length).toInt = 6 := by rw [← hx]; exact kmp_e (k := 6) (by decide)
                      have v43 : x = 43 ↔ (ν.1 104 w.length).toInt = 8 := by rw [← hx]; exact kmp_e (k := 8) (by decide)
                      have v45 : x = 45 ↔ (ν.1 104 w.length).toInt = 9 := by rw [← hx]; exact kmp_e (k := 9) (by decide)
                      rw [eN] at c22 c32 c38 c56_1 c66_1 c76_1
                      have hsb : sb = true := by
                        cases sb with
                        | true => rfl
                        | false => exact absurd (hs.mpr c26) (by decide)
                      have ho : opc x = 5 := by rw [← hx, opc_k, if_neg (by omega), if_neg (by omega), if_neg (by omega)]
                      obtain ⟨e1, e2, e3⟩ := he85_4
                      have hD := bP_l e1 (fun j => xpi_ne (fun q => absurd q.1 (by decide))) (fun j => xpi_ne (fun q => absurd q.1 (by decide))) (xpi_ne (fun q => absurd q.2 (by decide)))
                      have hW2 : wS μ85_4 w := wS_t hW (fun j => (e2 j).trans (xpi_ne (fun q => absurd q.1 (by decide)))) (by rw [e3, xpi_at]; exact eTT)
                      have hg := ih n2 hn2 _ _ w _ h (bP_tr h0s hB hD) hW2
                      rw [popW_s (fun z => by rcases z with z | ⟨-, z | z⟩; exact c22 (v40.mp z); exact c32 (v43.mp z); exact c38 (v45.mp z)), ho]
                      rw [List.append_assoc] at hg
                      exact hg
                  · replace c76_1 : ¬ ¬ (ν.1 104 ((ν.1 75 55) - (1 : Int32)).toInt.toNat).toInt = 10 := c76_1
                    replace h := tx_iconst (v := 4) (p' := 80) h em229_79 (by decide +kernel) rfl
                    replace h := tx_goto (t := 84) h em229_80 (by decide)
                    replace h := tx_iconst (v := 0) (p' := 85) h em229_84 (by decide +kernel) rfl
                    obtain ⟨r85_5, μ85_5, hE85_5, h⟩ := tx_invV (na := 3) (mn := 228) (as := [.inr (.inl (some 75)), .inl (4 : Int32), .inl (0 : Int32)]) (rest := []) (p' := 88) h em229_85 ((congrFun xo_12 310).trans rfl) xm_228 rfl rfl
                    have he85_5 := ex_emit2 hE85_5
                    have hfe85_5 := ex_emit3 hE85_5
                    obtain ⟨rfl, hc85_5⟩ := ex_emit hE85_5
                    replace h : eT xq_229 _ 88 [some (.inr (.inl (some 75))), some (.inl s), some (.inl (ν.1 104 ((ν.1 75 55) - (1 : Int32)).toInt.toNat))] [] μ85_5 r μ' := h
                    obtain ⟨n2, hn2, h⟩ := tx_gotoS (t := 0) h em229_88 (by decide)
                    have hw := hW.1
                    cases w with
                    | nil => exfalso; have hw0 : (([] : List Int).length : Int) = 0 := rfl; omega
                    | cons x w =>
                      rw [List.length_cons] at hw
                      have h2 := an_hi (ν.1 75 55)
                      have eTT : ((ν.1 75 55) - (1 : Int32)).toInt = w.length := by rw [an_sub (by rw [e1i]; omega) (by rw [e1i]; omega), e1i]; omega
                      have eN : ((ν.1 75 55) - (1 : Int32)).toInt.toNat = w.length := by omega
                      have hx := wS_h hW
                      have v40 : x = 40 ↔ (ν.1 104 w.length).toInt = 6 := by rw [← hx]; exact kmp_e (k := 6) (by decide)
                      have v43 : x = 43 ↔ (ν.1 104 w.length).toInt = 8 := by rw [← hx]; exact kmp_e (k := 8) (by decide)
                      have v45 : x = 45 ↔ (ν.1 104 w.length).toInt = 9 := by rw [← hx]; exact kmp_e (k := 9) (by decide)
                      rw [eN] at c22 c32 c38 c56_1 c66_1 c76_1
                      have hsb : sb = true := by
                        cases sb with
                        | true => rfl
                        | false => exact absurd (hs.mpr c26) (by decide)
                      have ho : opc x = 4 := by rw [← hx, opc_k, if_neg (by omega), if_neg (by omega), if_pos (by omega)]
                      obtain ⟨e1, e2, e3⟩ := he85_5
                      have hD := bP_l e1 (fun j => xpi_ne (fun q => absurd q.1 (by decide))) (fun j => xpi_ne (fun q => absurd q.1 (by decide))) (xpi_ne (fun q => absurd q.2 (by decide)))
                      have hW2 : wS μ85_5 w := wS_t hW (fun j => (e2 j).trans (xpi_ne (fun q => absurd q.1 (by decide)))) (by rw [e3, xpi_at]; exact eTT)
                      have hg := ih n2 hn2 _ _ w _ h (bP_tr h0s hB hD) hW2
                      rw [popW_s (fun z => by rcases z with z | ⟨-, z | z⟩; exact c22 (v40.mp z); exact c32 (v43.mp z); exact c38 (v45.mp z)), ho]
                      rw [List.append_assoc] at hg
                      exact hg
                · replace c66_1 : ¬ ¬ (ν.1 104 ((ν.1 75 55) - (1 : Int32)).toInt.toNat).toInt = 9 := c66_1
                  replace h := tx_iconst (v := 3) (p' := 70) h em229_69 (by decide +kernel) rfl
                  replace h := tx_goto (t := 84) h em229_70 (by decide)
                  replace h := tx_iconst (v := 0) (p' := 85) h em229_84 (by decide +kernel) rfl
                  obtain ⟨r85_6, μ85_6, hE85_6, h⟩ := tx_invV (na := 3) (mn := 228) (as := [.inr (.inl (some 75)), .inl (3 : Int32), .inl (0 : Int32)]) (rest := []) (p' := 88) h em229_85 ((congrFun xo_12 310).trans rfl) xm_228 rfl rfl
                  have he85_6 := ex_emit2 hE85_6
                  have hfe85_6 := ex_emit3 hE85_6
                  obtain ⟨rfl, hc85_6⟩ := ex_emit hE85_6
                  replace h : eT xq_229 _ 88 [some (.inr (.inl (some 75))), some (.inl s), some (.inl (ν.1 104 ((ν.1 75 55) - (1 : Int32)).toInt.toNat))] [] μ85_6 r μ' := h
                  obtain ⟨n2, hn2, h⟩ := tx_gotoS (t := 0) h em229_88 (by decide)
                  have hw := hW.1
                  cases w with
                  | nil => exfalso; have hw0 : (([] : List Int).length : Int) = 0 := rfl; omega
                  | cons x w =>
                    rw [List.length_cons] at hw
                    have h2 := an_hi (ν.1 75 55)
                    have eTT : ((ν.1 75 55) - (1 : Int32)).toInt = w.length := by rw [an_sub (by rw [e1i]; omega) (by rw [e1i]; omega), e1i]; omega
                    have eN : ((ν.1 75 55) - (1 : Int32)).toInt.toNat = w.length := by omega
                    have hx := wS_h hW
                    have v40 : x = 40 ↔ (ν.1 104 w.length).toInt = 6 := by rw [← hx]; exact kmp_e (k := 6) (by decide)
                    have v43 : x = 43 ↔ (ν.1 104 w.length).toInt = 8 := by rw [← hx]; exact kmp_e (k := 8) (by decide)
                    have v45 : x = 45 ↔ (ν.1 104 w.length).toInt = 9 := by rw [← hx]; exact kmp_e (k := 9) (by decide)
                    rw [eN] at c22 c32 c38 c56_1 c66_1
                    have hsb : sb = true := by
                      cases sb with
                      | true => rfl
                      | false => exact absurd (hs.mpr c26) (by decide)
                    have ho : opc x = 3 := by rw [← hx, opc_k, if_neg (by omega), if_pos (by omega)]
                    obtain ⟨e1, e2, e3⟩ := he85_6
                    have hD := bP_l e1 (fun j => xpi_ne (fun q => absurd q.1 (by decide))) (fun j => xpi_ne (fun q => absurd q.1 (by decide))) (xpi_ne (fun q => absurd q.2 (by decide)))
                    have hW2 : wS μ85_6 w := wS_t hW (fun j => (e2 j).trans (xpi_ne (fun q => absurd q.1 (by decide)))) (by rw [e3, xpi_at]; exact eTT)
                    have hg := ih n2 hn2 _ _ w _ h (bP_tr h0s hB hD) hW2
                    rw [popW_s (fun z => by rcases z with z | ⟨-, z | z⟩; exact c22 (v40.mp z); exact c32 (v43.mp z); exact c38 (v45.mp z)), ho]
                    rw [List.append_assoc] at hg
                    exact hg
              · replace c56_1 : ¬ ¬ (ν.1 104 ((ν.1 75 55) - (1 : Int32)).toInt.toNat).toInt = 8 := c56_1
                replace h := tx_iconst (v := 2) (p' := 60) h em229_59 (by decide +kernel) rfl
                replace h := tx_goto (t := 84) h em229_60 (by decide)
                replace h := tx_iconst (v := 0) (p' := 85) h em229_84 (by decide +kernel) rfl
                obtain ⟨r85_7, μ85_7, hE85_7, h⟩ := tx_invV (na := 3) (mn := 228) (as := [.inr (.inl (some 75)), .inl (2 : Int32), .inl (0 : Int32)]) (rest := []) (p' := 88) h em229_85 ((congrFun xo_12 310).trans rfl) xm_228 rfl rfl
                have he85_7 := ex_emit2 hE85_7
                have hfe85_7 := ex_emit3 hE85_7
                obtain ⟨rfl, hc85_7⟩ := ex_emit hE85_7
                replace h : eT xq_229 _ 88 [some (.inr (.inl (some 75))), some (.inl s), some (.inl (ν.1 104 ((ν.1 75 55) - (1 : Int32)).toInt.toNat))] [] μ85_7 r μ' := h
                obtain ⟨n2, hn2, h⟩ := tx_gotoS (t := 0) h em229_88 (by decide)
                have hw := hW.1
                cases w with
                | nil => exfalso; have hw0 : (([] : List Int).length : Int) = 0 := rfl; omega
                | cons x w =>
                  rw [List.length_cons] at hw
                  have h2 := an_hi (ν.1 75 55)
                  have eTT : ((ν.1 75 55) - (1 : Int32)).toInt = w.length := by rw [an_sub (by rw [e1i]; omega) (by rw [e1i]; omega), e1i]; omega
                  have eN : ((ν.1 75 55) - (1 : Int32)).toInt.toNat = w.length := by omega
                  have hx := wS_h hW
                  have v40 : x = 40 ↔ (ν.1 104 w.length).toInt = 6 := by rw [← hx]; exact kmp_e (k := 6) (by decide)
                  have v43 : x = 43 ↔ (ν.1 104 w.length).toInt = 8 := by rw [← hx]; exact kmp_e (k := 8) (by decide)
                  have v45 : x = 45 ↔ (ν.1 104 w.length).toInt = 9 := by rw [← hx]; exact kmp_e (k := 9) (by decide)
                  rw [eN] at c22 c32 c38 c56_1
                  have hsb : sb = true := by
                    cases sb with
                    | true => rfl
                    | false => exact absurd (hs.mpr c26) (by decide)
                  have ho : opc x = 2 := by rw [← hx, opc_k, if_pos (by omega)]
                  obtain ⟨e1, e2, e3⟩ := he85_7
                  have hD := bP_l e1 (fun j => xpi_ne (fun q => absurd q.1 (by decide))) (fun j => xpi_ne (fun q => absurd q.1 (by decide))) (xpi_ne (fun q => absurd q.2 (by decide)))
                  have hW2 : wS μ85_7 w := wS_t hW (fun j => (e2 j).trans (xpi_ne (fun q => absurd q.1 (by decide)))) (by rw [e3, xpi_at]; exact eTT)
                  have hg := ih n2 hn2 _ _ w _ h (bP_tr h0s hB hD) hW2
                  rw [popW_s (fun z => by rcases z with z | ⟨-, z | z⟩; exact c22 (v40.mp z); exact c32 (v43.mp z); exact c38 (v45.mp z)), ho]
                  rw [List.append_assoc] at hg
                  exact hg
            · replace c38 : ¬ ¬ (ν.1 104 ((ν.1 75 55) - (1 : Int32)).toInt.toNat).toInt = 9 := c38
              obtain ⟨rfl, hμ⟩ := tx_return h em229_41
              have hw := hW.1
              cases w with
              | nil => exfalso; have hw0 : (([] : List Int).length : Int) = 0 := rfl; omega
              | cons x w =>
                rw [List.length_cons] at hw
                have h2 := an_hi (ν.1 75 55)
                have eTT : ((ν.1 75 55) - (1 : Int32)).toInt = w.length := by rw [an_sub (by rw [e1i]; omega) (by rw [e1i]; omega), e1i]; omega
                have eN : ((ν.1 75 55) - (1 : Int32)).toInt.toNat = w.length := by omega
                have hx := wS_h hW
                have v40 : x = 40 ↔ (ν.1 104 w.length).toInt = 6 := by rw [← hx]; exact kmp_e (k := 6) (by decide)
                have v43 : x = 43 ↔ (ν.1 104 w.length).toInt = 8 := by rw [← hx]; exact kmp_e (k := 8) (by decide)
                have v45 : x = 45 ↔ (ν.1 104 w.length).toInt = 9 := by rw [← hx]; exact kmp_e (k := 9) (by decide)
                rw [eN] at c22 c32 c38
                have hsb : sb = true := by
                  cases sb with
                  | true => rfl
                  | false => exact absurd (hs.mpr c26) (by decide)
                rw [hμ, popW_y (Or.inr ⟨hsb, Or.inr (v45.mpr (by omega))⟩)]
                exact ⟨by rw [List.append_nil]; exact hB, hW⟩
  exact loop _ _ _ w [] h bP_0 hW0
set_option maxRecDepth 10000 in
set_option maxHeartbeats 4000000 in
theorem ex_co3 {s : Int32} {μ μ' : xM} {r : Option zV} (h0 : Ex gx xq_229 [.inr (.inl (some 75)), .inl s] μ r μ') : (μ'.1 75 49).toInt + (μ'.1 75 55).toInt = (μ.1 75 49).toInt + (μ.1 75 55).toInt ∧ (0 ≤ (μ.1 75 55).toInt → 0 ≤ (μ'.1 75 55).toInt) ∧ (μ.1 75 49).toInt ≤ (μ'.1 75 49).toInt ∧ fP μ μ' := by
  obtain ⟨n, h⟩ := tx_in (L := [some (.inr (.inl (some 75))), some (.inl s), none]) h0 rfl
  have e1i : (1 : Int32).toInt = 1 := by decide
  have loop : ∀ (n : Nat) (o : Option zV) (ν : xM), eT xq_229 n 0 [some (.inr (.inl (some 75))), some (.inl s), o] [] ν r μ' → (μ'.1 75 49).toInt + (μ'.1 75 55).toInt = (ν.1 75 49).toInt + (ν.1 75 55).toInt ∧ (0 ≤ (ν.1 75 55).toInt → 0 ≤ (μ'.1 75 55).toInt) ∧ (ν.1 75 49).toInt ≤ (μ'.1 75 49).toInt ∧ fP ν μ' := by
    intro n
    induction n using Nat.strongRecOn with
    | ind n ih =>
    intro o ν h
    replace h := tx_aload_n (p' := 1) h em229_0 rfl rfl
    replace h := tx_getf (c := 12) (j := 55) (p' := 4) h em229_1 ((congrFun xo_12 307).trans rfl) rfl rfl (by decide) rfl
    rcases tx_if (t := 91) (p' := 7) h em229_4 (by decide) rfl with ⟨c4, h⟩ | ⟨c4, h⟩
    · replace c4 : (ν.1 75 55).toInt ≤ 0 := c4
      obtain ⟨rfl, hμ⟩ := tx_return h em229_91
      rw [hμ]
      exact ⟨rfl, fun q => q, Int.le_refl _, fP_rf⟩
    · replace c4 : ¬ (ν.1 75 55).toInt ≤ 0 := c4
      replace h := tx_aload_n (p' := 8) h em229_7 rfl rfl
      replace h := tx_getc (c := 12) (j := 54) (p' := 11) h em229_8 ((congrFun xo_12 104).trans rfl) rfl rfl rfl
      replace h := tx_aload_n (p' := 12) h em229_11 rfl rfl
      replace h := tx_getf (c := 12) (j := 55) (p' := 15) h em229_12 ((congrFun xo_12 307).trans rfl) rfl rfl (by decide) rfl
      replace h := tx_iconst (v := 1) (p' := 16) h em229_15 (by decide +kernel) rfl
      replace h := tx_isub (p' := 17) h em229_16 rfl
      obtain ⟨hb17, h⟩ := tx_iald (len := 64) (p' := 18) h em229_17 rfl rfl
      replace hb17 : (0 : Int) ≤ ((ν.1 75 55) - (1 : Int32)).toInt ∧ ((ν.1 75 55) - (1 : Int32)).toInt < 64 := hb17
      replace h := tx_istore_n (p' := 19) h em229_18 rfl
      replace h : eT xq_229 _ 19 [some (.inr (.inl (some 75))), some (.inl s), some (.inl (ν.1 104 ((ν.1 75 55) - (1 : Int32)).toInt.toNat))] [] ν r μ' := h
      replace h := tx_iload_n (p' := 20) h em229_19 rfl rfl
      replace h := tx_bipush (v := 6) (p' := 22) h em229_20 (by decide +kernel) rfl
      rcases tx_icmp (t := 41) (p' := 25) h em229_22 (by decide) rfl with ⟨c22, h⟩ | ⟨c22, h⟩
      · replace c22 : (ν.1 104 ((ν.1 75 55) - (1 : Int32)).toInt.toNat).toInt = 6 := c22
        obtain ⟨rfl, hμ⟩ := tx_return h em229_41
        rw [hμ]
        exact ⟨rfl, fun q => q, Int.le_refl _, fP_rf⟩
      · replace c22 : ¬ (ν.1 104 ((ν.1 75 55) - (1 : Int32)).toInt.toNat).toInt = 6 := c22
        replace h := tx_iload_n (p' := 26) h em229_25 rfl rfl
        rcases tx_if (t := 42) (p' := 29) h em229_26 (by decide) rfl with ⟨c26, h⟩ | ⟨c26, h⟩
        · replace c26 : s.toInt = 0 := c26
          replace h := tx_aload_n (p' := 43) h em229_42 rfl rfl
          replace h := tx_dup (p' := 44) h em229_43 rfl
          replace h := tx_getf (c := 12) (j := 55) (p' := 47) h em229_44 ((congrFun xo_12 307).trans rfl) rfl rfl (by decide) rfl
          replace h := tx_iconst (v := 1) (p' := 48) h em229_47 (by decide +kernel) rfl
          replace h := tx_isub (p' := 49) h em229_48 rfl
          replace h := tx_putf (a := 75) (c := 12) (j := 55) (p' := 52) h em229_49 ((congrFun xo_12 307).trans rfl) rfl
          replace h := tx_aload_n (p' := 53) h em229_52 rfl rfl
          replace h := tx_iload_n (p' := 54) h em229_53 rfl rfl
          replace h := tx_bipush (v := 8) (p' := 56) h em229_54 (by decide +kernel) rfl
          rcases tx_icmp (t := 63) (p' := 59) h em229_56 (by decide) rfl with ⟨c56, h⟩ | ⟨c56, h⟩
          · replace c56 : ¬ (ν.1 104 ((ν.1 75 55) - (1 : Int32)).toInt.toNat).toInt = 8 := c56
            replace h := tx_iload_n (p' := 64) h em229_63 rfl rfl
            replace h := tx_bipush (v := 9) (p' := 66) h em229_64 (by decide +kernel) rfl
            rcases tx_icmp (t := 73) (p' := 69) h em229_66 (by decide) rfl with ⟨c66, h⟩ | ⟨c66, h⟩
            · replace c66 : ¬ (ν.1 104 ((ν.1 75 55) - (1 : Int32)).toInt.toNat).toInt = 9 := c66
              replace h := tx_iload_n (p' := 74) h em229_73 rfl rfl
              replace h := tx_bipush (v := 10) (p' := 76) h em229_74 (by decide +kernel) rfl
              rcases tx_icmp (t := 83) (p' := 79) h em229_76 (by decide) rfl with ⟨c76, h⟩ | ⟨c76, h⟩
              · replace c76 : ¬ (ν.1 104 ((ν.1 75 55) - (1 : Int32)).toInt.toNat).toInt = 10 := c76
                replace h := tx_iconst (v := 5) (p' := 84) h em229_83 (by decide +kernel) rfl
                replace h := tx_iconst (v := 0) (p' := 85) h em229_84 (by decide +kernel) rfl
                obtain ⟨r85, μ85, hE85, h⟩ := tx_invV (na := 3) (mn := 228) (as := [.inr (.inl (some 75)), .inl (5 : Int32), .inl (0 : Int32)]) (rest := []) (p' := 88) h em229_85 ((congrFun xo_12 310).trans rfl) xm_228 rfl rfl
                have he85 := ex_emit2 hE85
                have hfe85 := ex_emit3 hE85
                obtain ⟨rfl, hc85⟩ := ex_emit hE85
                replace h : eT xq_229 _ 88 [some (.inr (.inl (some 75))), some (.inl s), some (.inl (ν.1 104 ((ν.1 75 55) - (1 : Int32)).toInt.toNat))] [] μ85 r μ' := h
                obtain ⟨n2, hn2, h⟩ := tx_gotoS (t := 0) h em229_88 (by decide)
                obtain ⟨e1, e2, e3⟩ := he85
                have e1 := e1.1
                have e1 : (μ85.1 75 49).toInt = (ν.1 75 49).toInt + 1 := e1
                rw [xpi_at] at e3
                have h2 := an_hi (ν.1 75 55)
                have eTT : ((ν.1 75 55) - (1 : Int32)).toInt = (ν.1 75 55).toInt - 1 := by rw [an_sub (by rw [e1i]; omega) (by rw [e1i]; omega), e1i]
                obtain ⟨g1, g2, g3, g4⟩ := ih n2 hn2 _ _ h
                rw [e3, eTT] at g1 g2
                refine ⟨by omega, fun q => g2 (by omega), by omega, fP_tr (fP_l hfe85 (fun j => xpi_ne (fun q => absurd q.1 (by decide))) (fun j => xpi_ne (fun q => absurd q.1 (by decide))) (xpi_ne (fun q => absurd q.2 (by decide)))) g4 (by omega) g3⟩
              · replace c76 : ¬ ¬ (ν.1 104 ((ν.1 75 55) - (1 : Int32)).toInt.toNat).toInt = 10 := c76
                replace h := tx_iconst (v := 4) (p' := 80) h em229_79 (by decide +kernel) rfl
                replace h := tx_goto (t := 84) h em229_80 (by decide)
                replace h := tx_iconst (v := 0) (p' := 85) h em229_84 (by decide +kernel) rfl
                obtain ⟨r85_1, μ85_1, hE85_1, h⟩ := tx_invV (na := 3) (mn := 228) (as := [.inr (.inl (some 75)), .inl (4 : Int32), .inl (0 : Int32)]) (rest := []) (p' := 88) h em229_85 ((congrFun xo_12 310).trans rfl) xm_228 rfl rfl
                have he85_1 := ex_emit2 hE85_1
                have hfe85_1 := ex_emit3 hE85_1
                obtain ⟨rfl, hc85_1⟩ := ex_emit hE85_1
                replace h : eT xq_229 _ 88 [some (.inr (.inl (some 75))), some (.inl s), some (.inl (ν.1 104 ((ν.1 75 55) - (1 : Int32)).toInt.toNat))] [] μ85_1 r μ' := h
                obtain ⟨n2, hn2, h⟩ := tx_gotoS (t := 0) h em229_88 (by decide)
                obtain ⟨e1, e2, e3⟩ := he85_1
                have e1 := e1.1
                have e1 : (μ85_1.1 75 49).toInt = (ν.1 75 49).toInt + 1 := e1
                rw [xpi_at] at e3
                have h2 := an_hi (ν.1 75 55)
                have eTT : ((ν.1 75 55) - (1 : Int32)).toInt = (ν.1 75 55).toInt - 1 := by rw [an_sub (by rw [e1i]; omega) (by rw [e1i]; omega), e1i]
                obtain ⟨g1, g2, g3, g4⟩ := ih n2 hn2 _ _ h
                rw [e3, eTT] at g1 g2
                refine ⟨by omega, fun q => g2 (by omega), by omega, fP_tr (fP_l hfe85_1 (fun j => xpi_ne (fun q => absurd q.1 (by decide))) (fun j => xpi_ne (fun q => absurd q.1 (by decide))) (xpi_ne (fun q => absurd q.2 (by decide)))) g4 (by omega) g3⟩
            · replace c66 : ¬ ¬ (ν.1 104 ((ν.1 75 55) - (1 : Int32)).toInt.toNat).toInt = 9 := c66
              replace h := tx_iconst (v := 3) (p' := 70) h em229_69 (by decide +kernel) rfl
              replace h := tx_goto (t := 84) h em229_70 (by decide)
              replace h := tx_iconst (v := 0) (p' := 85) h em229_84 (by decide +kernel) rfl
              obtain ⟨r85_2, μ85_2, hE85_2, h⟩ := tx_invV (na := 3) (mn := 228) (as := [.inr (.inl (some 75)), .inl (3 : Int32), .inl (0 : Int32)]) (rest := []) (p' := 88) h em229_85 ((congrFun xo_12 310).trans rfl) xm_228 rfl rfl
              have he85_2 := ex_emit2 hE85_2
              have hfe85_2 := ex_emit3 hE85_2
              obtain ⟨rfl, hc85_2⟩ := ex_emit hE85_2
              replace h : eT xq_229 _ 88 [some (.inr (.inl (some 75))), some (.inl s), some (.inl (ν.1 104 ((ν.1 75 55) - (1 : Int32)).toInt.toNat))] [] μ85_2 r μ' := h
              obtain ⟨n2, hn2, h⟩ := tx_gotoS (t := 0) h em229_88 (by decide)
              obtain ⟨e1, e2, e3⟩ := he85_2
              have e1 := e1.1
              have e1 : (μ85_2.1 75 49).toInt = (ν.1 75 49).toInt + 1 := e1
              rw [xpi_at] at e3
              have h2 := an_hi (ν.1 75 55)
              have eTT : ((ν.1 75 55) - (1 : Int32)).toInt = (ν.1 75 55).toInt - 1 := by rw [an_sub (by rw [e1i]; omega) (by rw [e1i]; omega), e1i]
              obtain ⟨g1, g2, g3, g4⟩ := ih n2 hn2 _ _ h
              rw [e3, eTT] at g1 g2
              refine ⟨by omega, fun q => g2 (by omega), by omega, fP_tr (fP_l hfe85_2 (fun j => xpi_ne (fun q => absurd q.1 (by decide))) (fun j => xpi_ne (fun q => absurd q.1 (by decide))) (xpi_ne (fun q => absurd q.2 (by decide)))) g4 (by omega) g3⟩
          · replace c56 : ¬ ¬ (ν.1 104 ((ν.1 75 55) - (1 : Int32)).toInt.toNat).toInt = 8 := c56
            replace h := tx_iconst (v := 2) (p' := 60) h em229_59 (by decide +kernel) rfl
            replace h := tx_goto (t := 84) h em229_60 (by decide)
            replace h := tx_iconst (v := 0) (p' := 85) h em229_84 (by decide +kernel) rfl
            obtain ⟨r85_3, μ85_3, hE85_3, h⟩ := tx_invV (na := 3) (mn := 228) (as := [.inr (.inl (some 75)), .inl (2 : Int32), .inl (0 : Int32)]) (rest := []) (p' := 88) h em229_85 ((congrFun xo_12 310).trans rfl) xm_228 rfl rfl
            have he85_3 := ex_emit2 hE85_3
            have hfe85_3 := ex_emit3 hE85_3
            obtain ⟨rfl, hc85_3⟩ := ex_emit hE85_3
            replace h : eT xq_229 _ 88 [some (.inr (.inl (some 75))), some (.inl s), some (.inl (ν.1 104 ((ν.1 75 55) - (1 : Int32)).toInt.toNat))] [] μ85_3 r μ' := h
            obtain ⟨n2, hn2, h⟩ := tx_gotoS (t := 0) h em229_88 (by decide)
            obtain ⟨e1, e2, e3⟩ := he85_3
            have e1 := e1.1
            have e1 : (μ85_3.1 75 49).toInt = (ν.1 75 49).toInt + 1 := e1
            rw [xpi_at] at e3
            have h2 := an_hi (ν.1 75 55)
            have eTT : ((ν.1 75 55) - (1 : Int32)).toInt = (ν.1 75 55).toInt - 1 := by rw [an_sub (by rw [e1i]; omega) (by rw [e1i]; omega), e1i]
            obtain ⟨g1, g2, g3, g4⟩ := ih n2 hn2 _ _ h
            rw [e3, eTT] at g1 g2
            refine ⟨by omega, fun q => g2 (by omega), by omega, fP_tr (fP_l hfe85_3 (fun j => xpi_ne (fun q => absurd q.1 (by decide))) (fun j => xpi_ne (fun q => absurd q.1 (by decide))) (xpi_ne (fun q => absurd q.2 (by decide)))) g4 (by omega) g3⟩
        · replace c26 : ¬ s.toInt = 0 := c26
          replace h := tx_iload_n (p' := 30) h em229_29 rfl rfl
          replace h := tx_bipush (v := 8) (p' := 32) h em229_30 (by decide +kernel) rfl
          rcases tx_icmp (t := 41) (p' := 35) h em229_32 (by decide) rfl with ⟨c32, h⟩ | ⟨c32, h⟩
          · replace c32 : (ν.1 104 ((ν.1 75 55) - (1 : Int32)).toInt.toNat).toInt = 8 := c32
            obtain ⟨rfl, hμ⟩ := tx_return h em229_41
            rw [hμ]
            exact ⟨rfl, fun q => q, Int.le_refl _, fP_rf⟩
          · replace c32 : ¬ (ν.1 104 ((ν.1 75 55) - (1 : Int32)).toInt.toNat).toInt = 8 := c32
            replace h := tx_iload_n (p' := 36) h em229_35 rfl rfl
            replace h := tx_bipush (v := 9) (p' := 38) h em229_36 (by decide +kernel) rfl
            rcases tx_icmp (t := 42) (p' := 41) h em229_38 (by decide) rfl with ⟨c38, h⟩ | ⟨c38, h⟩
            · replace c38 : ¬ (ν.1 104 ((ν.1 75 55) - (1 : Int32)).toInt.toNat).toInt = 9 := c38
              replace h := tx_aload_n (p' := 43) h em229_42 rfl rfl
              replace h := tx_dup (p' := 44) h em229_43 rfl
              replace h := tx_getf (c := 12) (j := 55) (p' := 47) h em229_44 ((congrFun xo_12 307).trans rfl) rfl rfl (by decide) rfl
              replace h := tx_iconst (v := 1) (p' := 48) h em229_47 (by decide +kernel) rfl
              replace h := tx_isub (p' := 49) h em229_48 rfl
              replace h := tx_putf (a := 75) (c := 12) (j := 55) (p' := 52) h em229_49 ((congrFun xo_12 307).trans rfl) rfl
              replace h := tx_aload_n (p' := 53) h em229_52 rfl rfl
              replace h := tx_iload_n (p' := 54) h em229_53 rfl rfl
              replace h := tx_bipush (v := 8) (p' := 56) h em229_54 (by decide +kernel) rfl
              rcases tx_icmp (t := 63) (p' := 59) h em229_56 (by decide) rfl with ⟨c56_1, h⟩ | ⟨c56_1, h⟩
              · replace c56_1 : ¬ (ν.1 104 ((ν.1 75 55) - (1 : Int32)).toInt.toNat).toInt = 8 := c56_1
                replace h := tx_iload_n (p' := 64) h em229_63 rfl rfl
                replace h := tx_bipush (v := 9) (p' := 66) h em229_64 (by decide +kernel) rfl
                rcases tx_icmp (t := 73) (p' := 69) h em229_66 (by decide) rfl with ⟨c66_1, h⟩ | ⟨c66_1, h⟩
                · replace c66_1 : ¬ (ν.1 104 ((ν.1 75 55) - (1 : Int32)).toInt.toNat).toInt = 9 := c66_1
                  replace h := tx_iload_n (p' := 74) h em229_73 rfl rfl
                  replace h := tx_bipush (v := 10) (p' := 76) h em229_74 (by decide +kernel) rfl
                  rcases tx_icmp (t := 83) (p' := 79) h em229_76 (by decide) rfl with ⟨c76_1, h⟩ | ⟨c76_1, h⟩
                  · replace c76_1 : ¬ (ν.1 104 ((ν.1 75 55) - (1 : Int32)).toInt.toNat).toInt = 10 := c76_1
                    replace h := tx_iconst (v := 5) (p' := 84) h em229_83 (by decide +kernel) rfl
                    replace h := tx_iconst (v := 0) (p' := 85) h em229_84 (by decide +kernel) rfl
                    obtain ⟨r85_4, μ85_4, hE85_4, h⟩ := tx_invV (na := 3) (mn := 228) (as := [.inr (.inl (some 75)), .inl (5 : Int32), .inl (0 : Int32)]) (rest := []) (p' := 88) h em229_85 ((congrFun xo_12 310).trans rfl) xm_228 rfl rfl
                    have he85_4 := ex_emit2 hE85_4
                    have hfe85_4 := ex_emit3 hE85_4
                    obtain ⟨rfl, hc85_4⟩ := ex_emit hE85_4
                    replace h : eT xq_229 _ 88 [some (.inr (.inl (some 75))), some (.inl s), some (.inl (ν.1 104 ((ν.1 75 55) - (1 : Int32)).toInt.toNat))] [] μ85_4 r μ' := h
                    obtain ⟨n2, hn2, h⟩ := tx_gotoS (t := 0) h em229_88 (by decide)
                    obtain ⟨e1, e2, e3⟩ := he85_4
                    have e1 := e1.1
                    have e1 : (μ85_4.1 75 49).toInt = (ν.1 75 49).toInt + 1 := e1
                    rw [xpi_at] at e3
                    have h2 := an_hi (ν.1 75 55)
                    have eTT : ((ν.1 75 55) - (1 : Int32)).toInt = (ν.1 75 55).toInt - 1 := by rw [an_sub (by rw [e1i]; omega) (by rw [e1i]; omega), e1i]
                    obtain ⟨g1, g2, g3, g4⟩ := ih n2 hn2 _ _ h
                    rw [e3, eTT] at g1 g2
                    refine ⟨by omega, fun q => g2 (by omega), by omega, fP_tr (fP_l hfe85_4 (fun j => xpi_ne (fun q => absurd q.1 (by decide))) (fun j => xpi_ne (fun q => absurd q.1 (by decide))) (xpi_ne (fun q => absurd q.2 (by decide)))) g4 (by omega) g3⟩
                  · replace c76_1 : ¬ ¬ (ν.1 104 ((ν.1 75 55) - (1 : Int32)).toInt.toNat).toInt = 10 := c76_1
                    replace h := tx_iconst (v := 4) (p' := 80) h em229_79 (by decide +kernel) rfl
                    replace h := tx_goto (t := 84) h em229_80 (by decide)
                    replace h := tx_iconst (v := 0) (p' := 85) h em229_84 (by decide +kernel) rfl
                    obtain ⟨r85_5, μ85_5, hE85_5, h⟩ := tx_invV (na := 3) (mn := 228) (as := [.inr (.inl (some 75)), .inl (4 : Int32), .inl (0 : Int32)]) (rest := []) (p' := 88) h em229_85 ((congrFun xo_12 310).trans rfl) xm_228 rfl rfl
                    have he85_5 := ex_emit2 hE85_5
                    have hfe85_5 := ex_emit3 hE85_5
                    obtain ⟨rfl, hc85_5⟩ := ex_emit hE85_5
                    replace h : eT xq_229 _ 88 [some (.inr (.inl (some 75))), some (.inl s), some (.inl (ν.1 104 ((ν.1 75 55) - (1 : Int32)).toInt.toNat))] [] μ85_5 r μ' := h
                    obtain ⟨n2, hn2, h⟩ := tx_gotoS (t := 0) h em229_88 (by decide)
                    obtain ⟨e1, e2, e3⟩ := he85_5
                    have e1 := e1.1
                    have e1 : (μ85_5.1 75 49).toInt = (ν.1 75 49).toInt + 1 := e1
                    rw [xpi_at] at e3
                    have h2 := an_hi (ν.1 75 55)
                    have eTT : ((ν.1 75 55) - (1 : Int32)).toInt = (ν.1 75 55).toInt - 1 := by rw [an_sub (by rw [e1i]; omega) (by rw [e1i]; omega), e1i]
                    obtain ⟨g1, g2, g3, g4⟩ := ih n2 hn2 _ _ h
                    rw [e3, eTT] at g1 g2
                    refine ⟨by omega, fun q => g2 (by omega), by omega, fP_tr (fP_l hfe85_5 (fun j => xpi_ne (fun q => absurd q.1 (by decide))) (fun j => xpi_ne (fun q => absurd q.1 (by decide))) (xpi_ne (fun q => absurd q.2 (by decide)))) g4 (by omega) g3⟩
                · replace c66_1 : ¬ ¬ (ν.1 104 ((ν.1 75 55) - (1 : Int32)).toInt.toNat).toInt = 9 := c66_1
                  replace h := tx_iconst (v := 3) (p' := 70) h em229_69 (by decide +kernel) rfl
                  replace h := tx_goto (t := 84) h em229_70 (by decide)
                  replace h := tx_iconst (v := 0) (p' := 85) h em229_84 (by decide +kernel) rfl
                  obtain ⟨r85_6, μ85_6, hE85_6, h⟩ := tx_invV (na := 3) (mn := 228) (as := [.inr (.inl (some 75)), .inl (3 : Int32), .inl (0 : Int32)]) (rest := []) (p' := 88) h em229_85 ((congrFun xo_12 310).trans rfl) xm_228 rfl rfl
                  have he85_6 := ex_emit2 hE85_6
                  have hfe85_6 := ex_emit3 hE85_6
                  obtain ⟨rfl, hc85_6⟩ := ex_emit hE85_6
                  replace h : eT xq_229 _ 88 [some (.inr (.inl (some 75))), some (.inl s), some (.inl (ν.1 104 ((ν.1 75 55) - (1 : Int32)).toInt.toNat))] [] μ85_6 r μ' := h
                  obtain ⟨n2, hn2, h⟩ := tx_gotoS (t := 0) h em229_88 (by decide)
                  obtain ⟨e1, e2, e3⟩ := he85_6
                  have e1 := e1.1
                  have e1 : (μ85_6.1 75 49).toInt = (ν.1 75 49).toInt + 1 := e1
                  rw [xpi_at] at e3
                  have h2 := an_hi (ν.1 75 55)
                  have eTT : ((ν.1 75 55) - (1 : Int32)).toInt = (ν.1 75 55).toInt - 1 := by rw [an_sub (by rw [e1i]; omega) (by rw [e1i]; omega), e1i]
                  obtain ⟨g1, g2, g3, g4⟩ := ih n2 hn2 _ _ h
                  rw [e3, eTT] at g1 g2
                  refine ⟨by omega, fun q => g2 (by omega), by omega, fP_tr (fP_l hfe85_6 (fun j => xpi_ne (fun q => absurd q.1 (by decide))) (fun j => xpi_ne (fun q => absurd q.1 (by decide))) (xpi_ne (fun q => absurd q.2 (by decide)))) g4 (by omega) g3⟩
              · replace c56_1 : ¬ ¬ (ν.1 104 ((ν.1 75 55) - (1 : Int32)).toInt.toNat).toInt = 8 := c56_1
                replace h := tx_iconst (v := 2) (p' := 60) h em229_59 (by decide +kernel) rfl
                replace h := tx_goto (t := 84) h em229_60 (by decide)
                replace h := tx_iconst (v := 0) (p' := 85) h em229_84 (by decide +kernel) rfl
                obtain ⟨r85_7, μ85_7, hE85_7, h⟩ := tx_invV (na := 3) (mn := 228) (as := [.inr (.inl (some 75)), .inl (2 : Int32), .inl (0 : Int32)]) (rest := []) (p' := 88) h em229_85 ((congrFun xo_12 310).trans rfl) xm_228 rfl rfl
                have he85_7 := ex_emit2 hE85_7
                have hfe85_7 := ex_emit3 hE85_7
                obtain ⟨rfl, hc85_7⟩ := ex_emit hE85_7
                replace h : eT xq_229 _ 88 [some (.inr (.inl (some 75))), some (.inl s), some (.inl (ν.1 104 ((ν.1 75 55) - (1 : Int32)).toInt.toNat))] [] μ85_7 r μ' := h
                obtain ⟨n2, hn2, h⟩ := tx_gotoS (t := 0) h em229_88 (by decide)
                obtain ⟨e1, e2, e3⟩ := he85_7
                have e1 := e1.1
                have e1 : (μ85_7.1 75 49).toInt = (ν.1 75 49).toInt + 1 := e1
                rw [xpi_at] at e3
                have h2 := an_hi (ν.1 75 55)
                have eTT : ((ν.1 75 55) - (1 : Int32)).toInt = (ν.1 75 55).toInt - 1 := by rw [an_sub (by rw [e1i]; omega) (by rw [e1i]; omega), e1i]
                obtain ⟨g1, g2, g3, g4⟩ := ih n2 hn2 _ _ h
                rw [e3, eTT] at g1 g2
                refine ⟨by omega, fun q => g2 (by omega), by omega, fP_tr (fP_l hfe85_7 (fun j => xpi_ne (fun q => absurd q.1 (by decide))) (fun j => xpi_ne (fun q => absurd q.1 (by decide))) (xpi_ne (fun q => absurd q.2 (by decide)))) g4 (by omega) g3⟩
            · replace c38 : ¬ ¬ (ν.1 104 ((ν.1 75 55) - (1 : Int32)).toInt.toNat).toInt = 9 := c38
              obtain ⟨rfl, hμ⟩ := tx_return h em229_41
              rw [hμ]
              exact ⟨rfl, fun q => q, Int.le_refl _, fP_rf⟩
  exact loop _ _ _ h
set_option maxRecDepth 10000 in
set_option maxHeartbeats 4000000 in
theorem ex_unit2 {μ μ' : xM} {r : Option zV} (h0 : Ex gx xq_231 [.inr (.inl (some 75))] μ r μ') (f0 : rF μ = 0) (hb : rF μ = 0 → 0 ≤ rT μ ∧ rT μ ≤ 400) : rF μ' = 0 → ∃ D, bP μ μ' D ∧ (∀ j, μ'.1 104 j = μ.1 104 j) ∧ μ'.1 75 55 = μ.1 75 55 ∧ rT μ' = rT μ + 1 ∧ rT μ ≤ 399 ∧ ((rK μ (rT μ) = 3 ∧ D = [(0, rVl μ (rT μ))]) ∨ (140 ≤ rK μ (rT μ) ∧ D = [(1, rK μ (rT μ) - 140)])) := by
  obtain ⟨n, h⟩ := tx_in (L := [some (.inr (.inl (some 75)))]) h0 rfl
  replace h := tx_aload_n (p' := 1) h em231_0 rfl rfl
  replace h := tx_iconst (v := 2) (p' := 2) h em231_1 (by decide +kernel) rfl
  obtain ⟨r2, μ2, hE2, h⟩ := tx_invV (na := 2) (mn := 149) (as := [.inr (.inl (some 75)), .inl (2 : Int32)]) (rest := []) (p' := 5) h em231_2 ((congrFun xo_12 218).trans rfl) xm_149 rfl rfl
  obtain ⟨hm, ⟨rfl, i21, i22, i23⟩ | ⟨rfl, i21⟩⟩ := ex_is hE2 (by decide)
  · rw [hm] at h
    replace h : eT xq_231 _ 5 [some (.inr (.inl (some 75)))] [.inl (1 : Int32)] μ r μ' := h
    rcases tx_if (t := 29) (p' := 8) h em231_5 (by decide) rfl with ⟨c5, h⟩ | ⟨c5, h⟩
    · replace c5 : (1 : Int) = (0 : Int) := c5
      exfalso
      omega
    · replace c5 : ¬ (1 : Int) = (0 : Int) := c5
      replace h := tx_aload_n (p' := 9) h em231_8 rfl rfl
      replace h := tx_iconst (v := 0) (p' := 10) h em231_9 (by decide +kernel) rfl
      replace h := tx_aload_n (p' := 11) h em231_10 rfl rfl
      replace h := tx_getc (c := 12) (j := 21) (p' := 14) h em231_11 ((congrFun xo_12 27).trans rfl) rfl rfl rfl
      replace h := tx_aload_n (p' := 15) h em231_14 rfl rfl
      replace h := tx_getf (c := 12) (j := 25) (p' := 18) h em231_15 ((congrFun xo_12 203).trans rfl) rfl rfl (by decide) rfl
      obtain ⟨hb18, h⟩ := tx_iald (len := 403) (p' := 19) h em231_18 rfl rfl
      replace hb18 : (0 : Int) ≤ (μ.1 75 25).toInt ∧ (μ.1 75 25).toInt < 403 := hb18
      obtain ⟨r19, μ19, hE19, h⟩ := tx_invV (na := 3) (mn := 228) (as := [.inr (.inl (some 75)), .inl (0 : Int32), .inl (μ.1 80 (μ.1 75 25).toInt.toNat)]) (rest := []) (p' := 22) h em231_19 ((congrFun xo_12 310).trans rfl) xm_228 rfl rfl
      have he19 := ex_emit2 hE19
      have hfe19 := ex_emit3 hE19
      obtain ⟨rfl, hc19⟩ := ex_emit hE19
      obtain ⟨ct19, cf19, cv19, cq19⟩ := rC_f hc19
      replace h : eT xq_231 _ 22 [some (.inr (.inl (some 75)))] [] μ19 r μ' := h
      replace h := tx_aload_n (p' := 23) h em231_22 rfl rfl
      obtain ⟨r23, μ23, hE23, h⟩ := tx_invV (na := 1) (mn := 144) (as := [.inr (.inl (some 75))]) (rest := []) (p' := 26) h em231_23 ((congrFun xo_12 221).trans rfl) xm_144 rfl rfl
      obtain ⟨rfl, hs23⟩ := st_goesOn hE23 (fun q => by rw [cf19] at q; rw [ct19]; exact hb q)
      replace h : eT xq_231 _ 26 [some (.inr (.inl (some 75)))] [] μ23 r μ' := h
      replace h := tx_goto (t := 93) h em231_26 (by decide)
      obtain ⟨rfl, hμ⟩ := tx_return h em231_93
      rw [hμ]
      intro hz
      obtain ⟨z1, z2, z3⟩ := stM_on0 hs23 (by omega) hz
      obtain ⟨e1, e2, e3⟩ := he19
      exact ⟨_, rM_b e1 hs23.1, fun j => (hs23.1.1 104 j (by decide)).trans (e2 j), (hs23.1.2.1 55 (by decide) (by decide) (by decide)).trans e3, by omega, by omega, Or.inl ⟨i22, rfl⟩⟩
  · rw [hm] at h
    replace h : eT xq_231 _ 5 [some (.inr (.inl (some 75)))] [.inl (0 : Int32)] μ r μ' := h
    rcases tx_if (t := 29) (p' := 8) h em231_5 (by decide) rfl with ⟨c5_1, h⟩ | ⟨c5_1, h⟩
    · replace c5_1 : (0 : Int) = (0 : Int) := c5_1
      replace h := tx_aload_n (p' := 30) h em231_29 rfl rfl
      replace h := tx_getf (c := 12) (j := 27) (p' := 33) h em231_30 ((congrFun xo_12 200).trans rfl) rfl rfl (by decide) rfl
      rcases tx_if (t := 88) (p' := 36) h em231_33 (by decide) rfl with ⟨c33, h⟩ | ⟨c33, h⟩
      · replace c33 : ¬ (μ.1 75 27).toInt = 0 := c33
        replace h := tx_aload_n (p' := 89) h em231_88 rfl rfl
        replace h := tx_iconst (v := 1) (p' := 90) h em231_89 (by decide +kernel) rfl
        obtain ⟨r90, μ90, hE90, h⟩ := tx_invV (na := 2) (mn := 133) (as := [.inr (.inl (some 75)), .inl (1 : Int32)]) (rest := []) (p' := 93) h em231_90 ((congrFun xo_12 215).trans rfl) xm_133 rfl rfl
        obtain ⟨rfl, hs90⟩ := st_fail (f0 := 1) hE90 (by decide) (by decide)
        replace h : eT xq_231 _ 93 [some (.inr (.inl (some 75)))] [] μ90 r μ' := h
        obtain ⟨rfl, hμ⟩ := tx_return h em231_93
        rw [hμ]
        intro hz
        exact absurd hz (stM_fl0 hs90 (by decide) (by omega))
      · replace c33 : ¬ ¬ (μ.1 75 27).toInt = 0 := c33
        replace h := tx_aload_n (p' := 37) h em231_36 rfl rfl
        replace h := tx_getc (c := 12) (j := 19) (p' := 40) h em231_37 ((congrFun xo_12 20).trans rfl) rfl rfl rfl
        replace h := tx_aload_n (p' := 41) h em231_40 rfl rfl
        replace h := tx_getf (c := 12) (j := 25) (p' := 44) h em231_41 ((congrFun xo_12 203).trans rfl) rfl rfl (by decide) rfl
        obtain ⟨hb44, h⟩ := tx_iald (len := 403) (p' := 45) h em231_44 rfl rfl
        replace hb44 : (0 : Int) ≤ (μ.1 75 25).toInt ∧ (μ.1 75 25).toInt < 403 := hb44
        replace h := tx_bipush (v := 32) (p' := 47) h em231_45 (by decide +kernel) rfl
        rcases tx_icmp (t := 88) (p' := 50) h em231_47 (by decide) rfl with ⟨c47, h⟩ | ⟨c47, h⟩
        · replace c47 : (μ.1 78 (μ.1 75 25).toInt.toNat).toInt < 32 := c47
          replace h := tx_aload_n (p' := 89) h em231_88 rfl rfl
          replace h := tx_iconst (v := 1) (p' := 90) h em231_89 (by decide +kernel) rfl
          obtain ⟨r90_1, μ90_1, hE90_1, h⟩ := tx_invV (na := 2) (mn := 133) (as := [.inr (.inl (some 75)), .inl (1 : Int32)]) (rest := []) (p' := 93) h em231_90 ((congrFun xo_12 215).trans rfl) xm_133 rfl rfl
          obtain ⟨rfl, hs90_1⟩ := st_fail (f0 := 1) hE90_1 (by decide) (by decide)
          replace h : eT xq_231 _ 93 [some (.inr (.inl (some 75)))] [] μ90_1 r μ' := h
          obtain ⟨rfl, hμ⟩ := tx_return h em231_93
          rw [hμ]
          intro hz
          exact absurd hz (stM_fl0 hs90_1 (by decide) (by omega))
        · replace c47 : ¬ (μ.1 78 (μ.1 75 25).toInt.toNat).toInt < 32 := c47
          replace h := tx_aload_n (p' := 51) h em231_50 rfl rfl
          replace h := tx_getc (c := 12) (j := 19) (p' := 54) h em231_51 ((congrFun xo_12 20).trans rfl) rfl rfl rfl
          replace h := tx_aload_n (p' := 55) h em231_54 rfl rfl
          replace h := tx_getf (c := 12) (j := 25) (p' := 58) h em231_55 ((congrFun xo_12 203).trans rfl) rfl rfl (by decide) rfl
          obtain ⟨hb58, h⟩ := tx_iald (len := 403) (p' := 59) h em231_58 rfl rfl
          replace hb58 : (0 : Int) ≤ (μ.1 75 25).toInt ∧ (μ.1 75 25).toInt < 403 := hb58
          replace h := tx_bipush (v := 40) (p' := 61) h em231_59 (by decide +kernel) rfl
          rcases tx_icmp (t := 88) (p' := 64) h em231_61 (by decide) rfl with ⟨c61, h⟩ | ⟨c61, h⟩
          · replace c61 : 40 < (μ.1 78 (μ.1 75 25).toInt.toNat).toInt := c61
            replace h := tx_aload_n (p' := 89) h em231_88 rfl rfl
            replace h := tx_iconst (v := 1) (p' := 90) h em231_89 (by decide +kernel) rfl
            obtain ⟨r90_2, μ90_2, hE90_2, h⟩ := tx_invV (na := 2) (mn := 133) (as := [.inr (.inl (some 75)), .inl (1 : Int32)]) (rest := []) (p' := 93) h em231_90 ((congrFun xo_12 215).trans rfl) xm_133 rfl rfl
            obtain ⟨rfl, hs90_2⟩ := st_fail (f0 := 1) hE90_2 (by decide) (by decide)
            replace h : eT xq_231 _ 93 [some (.inr (.inl (some 75)))] [] μ90_2 r μ' := h
            obtain ⟨rfl, hμ⟩ := tx_return h em231_93
            rw [hμ]
            intro hz
            exact absurd hz (stM_fl0 hs90_2 (by decide) (by omega))
          · replace c61 : ¬ 40 < (μ.1 78 (μ.1 75 25).toInt.toNat).toInt := c61
            replace h := tx_aload_n (p' := 65) h em231_64 rfl rfl
            replace h := tx_iconst (v := 1) (p' := 66) h em231_65 (by decide +kernel) rfl
            replace h := tx_aload_n (p' := 67) h em231_66 rfl rfl
            replace h := tx_getc (c := 12) (j := 19) (p' := 70) h em231_67 ((congrFun xo_12 20).trans rfl) rfl rfl rfl
            replace h := tx_aload_n (p' := 71) h em231_70 rfl rfl
            replace h := tx_getf (c := 12) (j := 25) (p' := 74) h em231_71 ((congrFun xo_12 203).trans rfl) rfl rfl (by decide) rfl
            obtain ⟨hb74, h⟩ := tx_iald (len := 403) (p' := 75) h em231_74 rfl rfl
            replace hb74 : (0 : Int) ≤ (μ.1 75 25).toInt ∧ (μ.1 75 25).toInt < 403 := hb74
            replace h := tx_bipush (v := 32) (p' := 77) h em231_75 (by decide +kernel) rfl
            replace h := tx_isub (p' := 78) h em231_77 rfl
            obtain ⟨r78, μ78, hE78, h⟩ := tx_invV (na := 3) (mn := 228) (as := [.inr (.inl (some 75)), .inl (1 : Int32), .inl ((μ.1 78 (μ.1 75 25).toInt.toNat) - (32 : Int32))]) (rest := []) (p' := 81) h em231_78 ((congrFun xo_12 310).trans rfl) xm_228 rfl rfl
            have he78 := ex_emit2 hE78
            have hfe78 := ex_emit3 hE78
            obtain ⟨rfl, hc78⟩ := ex_emit hE78
            obtain ⟨ct78, cf78, cv78, cq78⟩ := rC_f hc78
            replace h : eT xq_231 _ 81 [some (.inr (.inl (some 75)))] [] μ78 r μ' := h
            replace h := tx_aload_n (p' := 82) h em231_81 rfl rfl
            obtain ⟨r82, μ82, hE82, h⟩ := tx_invV (na := 1) (mn := 144) (as := [.inr (.inl (some 75))]) (rest := []) (p' := 85) h em231_82 ((congrFun xo_12 221).trans rfl) xm_144 rfl rfl
            obtain ⟨rfl, hs82⟩ := st_goesOn hE82 (fun q => by rw [cf78] at q; rw [ct78]; exact hb q)
            replace h : eT xq_231 _ 85 [some (.inr (.inl (some 75)))] [] μ82 r μ' := h
            replace h := tx_goto (t := 93) h em231_85 (by decide)
            obtain ⟨rfl, hμ⟩ := tx_return h em231_93
            rw [hμ]
            intro hz
            obtain ⟨z1, z2, z3⟩ := stM_on0 hs82 (by omega) hz
            obtain ⟨e1, e2, e3⟩ := he78
            have e32 : (32 : Int32).toInt = 32 := by decide
            have hkk : rK μ (rT μ) = 108 + (μ.1 78 (μ.1 75 25).toInt.toNat).toInt := kmp_w (x := (μ.1 78 (μ.1 75 25).toInt.toNat).toInt) ⟨by omega, by omega⟩
            have hv : ((μ.1 78 (μ.1 75 25).toInt.toNat) - (32 : Int32)).toInt = rK μ (rT μ) - 140 := by rw [an_sub (by rw [e32]; omega) (by rw [e32]; omega), e32, hkk]; omega
            refine ⟨_, rM_b e1 hs82.1, fun j => (hs82.1.1 104 j (by decide)).trans (e2 j), (hs82.1.2.1 55 (by decide) (by decide) (by decide)).trans e3, by omega, by omega, Or.inr ⟨by omega, ?_⟩⟩
            rw [hv]
            rfl
    · replace c5_1 : ¬ (0 : Int) = (0 : Int) := c5_1
      exfalso
      omega
set_option maxRecDepth 10000 in
set_option maxHeartbeats 4000000 in
theorem ex_unit3 {μ μ' : xM} {r : Option zV} (h0 : Ex gx xq_231 [.inr (.inl (some 75))] μ r μ') (h0t : 0 ≤ rT μ) (h4t : rT μ ≤ 400) (hF : 0 ≤ rF μ) : μ'.1 75 55 = μ.1 75 55 ∧ ((rT μ' = rT μ + 1 ∧ (μ'.1 75 49).toInt = (μ.1 75 49).toInt + 1 ∧ rF μ' = rF μ ∧ rT μ ≤ 399) ∨ (rT μ' = rT μ ∧ (μ.1 75 49).toInt ≤ (μ'.1 75 49).toInt ∧ (μ'.1 75 49).toInt ≤ (μ.1 75 49).toInt + 1 ∧ 0 < rF μ')) := by
  obtain ⟨n, h⟩ := tx_in (L := [some (.inr (.inl (some 75)))]) h0 rfl
  replace h := tx_aload_n (p' := 1) h em231_0 rfl rfl
  replace h := tx_iconst (v := 2) (p' := 2) h em231_1 (by decide +kernel) rfl
  obtain ⟨r2, μ2, hE2, h⟩ := tx_invV (na := 2) (mn := 149) (as := [.inr (.inl (some 75)), .inl (2 : Int32)]) (rest := []) (p' := 5) h em231_2 ((congrFun xo_12 218).trans rfl) xm_149 rfl rfl
  obtain ⟨hm, ⟨rfl, i21, i22, i23⟩ | ⟨rfl, i21⟩⟩ := ex_is hE2 (by decide)
  · rw [hm] at h
    replace h : eT xq_231 _ 5 [some (.inr (.inl (some 75)))] [.inl (1 : Int32)] μ r μ' := h
    rcases tx_if (t := 29) (p' := 8) h em231_5 (by decide) rfl with ⟨c5, h⟩ | ⟨c5, h⟩
    · replace c5 : (1 : Int) = (0 : Int) := c5
      exfalso
      omega
    · replace c5 : ¬ (1 : Int) = (0 : Int) := c5
      replace h := tx_aload_n (p' := 9) h em231_8 rfl rfl
      replace h := tx_iconst (v := 0) (p' := 10) h em231_9 (by decide +kernel) rfl
      replace h := tx_aload_n (p' := 11) h em231_10 rfl rfl
      replace h := tx_getc (c := 12) (j := 21) (p' := 14) h em231_11 ((congrFun xo_12 27).trans rfl) rfl rfl rfl
      replace h := tx_aload_n (p' := 15) h em231_14 rfl rfl
      replace h := tx_getf (c := 12) (j := 25) (p' := 18) h em231_15 ((congrFun xo_12 203).trans rfl) rfl rfl (by decide) rfl
      obtain ⟨hb18, h⟩ := tx_iald (len := 403) (p' := 19) h em231_18 rfl rfl
      replace hb18 : (0 : Int) ≤ (μ.1 75 25).toInt ∧ (μ.1 75 25).toInt < 403 := hb18
      obtain ⟨r19, μ19, hE19, h⟩ := tx_invV (na := 3) (mn := 228) (as := [.inr (.inl (some 75)), .inl (0 : Int32), .inl (μ.1 80 (μ.1 75 25).toInt.toNat)]) (rest := []) (p' := 22) h em231_19 ((congrFun xo_12 310).trans rfl) xm_228 rfl rfl
      have he19 := ex_emit2 hE19
      have hfe19 := ex_emit3 hE19
      obtain ⟨rfl, hc19⟩ := ex_emit hE19
      obtain ⟨ct19, cf19, cv19, cq19⟩ := rC_f hc19
      replace h : eT xq_231 _ 22 [some (.inr (.inl (some 75)))] [] μ19 r μ' := h
      replace h := tx_aload_n (p' := 23) h em231_22 rfl rfl
      obtain ⟨r23, μ23, hE23, h⟩ := tx_invV (na := 1) (mn := 144) (as := [.inr (.inl (some 75))]) (rest := []) (p' := 26) h em231_23 ((congrFun xo_12 221).trans rfl) xm_144 rfl rfl
      have hg23 := ex_go3 hE23 (by rw [ct19]; exact h0t) (by rw [ct19]; exact h4t) (by omega)
      obtain ⟨rfl, hs23⟩ := st_goesOn hE23 (fun q => by rw [ct19]; exact ⟨h0t, h4t⟩)
      replace h : eT xq_231 _ 26 [some (.inr (.inl (some 75)))] [] μ23 r μ' := h
      replace h := tx_goto (t := 93) h em231_26 (by decide)
      obtain ⟨rfl, hμ⟩ := tx_return h em231_93
      rw [hμ]
      obtain ⟨e1, e2, e3⟩ := he19
      have e1 : (μ19.1 75 49).toInt = (μ.1 75 49).toInt + 1 := e1.1
      have g49 : μ23.1 75 49 = μ19.1 75 49 := hs23.1.2.1 49 (by decide) (by decide) (by decide)
      have g55 : μ23.1 75 55 = μ.1 75 55 := (hs23.1.2.1 55 (by decide) (by decide) (by decide)).trans e3
      refine ⟨g55, ?_⟩
      rw [g49]
      rcases hg23 with ⟨k1, k2⟩ | ⟨k1, k2, k3⟩
      · exact Or.inr ⟨by omega, by omega, by omega, k2⟩
      · exact Or.inl ⟨by omega, by omega, by omega, by omega⟩
  · rw [hm] at h
    replace h : eT xq_231 _ 5 [some (.inr (.inl (some 75)))] [.inl (0 : Int32)] μ r μ' := h
    rcases tx_if (t := 29) (p' := 8) h em231_5 (by decide) rfl with ⟨c5_1, h⟩ | ⟨c5_1, h⟩
    · replace c5_1 : (0 : Int) = (0 : Int) := c5_1
      replace h := tx_aload_n (p' := 30) h em231_29 rfl rfl
      replace h := tx_getf (c := 12) (j := 27) (p' := 33) h em231_30 ((congrFun xo_12 200).trans rfl) rfl rfl (by decide) rfl
      rcases tx_if (t := 88) (p' := 36) h em231_33 (by decide) rfl with ⟨c33, h⟩ | ⟨c33, h⟩
      · replace c33 : ¬ (μ.1 75 27).toInt = 0 := c33
        replace h := tx_aload_n (p' := 89) h em231_88 rfl rfl
        replace h := tx_iconst (v := 1) (p' := 90) h em231_89 (by decide +kernel) rfl
        obtain ⟨r90, μ90, hE90, h⟩ := tx_invV (na := 2) (mn := 133) (as := [.inr (.inl (some 75)), .inl (1 : Int32)]) (rest := []) (p' := 93) h em231_90 ((congrFun xo_12 215).trans rfl) xm_133 rfl rfl
        have hf90 := ex_fl3 hE90 (by decide)
        obtain ⟨rfl, hs90⟩ := st_fail (f0 := 1) hE90 (by decide) (by decide)
        replace h : eT xq_231 _ 93 [some (.inr (.inl (some 75)))] [] μ90 r μ' := h
        obtain ⟨rfl, hμ⟩ := tx_return h em231_93
        rw [hμ]
        obtain ⟨k1, k2, k3, k4⟩ := hf90
        exact ⟨k4, Or.inr ⟨k1, by rw [k3]; omega, by rw [k3]; omega, k2⟩⟩
      · replace c33 : ¬ ¬ (μ.1 75 27).toInt = 0 := c33
        replace h := tx_aload_n (p' := 37) h em231_36 rfl rfl
        replace h := tx_getc (c := 12) (j := 19) (p' := 40) h em231_37 ((congrFun xo_12 20).trans rfl) rfl rfl rfl
        replace h := tx_aload_n (p' := 41) h em231_40 rfl rfl
        replace h := tx_getf (c := 12) (j := 25) (p' := 44) h em231_41 ((congrFun xo_12 203).trans rfl) rfl rfl (by decide) rfl
        obtain ⟨hb44, h⟩ := tx_iald (len := 403) (p' := 45) h em231_44 rfl rfl
        replace hb44 : (0 : Int) ≤ (μ.1 75 25).toInt ∧ (μ.1 75 25).toInt < 403 := hb44
        replace h := tx_bipush (v := 32) (p' := 47) h em231_45 (by decide +kernel) rfl
        rcases tx_icmp (t := 88) (p' := 50) h em231_47 (by decide) rfl with ⟨c47, h⟩ | ⟨c47, h⟩
        · replace c47 : (μ.1 78 (μ.1 75 25).toInt.toNat).toInt < 32 := c47
          replace h := tx_aload_n (p' := 89) h em231_88 rfl rfl
          replace h := tx_iconst (v := 1) (p' := 90) h em231_89 (by decide +kernel) rfl
          obtain ⟨r90_1, μ90_1, hE90_1, h⟩ := tx_invV (na := 2) (mn := 133) (as := [.inr (.inl (some 75)), .inl (1 : Int32)]) (rest := []) (p' := 93) h em231_90 ((congrFun xo_12 215).trans rfl) xm_133 rfl rfl
          have hf90_1 := ex_fl3 hE90_1 (by decide)
          obtain ⟨rfl, hs90_1⟩ := st_fail (f0 := 1) hE90_1 (by decide) (by decide)
          replace h : eT xq_231 _ 93 [some (.inr (.inl (some 75)))] [] μ90_1 r μ' := h
          obtain ⟨rfl, hμ⟩ := tx_return h em231_93
          rw [hμ]
          obtain ⟨k1, k2, k3, k4⟩ := hf90_1
          exact ⟨k4, Or.inr ⟨k1, by rw [k3]; omega, by rw [k3]; omega, k2⟩⟩
        · replace c47 : ¬ (μ.1 78 (μ.1 75 25).toInt.toNat).toInt < 32 := c47
          replace h := tx_aload_n (p' := 51) h em231_50 rfl rfl
          replace h := tx_getc (c := 12) (j := 19) (p' := 54) h em231_51 ((congrFun xo_12 20).trans rfl) rfl rfl rfl
          replace h := tx_aload_n (p' := 55) h em231_54 rfl rfl
          replace h := tx_getf (c := 12) (j := 25) (p' := 58) h em231_55 ((congrFun xo_12 203).trans rfl) rfl rfl (by decide) rfl
          obtain ⟨hb58, h⟩ := tx_iald (len := 403) (p' := 59) h em231_58 rfl rfl
          replace hb58 : (0 : Int) ≤ (μ.1 75 25).toInt ∧ (μ.1 75 25).toInt < 403 := hb58
          replace h := tx_bipush (v := 40) (p' := 61) h em231_59 (by decide +kernel) rfl
          rcases tx_icmp (t := 88) (p' := 64) h em231_61 (by decide) rfl with ⟨c61, h⟩ | ⟨c61, h⟩
          · replace c61 : 40 < (μ.1 78 (μ.1 75 25).toInt.toNat).toInt := c61
            replace h := tx_aload_n (p' := 89) h em231_88 rfl rfl
            replace h := tx_iconst (v := 1) (p' := 90) h em231_89 (by decide +kernel) rfl
            obtain ⟨r90_2, μ90_2, hE90_2, h⟩ := tx_invV (na := 2) (mn := 133) (as := [.inr (.inl (some 75)), .inl (1 : Int32)]) (rest := []) (p' := 93) h em231_90 ((congrFun xo_12 215).trans rfl) xm_133 rfl rfl
            have hf90_2 := ex_fl3 hE90_2 (by decide)
            obtain ⟨rfl, hs90_2⟩ := st_fail (f0 := 1) hE90_2 (by decide) (by decide)
            replace h : eT xq_231 _ 93 [some (.inr (.inl (some 75)))] [] μ90_2 r μ' := h
            obtain ⟨rfl, hμ⟩ := tx_return h em231_93
            rw [hμ]
            obtain ⟨k1, k2, k3, k4⟩ := hf90_2
            exact ⟨k4, Or.inr ⟨k1, by rw [k3]; omega, by rw [k3]; omega, k2⟩⟩
          · replace c61 : ¬ 40 < (μ.1 78 (μ.1 75 25).toInt.toNat).toInt := c61
            replace h := tx_aload_n (p' := 65) h em231_64 rfl rfl
            replace h := tx_iconst (v := 1) (p' := 66) h em231_65 (by decide +kernel) rfl
            replace h := tx_aload_n (p' := 67) h em231_66 rfl rfl
            replace h := tx_getc (c := 12) (j := 19) (p' := 70) h em231_67 ((congrFun xo_12 20).trans rfl) rfl rfl rfl
            replace h := tx_aload_n (p' := 71) h em231_70 rfl rfl
            replace h := tx_getf (c := 12) (j := 25) (p' := 74) h em231_71 ((congrFun xo_12 203).trans rfl) rfl rfl (by decide) rfl
            obtain ⟨hb74, h⟩ := tx_iald (len := 403) (p' := 75) h em231_74 rfl rfl
            replace hb74 : (0 : Int) ≤ (μ.1 75 25).toInt ∧ (μ.1 75 25).toInt < 403 := hb74
            replace h := tx_bipush (v := 32) (p' := 77) h em231_75 (by decide +kernel) rfl
            replace h := tx_isub (p' := 78) h em231_77 rfl
            obtain ⟨r78, μ78, hE78, h⟩ := tx_invV (na := 3) (mn := 228) (as := [.inr (.inl (some 75)), .inl (1 : Int32), .inl ((μ.1 78 (μ.1 75 25).toInt.toNat) - (32 : Int32))]) (rest := []) (p' := 81) h em231_78 ((congrFun xo_12 310).trans rfl) xm_228 rfl rfl
            have he78 := ex_emit2 hE78
            have hfe78 := ex_emit3 hE78
            obtain ⟨rfl, hc78⟩ := ex_emit hE78
            obtain ⟨ct78, cf78, cv78, cq78⟩ := rC_f hc78
            replace h : eT xq_231 _ 81 [some (.inr (.inl (some 75)))] [] μ78 r μ' := h
            replace h := tx_aload_n (p' := 82) h em231_81 rfl rfl
            obtain ⟨r82, μ82, hE82, h⟩ := tx_invV (na := 1) (mn := 144) (as := [.inr (.inl (some 75))]) (rest := []) (p' := 85) h em231_82 ((congrFun xo_12 221).trans rfl) xm_144 rfl rfl
            have hg82 := ex_go3 hE82 (by rw [ct78]; exact h0t) (by rw [ct78]; exact h4t) (by omega)
            obtain ⟨rfl, hs82⟩ := st_goesOn hE82 (fun q => by rw [ct78]; exact ⟨h0t, h4t⟩)
            replace h : eT xq_231 _ 85 [some (.inr (.inl (some 75)))] [] μ82 r μ' := h
            replace h := tx_goto (t := 93) h em231_85 (by decide)
            obtain ⟨rfl, hμ⟩ := tx_return h em231_93
            rw [hμ]
            obtain ⟨e1, e2, e3⟩ := he78
            have e1 : (μ78.1 75 49).toInt = (μ.1 75 49).toInt + 1 := e1.1
            have g49 : μ82.1 75 49 = μ78.1 75 49 := hs82.1.2.1 49 (by decide) (by decide) (by decide)
            have g55 : μ82.1 75 55 = μ.1 75 55 := (hs82.1.2.1 55 (by decide) (by decide) (by decide)).trans e3
            refine ⟨g55, ?_⟩
            rw [g49]
            rcases hg82 with ⟨k1, k2⟩ | ⟨k1, k2, k3⟩
            · exact Or.inr ⟨by omega, by omega, by omega, k2⟩
            · exact Or.inl ⟨by omega, by omega, by omega, by omega⟩
    · replace c5_1 : ¬ (0 : Int) = (0 : Int) := c5_1
      exfalso
      omega
set_option maxRecDepth 10000 in
set_option maxHeartbeats 4000000 in
theorem ex_unit5 {μ μ' : xM} {r : Option zV} (h0 : Ex gx xq_231 [.inr (.inl (some 75))] μ r μ') (h0t : 0 ≤ rT μ) (h4t : rT μ ≤ 400) : fP μ μ' := by
  obtain ⟨n, h⟩ := tx_in (L := [some (.inr (.inl (some 75)))]) h0 rfl
  replace h := tx_aload_n (p' := 1) h em231_0 rfl rfl
  replace h := tx_iconst (v := 2) (p' := 2) h em231_1 (by decide +kernel) rfl
  obtain ⟨r2, μ2, hE2, h⟩ := tx_invV (na := 2) (mn := 149) (as := [.inr (.inl (some 75)), .inl (2 : Int32)]) (rest := []) (p' := 5) h em231_2 ((congrFun xo_12 218).trans rfl) xm_149 rfl rfl
  obtain ⟨hm, ⟨rfl, i21, i22, i23⟩ | ⟨rfl, i21⟩⟩ := ex_is hE2 (by decide)
  · rw [hm] at h
    replace h : eT xq_231 _ 5 [some (.inr (.inl (some 75)))] [.inl (1 : Int32)] μ r μ' := h
    rcases tx_if (t := 29) (p' := 8) h em231_5 (by decide) rfl with ⟨c5, h⟩ | ⟨c5, h⟩
    · replace c5 : (1 : Int) = (0 : Int) := c5
      exfalso
      omega
    · replace c5 : ¬ (1 : Int) = (0 : Int) := c5
      replace h := tx_aload_n (p' := 9) h em231_8 rfl rfl
      replace h := tx_iconst (v := 0) (p' := 10) h em231_9 (by decide +kernel) rfl
      replace h := tx_aload_n (p' := 11) h em231_10 rfl rfl
      replace h := tx_getc (c := 12) (j := 21) (p' := 14) h em231_11 ((congrFun xo_12 27).trans rfl) rfl rfl rfl
      replace h := tx_aload_n (p' := 15) h em231_14 rfl rfl
      replace h := tx_getf (c := 12) (j := 25) (p' := 18) h em231_15 ((congrFun xo_12 203).trans rfl) rfl rfl (by decide) rfl
      obtain ⟨hb18, h⟩ := tx_iald (len := 403) (p' := 19) h em231_18 rfl rfl
      replace hb18 : (0 : Int) ≤ (μ.1 75 25).toInt ∧ (μ.1 75 25).toInt < 403 := hb18
      obtain ⟨r19, μ19, hE19, h⟩ := tx_invV (na := 3) (mn := 228) (as := [.inr (.inl (some 75)), .inl (0 : Int32), .inl (μ.1 80 (μ.1 75 25).toInt.toNat)]) (rest := []) (p' := 22) h em231_19 ((congrFun xo_12 310).trans rfl) xm_228 rfl rfl
      have he19 := ex_emit2 hE19
      have hfe19 := ex_emit3 hE19
      obtain ⟨rfl, hc19⟩ := ex_emit hE19
      obtain ⟨ct19, cf19, cv19, cq19⟩ := rC_f hc19
      replace h : eT xq_231 _ 22 [some (.inr (.inl (some 75)))] [] μ19 r μ' := h
      replace h := tx_aload_n (p' := 23) h em231_22 rfl rfl
      obtain ⟨r23, μ23, hE23, h⟩ := tx_invV (na := 1) (mn := 144) (as := [.inr (.inl (some 75))]) (rest := []) (p' := 26) h em231_23 ((congrFun xo_12 221).trans rfl) xm_144 rfl rfl
      obtain ⟨rfl, hs23⟩ := st_goesOn hE23 (fun q => by rw [ct19]; exact ⟨h0t, h4t⟩)
      replace h : eT xq_231 _ 26 [some (.inr (.inl (some 75)))] [] μ23 r μ' := h
      replace h := tx_goto (t := 93) h em231_26 (by decide)
      obtain ⟨rfl, hμ⟩ := tx_return h em231_93
      rw [hμ]
      exact rM_f hfe19 hs23.1
  · rw [hm] at h
    replace h : eT xq_231 _ 5 [some (.inr (.inl (some 75)))] [.inl (0 : Int32)] μ r μ' := h
    rcases tx_if (t := 29) (p' := 8) h em231_5 (by decide) rfl with ⟨c5_1, h⟩ | ⟨c5_1, h⟩
    · replace c5_1 : (0 : Int) = (0 : Int) := c5_1
      replace h := tx_aload_n (p' := 30) h em231_29 rfl rfl
      replace h := tx_getf (c := 12) (j := 27) (p' := 33) h em231_30 ((congrFun xo_12 200).trans rfl) rfl rfl (by decide) rfl
      rcases tx_if (t := 88) (p' := 36) h em231_33 (by decide) rfl with ⟨c33, h⟩ | ⟨c33, h⟩
      · replace c33 : ¬ (μ.1 75 27).toInt = 0 := c33
        replace h := tx_aload_n (p' := 89) h em231_88 rfl rfl
        replace h := tx_iconst (v := 1) (p' := 90) h em231_89 (by decide +kernel) rfl
        obtain ⟨r90, μ90, hE90, h⟩ := tx_invV (na := 2) (mn := 133) (as := [.inr (.inl (some 75)), .inl (1 : Int32)]) (rest := []) (p' := 93) h em231_90 ((congrFun xo_12 215).trans rfl) xm_133 rfl rfl
        obtain ⟨rfl, hs90⟩ := st_fail (f0 := 1) hE90 (by decide) (by decide)
        replace h : eT xq_231 _ 93 [some (.inr (.inl (some 75)))] [] μ90 r μ' := h
        obtain ⟨rfl, hμ⟩ := tx_return h em231_93
        rw [hμ]
        exact rM_f fP_rf hs90.1
      · replace c33 : ¬ ¬ (μ.1 75 27).toInt = 0 := c33
        replace h := tx_aload_n (p' := 37) h em231_36 rfl rfl
        replace h := tx_getc (c := 12) (j := 19) (p' := 40) h em231_37 ((congrFun xo_12 20).trans rfl) rfl rfl rfl
        replace h := tx_aload_n (p' := 41) h em231_40 rfl rfl
        replace h := tx_getf (c := 12) (j := 25) (p' := 44) h em231_41 ((congrFun xo_12 203).trans rfl) rfl rfl (by decide) rfl
        obtain ⟨hb44, h⟩ := tx_iald (len := 403) (p' := 45) h em231_44 rfl rfl
        replace hb44 : (0 : Int) ≤ (μ.1 75 25).toInt ∧ (μ.1 75 25).toInt < 403 := hb44
        replace h := tx_bipush (v := 32) (p' := 47) h em231_45 (by decide +kernel) rfl
        rcases tx_icmp (t := 88) (p' := 50) h em231_47 (by decide) rfl with ⟨c47, h⟩ | ⟨c47, h⟩
        · replace c47 : (μ.1 78 (μ.1 75 25).toInt.toNat).toInt < 32 := c47
          replace h := tx_aload_n (p' := 89) h em231_88 rfl rfl
          replace h := tx_iconst (v := 1) (p' := 90) h em231_89 (by decide +kernel) rfl
          obtain ⟨r90_1, μ90_1, hE90_1, h⟩ := tx_invV (na := 2) (mn := 133) (as := [.inr (.inl (some 75)), .inl (1 : Int32)]) (rest := []) (p' := 93) h em231_90 ((congrFun xo_12 215).trans rfl) xm_133 rfl rfl
          obtain ⟨rfl, hs90_1⟩ := st_fail (f0 := 1) hE90_1 (by decide) (by decide)
          replace h : eT xq_231 _ 93 [some (.inr (.inl (some 75)))] [] μ90_1 r μ' := h
          obtain ⟨rfl, hμ⟩ := tx_return h em231_93
          rw [hμ]
          exact rM_f fP_rf hs90_1.1
        · replace c47 : ¬ (μ.1 78 (μ.1 75 25).toInt.toNat).toInt < 32 := c47
          replace h := tx_aload_n (p' := 51) h em231_50 rfl rfl
          replace h := tx_getc (c := 12) (j := 19) (p' := 54) h em231_51 ((congrFun xo_12 20).trans rfl) rfl rfl rfl
          replace h := tx_aload_n (p' := 55) h em231_54 rfl rfl
          replace h := tx_getf (c := 12) (j := 25) (p' := 58) h em231_55 ((congrFun xo_12 203).trans rfl) rfl rfl (by decide) rfl
          obtain ⟨hb58, h⟩ := tx_iald (len := 403) (p' := 59) h em231_58 rfl rfl
          replace hb58 : (0 : Int) ≤ (μ.1 75 25).toInt ∧ (μ.1 75 25).toInt < 403 := hb58
          replace h := tx_bipush (v := 40) (p' := 61) h em231_59 (by decide +kernel) rfl
          rcases tx_icmp (t := 88) (p' := 64) h em231_61 (by decide) rfl with ⟨c61, h⟩ | ⟨c61, h⟩
          · replace c61 : 40 < (μ.1 78 (μ.1 75 25).toInt.toNat).toInt := c61
            replace h := tx_aload_n (p' := 89) h em231_88 rfl rfl
            replace h := tx_iconst (v := 1) (p' := 90) h em231_89 (by decide +kernel) rfl
            obtain ⟨r90_2, μ90_2, hE90_2, h⟩ := tx_invV (na := 2) (mn := 133) (as := [.inr (.inl (some 75)), .inl (1 : Int32)]) (rest := []) (p' := 93) h em231_90 ((congrFun xo_12 215).trans rfl) xm_133 rfl rfl
            obtain ⟨rfl, hs90_2⟩ := st_fail (f0 := 1) hE90_2 (by decide) (by decide)
            replace h : eT xq_231 _ 93 [some (.inr (.inl (some 75)))] [] μ90_2 r μ' := h
            obtain ⟨rfl, hμ⟩ := tx_return h em231_93
            rw [hμ]
            exact rM_f fP_rf hs90_2.1
          · replace c61 : ¬ 40 < (μ.1 78 (μ.1 75 25).toInt.toNat).toInt := c61
            replace h := tx_aload_n (p' := 65) h em231_64 rfl rfl
            replace h := tx_iconst (v := 1) (p' := 66) h em231_65 (by decide +kernel) rfl
            replace h := tx_aload_n (p' := 67) h em231_66 rfl rfl
            replace h := tx_getc (c := 12) (j := 19) (p' := 70) h em231_67 ((congrFun xo_12 20).trans rfl) rfl rfl rfl
            replace h := tx_aload_n (p' := 71) h em231_70 rfl rfl
            replace h := tx_getf (c := 12) (j := 25) (p' := 74) h em231_71 ((congrFun xo_12 203).trans rfl) rfl rfl (by decide) rfl
            obtain ⟨hb74, h⟩ := tx_iald (len := 403) (p' := 75) h em231_74 rfl rfl
            replace hb74 : (0 : Int) ≤ (μ.1 75 25).toInt ∧ (μ.1 75 25).toInt < 403 := hb74
            replace h := tx_bipush (v := 32) (p' := 77) h em231_75 (by decide +kernel) rfl
            replace h := tx_isub (p' := 78) h em231_77 rfl
            obtain ⟨r78, μ78, hE78, h⟩ := tx_invV (na := 3) (mn := 228) (as := [.inr (.inl (some 75)), .inl (1 : Int32), .inl ((μ.1 78 (μ.1 75 25).toInt.toNat) - (32 : Int32))]) (rest := []) (p' := 81) h em231_78 ((congrFun xo_12 310).trans rfl) xm_228 rfl rfl
            have he78 := ex_emit2 hE78
            have hfe78 := ex_emit3 hE78
            obtain ⟨rfl, hc78⟩ := ex_emit hE78
            obtain ⟨ct78, cf78, cv78, cq78⟩ := rC_f hc78
            replace h : eT xq_231 _ 81 [some (.inr (.inl (some 75)))] [] μ78 r μ' := h
            replace h := tx_aload_n (p' := 82) h em231_81 rfl rfl
            obtain ⟨r82, μ82, hE82, h⟩ := tx_invV (na := 1) (mn := 144) (as := [.inr (.inl (some 75))]) (rest := []) (p' := 85) h em231_82 ((congrFun xo_12 221).trans rfl) xm_144 rfl rfl
            obtain ⟨rfl, hs82⟩ := st_goesOn hE82 (fun q => by rw [ct78]; exact ⟨h0t, h4t⟩)
            replace h : eT xq_231 _ 85 [some (.inr (.inl (some 75)))] [] μ82 r μ' := h
            replace h := tx_goto (t := 93) h em231_85 (by decide)
            obtain ⟨rfl, hμ⟩ := tx_return h em231_93
            rw [hμ]
            exact rM_f hfe78 hs82.1
    · replace c5_1 : ¬ (0 : Int) = (0 : Int) := c5_1
      exfalso
      omega
set_option maxRecDepth 10000 in
set_option maxHeartbeats 4000000 in
theorem ex_unit4 {μ μ' : xM} {r : Option zV} (h0 : Ex gx xq_231 [.inr (.inl (some 75))] μ r μ') (hF : ¬ rF μ = 0) : μ'.1 75 49 = μ.1 75 49 := by
  obtain ⟨n, h⟩ := tx_in (L := [some (.inr (.inl (some 75)))]) h0 rfl
  replace h := tx_aload_n (p' := 1) h em231_0 rfl rfl
  replace h := tx_iconst (v := 2) (p' := 2) h em231_1 (by decide +kernel) rfl
  obtain ⟨r2, μ2, hE2, h⟩ := tx_invV (na := 2) (mn := 149) (as := [.inr (.inl (some 75)), .inl (2 : Int32)]) (rest := []) (p' := 5) h em231_2 ((congrFun xo_12 218).trans rfl) xm_149 rfl rfl
  obtain ⟨hm, ⟨rfl, i21, i22, i23⟩ | ⟨rfl, i21⟩⟩ := ex_is hE2 (by decide)
  · rw [hm] at h
    replace h : eT xq_231 _ 5 [some (.inr (.inl (some 75)))] [.inl (1 : Int32)] μ r μ' := h
    rcases tx_if (t := 29) (p' := 8) h em231_5 (by decide) rfl with ⟨c5, h⟩ | ⟨c5, h⟩
    · replace c5 : (1 : Int) = (0 : Int) := c5
      exfalso
      omega
    · replace c5 : ¬ (1 : Int) = (0 : Int) := c5
      replace h := tx_aload_n (p' := 9) h em231_8 rfl rfl
      replace h := tx_iconst (v := 0) (p' := 10) h em231_9 (by decide +kernel) rfl
      replace h := tx_aload_n (p' := 11) h em231_10 rfl rfl
      replace h := tx_getc (c := 12) (j := 21) (p' := 14) h em231_11 ((congrFun xo_12 27).trans rfl) rfl rfl rfl
      replace h := tx_aload_n (p' := 15) h em231_14 rfl rfl
      replace h := tx_getf (c := 12) (j := 25) (p' := 18) h em231_15 ((congrFun xo_12 203).trans rfl) rfl rfl (by decide) rfl
      obtain ⟨hb18, h⟩ := tx_iald (len := 403) (p' := 19) h em231_18 rfl rfl
      replace hb18 : (0 : Int) ≤ (μ.1 75 25).toInt ∧ (μ.1 75 25).toInt < 403 := hb18
      obtain ⟨r19, μ19, hE19, h⟩ := tx_invV (na := 3) (mn := 228) (as := [.inr (.inl (some 75)), .inl (0 : Int32), .inl (μ.1 80 (μ.1 75 25).toInt.toNat)]) (rest := []) (p' := 22) h em231_19 ((congrFun xo_12 310).trans rfl) xm_228 rfl rfl
      have he19 := ex_emit2 hE19
      have hfe19 := ex_emit3 hE19
      obtain ⟨rfl, hc19⟩ := ex_emit hE19
      obtain ⟨ct19, cf19, cv19, cq19⟩ := rC_f hc19
      replace h : eT xq_231 _ 22 [some (.inr (.inl (some 75)))] [] μ19 r μ' := h
      replace h := tx_aload_n (p' := 23) h em231_22 rfl rfl
      obtain ⟨r23, μ23, hE23, h⟩ := tx_invV (na := 1) (mn := 144) (as := [.inr (.inl (some 75))]) (rest := []) (p' := 26) h em231_23 ((congrFun xo_12 221).trans rfl) xm_144 rfl rfl
      have er23 := ex_void [0, 1, 4, 7, 10, 11, 12, 15, 18, 19, 20, 23, 24, 25, 28, 29] (by decide +kernel) hE23
      subst er23
      replace h : eT xq_231 _ 26 [some (.inr (.inl (some 75)))] [] μ23 r μ' := h
      replace h := tx_goto (t := 93) h em231_26 (by decide)
      obtain ⟨rfl, hμ⟩ := tx_return h em231_93
      exact absurd i21 hF
  · rw [hm] at h
    replace h : eT xq_231 _ 5 [some (.inr (.inl (some 75)))] [.inl (0 : Int32)] μ r μ' := h
    rcases tx_if (t := 29) (p' := 8) h em231_5 (by decide) rfl with ⟨c5_1, h⟩ | ⟨c5_1, h⟩
    · replace c5_1 : (0 : Int) = (0 : Int) := c5_1
      replace h := tx_aload_n (p' := 30) h em231_29 rfl rfl
      replace h := tx_getf (c := 12) (j := 27) (p' := 33) h em231_30 ((congrFun xo_12 200).trans rfl) rfl rfl (by decide) rfl
      rcases tx_if (t := 88) (p' := 36) h em231_33 (by decide) rfl with ⟨c33, h⟩ | ⟨c33, h⟩
      · replace c33 : ¬ (μ.1 75 27).toInt = 0 := c33
        replace h := tx_aload_n (p' := 89) h em231_88 rfl rfl
        replace h := tx_iconst (v := 1) (p' := 90) h em231_89 (by decide +kernel) rfl
        obtain ⟨r90, μ90, hE90, h⟩ := tx_invV (na := 2) (mn := 133) (as := [.inr (.inl (some 75)), .inl (1 : Int32)]) (rest := []) (p' := 93) h em231_90 ((congrFun xo_12 215).trans rfl) xm_133 rfl rfl
        have hf90 := ex_fl3 hE90 (by decide)
        obtain ⟨rfl, hs90⟩ := st_fail (f0 := 1) hE90 (by decide) (by decide)
        replace h : eT xq_231 _ 93 [some (.inr (.inl (some 75)))] [] μ90 r μ' := h
        obtain ⟨rfl, hμ⟩ := tx_return h em231_93
        rw [hμ]
        exact hf90.2.2.1
      · replace c33 : ¬ ¬ (μ.1 75 27).toInt = 0 := c33
        replace h := tx_aload_n (p' := 37) h em231_36 rfl rfl
        replace h := tx_getc (c := 12) (j := 19) (p' := 40) h em231_37 ((congrFun xo_12 20).trans rfl) rfl rfl rfl
        replace h := tx_aload_n (p' := 41) h em231_40 rfl rfl
        replace h := tx_getf (c := 12) (j := 25) (p' := 44) h em231_41 ((congrFun xo_12 203).trans rfl) rfl rfl (by decide) rfl
        obtain ⟨hb44, h⟩ := tx_iald (len := 403) (p' := 45) h em231_44 rfl rfl
        replace hb44 : (0 : Int) ≤ (μ.1 75 25).toInt ∧ (μ.1 75 25).toInt < 403 := hb44
        replace h := tx_bipush (v := 32) (p' := 47) h em231_45 (by decide +kernel) rfl
        rcases tx_icmp (t := 88) (p' := 50) h em231_47 (by decide) rfl with ⟨c47, h⟩ | ⟨c47, h⟩
        · replace c47 : (μ.1 78 (μ.1 75 25).toInt.toNat).toInt < 32 := c47
          replace h := tx_aload_n (p' := 89) h em231_88 rfl rfl
          replace h := tx_iconst (v := 1) (p' := 90) h em231_89 (by decide +kernel) rfl
          obtain ⟨r90_1, μ90_1, hE90_1, h⟩ := tx_invV (na := 2) (mn := 133) (as := [.inr (.inl (some 75)), .inl (1 : Int32)]) (rest := []) (p' := 93) h em231_90 ((congrFun xo_12 215).trans rfl) xm_133 rfl rfl
          have hf90_1 := ex_fl3 hE90_1 (by decide)
          obtain ⟨rfl, hs90_1⟩ := st_fail (f0 := 1) hE90_1 (by decide) (by decide)
          replace h : eT xq_231 _ 93 [some (.inr (.inl (some 75)))] [] μ90_1 r μ' := h
          obtain ⟨rfl, hμ⟩ := tx_return h em231_93
          exfalso
          unfold rF at hF
          omega
        · replace c47 : ¬ (μ.1 78 (μ.1 75 25).toInt.toNat).toInt < 32 := c47
          replace h := tx_aload_n (p' := 51) h em231_50 rfl rfl
          replace h := tx_getc (c := 12) (j := 19) (p' := 54) h em231_51 ((congrFun xo_12 20).trans rfl) rfl rfl rfl
          replace h := tx_aload_n (p' := 55) h em231_54 rfl rfl
          replace h := tx_getf (c := 12) (j := 25) (p' := 58) h em231_55 ((congrFun xo_12 203).trans rfl) rfl rfl (by decide) rfl
          obtain ⟨hb58, h⟩ := tx_iald (len := 403) (p' := 59) h em231_58 rfl rfl
          replace hb58 : (0 : Int) ≤ (μ.1 75 25).toInt ∧ (μ.1 75 25).toInt < 403 := hb58
          replace h := tx_bipush (v := 40) (p' := 61) h em231_59 (by decide +kernel) rfl
          rcases tx_icmp (t := 88) (p' := 64) h em231_61 (by decide) rfl with ⟨c61, h⟩ | ⟨c61, h⟩
          · replace c61 : 40 < (μ.1 78 (μ.1 75 25).toInt.toNat).toInt := c61
            replace h := tx_aload_n (p' := 89) h em231_88 rfl rfl
            replace h := tx_iconst (v := 1) (p' := 90) h em231_89 (by decide +kernel) rfl
            obtain ⟨r90_2, μ90_2, hE90_2, h⟩ := tx_invV (na := 2) (mn := 133) (as := [.inr (.inl (some 75)), .inl (1 : Int32)]) (rest := []) (p' := 93) h em231_90 ((congrFun xo_12 215).trans rfl) xm_133 rfl rfl
            have hf90_2 := ex_fl3 hE90_2 (by decide)
            obtain ⟨rfl, hs90_2⟩ := st_fail (f0 := 1) hE90_2 (by decide) (by decide)
            replace h : eT xq_231 _ 93 [some (.inr (.inl (some 75)))] [] μ90_2 r μ' := h
            obtain ⟨rfl, hμ⟩ := tx_return h em231_93
            exfalso
            unfold rF at hF
            omega
          · replace c61 : ¬ 40 < (μ.1 78 (μ.1 75 25).toInt.toNat).toInt := c61
            replace h := tx_aload_n (p' := 65) h em231_64 rfl rfl
            replace h := tx_iconst (v := 1) (p' := 66) h em231_65 (by decide +kernel) rfl
            replace h := tx_aload_n (p' := 67) h em231_66 rfl rfl
            replace h := tx_getc (c := 12) (j := 19) (p' := 70) h em231_67 ((congrFun xo_12 20).trans rfl) rfl rfl rfl
            replace h := tx_aload_n (p' := 71) h em231_70 rfl rfl
            replace h := tx_getf (c := 12) (j := 25) (p' := 74) h em231_71 ((congrFun xo_12 203).trans rfl) rfl rfl (by decide) rfl
            obtain ⟨hb74, h⟩ := tx_iald (len := 403) (p' := 75) h em231_74 rfl rfl
            replace hb74 : (0 : Int) ≤ (μ.1 75 25).toInt ∧ (μ.1 75 25).toInt < 403 := hb74
            replace h := tx_bipush (v := 32) (p' := 77) h em231_75 (by decide +kernel) rfl
            replace h := tx_isub (p' := 78) h em231_77 rfl
            obtain ⟨r78, μ78, hE78, h⟩ := tx_invV (na := 3) (mn := 228) (as := [.inr (.inl (some 75)), .inl (1 : Int32), .inl ((μ.1 78 (μ.1 75 25).toInt.toNat) - (32 : Int32))]) (rest := []) (p' := 81) h em231_78 ((congrFun xo_12 310).trans rfl) xm_228 rfl rfl
            have he78 := ex_emit2 hE78
            have hfe78 := ex_emit3 hE78
            obtain ⟨rfl, hc78⟩ := ex_emit hE78
            obtain ⟨ct78, cf78, cv78, cq78⟩ := rC_f hc78
            replace h : eT xq_231 _ 81 [some (.inr (.inl (some 75)))] [] μ78 r μ' := h
            replace h := tx_aload_n (p' := 82) h em231_81 rfl rfl
            obtain ⟨r82, μ82, hE82, h⟩ := tx_invV (na := 1) (mn := 144) (as := [.inr (.inl (some 75))]) (rest := []) (p' := 85) h em231_82 ((congrFun xo_12 221).trans rfl) xm_144 rfl rfl
            have er82 := ex_void [0, 1, 4, 7, 10, 11, 12, 15, 18, 19, 20, 23, 24, 25, 28, 29] (by decide +kernel) hE82
            subst er82
            replace h : eT xq_231 _ 85 [some (.inr (.inl (some 75)))] [] μ82 r μ' := h
            replace h := tx_goto (t := 93) h em231_85 (by decide)
            obtain ⟨rfl, hμ⟩ := tx_return h em231_93
            exfalso
            unfold rF at hF
            omega
    · replace c5_1 : ¬ (0 : Int) = (0 : Int) := c5_1
      exfalso
      omega
set_option maxRecDepth 10000 in
set_option maxHeartbeats 4000000 in
theorem ex_expr2 {μ μ' : xM} {r : Option zV} (h0 : Ex gx xq_230 [.inr (.inl (some 75))] μ r μ') (hF0 : rF μ = 0) (ht0 : 0 ≤ rT μ) (ht4 : rT μ ≤ 400) (hq0 : rQ μ = 0) (h0s : 0 ≤ (μ.1 75 49).toInt) : ((rF μ' = 0 → bP μ μ' (ys (rK μ) (rVl μ) (rT μ) 0 false [])) ∧ eB μ μ' ∧ fP μ μ') := by
  obtain ⟨n, h⟩ := tx_in (L := [some (.inr (.inl (some 75))), none, none]) h0 rfl
  have e1i : (1 : Int32).toInt = 1 := by decide
  have main : ∀ n : Nat, (∀ (mo bs : Int32) (ν : xM), eT xq_230 n 12 [some (.inr (.inl (some 75))), some (.inl bs), some (.inl mo)] [] ν r μ' → bs.toInt = 0 → xWv μ ν false → xJ μ ν false → xB μ ν → fP μ ν → mo.toInt = 1 → ((rF μ' = 0 → bP μ μ' (ys (rK μ) (rVl μ) (rT μ) 0 false [])) ∧ eB μ μ' ∧ fP μ μ')) ∧ (∀ (mo bs : Int32) (ν : xM), eT xq_230 n 23 [some (.inr (.inl (some 75))), some (.inl bs), some (.inl mo)] [] ν r μ' → bs.toInt = 0 → xWv μ ν false → xJ μ ν false → xB μ ν → fP μ ν → ((rF μ' = 0 → bP μ μ' (ys (rK μ) (rVl μ) (rT μ) 0 false [])) ∧ eB μ μ' ∧ fP μ μ')) ∧ (∀ (o : Option zV) (bs : Int32) (ν : xM), eT xq_230 n 96 [some (.inr (.inl (some 75))), some (.inl bs), o] [] ν r μ' → bs.toInt = 0 → xWv μ ν true → xJ μ ν true → xB μ ν → fP μ ν → ((rF μ' = 0 → bP μ μ' (ys (rK μ) (rVl μ) (rT μ) 0 false [])) ∧ eB μ μ' ∧ fP μ μ')) := by
    intro n
    induction n using Nat.strongRecOn with
    | ind n ih =>
    have h210 : ∀ (bs : Int32) (ν : xM) {mo : Int32}, eT xq_230 n 210 [some (.inr (.inl (some 75))), some (.inl bs), some (.inl mo)] [] ν r μ' → bs.toInt = 0 → xWv μ ν true → xJ μ ν true → xB μ ν → fP μ ν → rF ν = 0 → (rK μ (rT ν) = 43 ∨ rK μ (rT ν) = 45 ∨ rK μ (rT ν) = 42 ∨ rK μ (rT ν) = 47) → mo.toInt = 1 → ((rF μ' = 0 → bP μ μ' (ys (rK μ) (rVl μ) (rT μ) 0 false [])) ∧ eB μ μ' ∧ fP μ μ') := by
      intro bs ν mo h hbs hW hJ hB hP hf0 hk hmo
      have f0 := hf0
      replace h := tx_aload_n (p' := 211) h em230_210 rfl rfl
      replace h := tx_aload_n (p' := 212) h em230_211 rfl rfl
      replace h := tx_bipush (v := 10) (p' := 214) h em230_212 (by decide +kernel) rfl
      obtain ⟨r214, μ214, hE214, h⟩ := tx_invV (na := 2) (mn := 149) (as := [.inr (.inl (some 75)), .inl (10 : Int32)]) (rest := [.inr (.inl (some 75))]) (p' := 217) h em230_214 ((congrFun xo_12 218).trans rfl) xm_149 rfl rfl
      obtain ⟨hm, ⟨rfl, i2141, i2142, i2143⟩ | ⟨rfl, i2141⟩⟩ := ex_is hE214 (by decide)
      · rw [hm] at h
        replace h : eT xq_230 _ 217 [some (.inr (.inl (some 75))), some (.inl bs), some (.inl mo)] [.inl (1 : Int32), .inr (.inl (some 75))] ν r μ' := h
        rcases tx_if (t := 229) (p' := 220) h em230_217 (by decide) rfl with ⟨c217, h⟩ | ⟨c217, h⟩
        · replace c217 : ¬ (1 : Int) = (0 : Int) := c217
          replace h := tx_iconst (v := 1) (p' := 230) h em230_229 (by decide +kernel) rfl
          replace h := tx_goto (t := 234) h em230_230 (by decide)
          obtain ⟨r234, μ234, hE234, h⟩ := tx_invV (na := 2) (mn := 229) (as := [.inr (.inl (some 75)), .inl (1 : Int32)]) (rest := []) (p' := 237) h em230_234 ((congrFun xo_12 316).trans rfl) xm_229 rfl rfl
          have hn234 := ex_co3 hE234
          have ho234 := fun (sb : Bool) (hs : sb = true ↔ ¬ ((1 : Int32)).toInt = 0) w h0s hW => ex_co2 (w := w) hE234 hs h0s hW
          obtain ⟨rfl, hc234⟩ := ex_comesOut hE234
          obtain ⟨ct234, cf234, cv234, cq234⟩ := rC_f hc234
          replace h : eT xq_230 _ 237 [some (.inr (.inl (some 75))), some (.inl bs), some (.inl mo)] [] μ234 r μ' := h
          replace h := tx_aload_n (p' := 238) h em230_237 rfl rfl
          replace h := tx_getc (c := 12) (j := 54) (p' := 241) h em230_238 ((congrFun xo_12 104).trans rfl) rfl rfl rfl
          replace h := tx_aload_n (p' := 242) h em230_241 rfl rfl
          replace h := tx_getf (c := 12) (j := 55) (p' := 245) h em230_242 ((congrFun xo_12 307).trans rfl) rfl rfl (by decide) rfl
          replace h := tx_aload_n (p' := 246) h em230_245 rfl rfl
          replace h := tx_getc (c := 12) (j := 19) (p' := 249) h em230_246 ((congrFun xo_12 20).trans rfl) rfl rfl rfl
          replace h := tx_aload_n (p' := 250) h em230_249 rfl rfl
          replace h := tx_getf (c := 12) (j := 25) (p' := 253) h em230_250 ((congrFun xo_12 203).trans rfl) rfl rfl (by decide) rfl
          obtain ⟨hb253, h⟩ := tx_iald (len := 403) (p' := 254) h em230_253 rfl rfl
          replace hb253 : (0 : Int) ≤ (μ234.1 75 25).toInt ∧ (μ234.1 75 25).toInt < 403 := hb253
          obtain ⟨hb254, h⟩ := tx_iast (len := 64) (p' := 255) h em230_254 rfl rfl
          replace hb254 : (0 : Int) ≤ (μ234.1 75 55).toInt ∧ (μ234.1 75 55).toInt < 64 := hb254
          replace h := tx_aload_n (p' := 256) h em230_255 rfl rfl
          replace h := tx_dup (p' := 257) h em230_256 rfl
          replace h := tx_getf (c := 12) (j := 55) (p' := 260) h em230_257 ((congrFun xo_12 307).trans rfl) rfl rfl (by decide) rfl
          replace h : eT xq_230 _ 260 [some (.inr (.inl (some 75))), some (.inl bs), some (.inl mo)] [.inl (μ234.1 75 55), .inr (.inl (some 75))] (xpi μ234 104 (μ234.1 75 55).toInt.toNat (μ234.1 78 (μ234.1 75 25).toInt.toNat)) r μ' := h
          replace h := tx_iconst (v := 1) (p' := 261) h em230_260 (by decide +kernel) rfl
          replace h := tx_iadd (p' := 262) h em230_261 rfl
          replace h := tx_putf (a := 75) (c := 12) (j := 55) (p' := 265) h em230_262 ((congrFun xo_12 307).trans rfl) rfl
          replace h := tx_aload_n (p' := 266) h em230_265 rfl rfl
          obtain ⟨r266, μ266, hE266, h⟩ := tx_invV (na := 1) (mn := 144) (as := [.inr (.inl (some 75))]) (rest := []) (p' := 269) h em230_266 ((congrFun xo_12 221).trans rfl) xm_144 rfl rfl
          have hg266 := ex_go3 hE266 (by have := hB.2.2.2.2.1; show 0 ≤ rT μ234; omega) (by have := hB.2.2.2.2.2; show rT μ234 ≤ 400; omega) (by have := (xWv_b hW).1; show 0 ≤ rF μ234; omega)
          obtain ⟨rfl, hs266⟩ := st_goesOn hE266 (fun q => by have q : rF μ234 = 0 := q; have := (xWv_b hW).2 (by omega); show 0 ≤ rT μ234 ∧ rT μ234 ≤ 400; omega)
          replace h : eT xq_230 _ 269 [some (.inr (.inl (some 75))), some (.inl bs), some (.inl mo)] [] μ266 r μ' := h
          obtain ⟨n2, hn2, h⟩ := tx_gotoS (t := 12) h em230_269 (by decide)
          exact (ih n2 hn2).1 _ _ _ h hbs (xWv_on hW (rE_f (rE_c (rC_E hc234) ⟨by decide, by decide⟩) (by omega)) (by exact ⟨ct234, cf234, cv234⟩) hs266 (fun f0 => by have := hW.2; show 0 ≤ rQ μ234 ∧ rQ μ234 ≤ 6; omega) (fun f0 h0 h3 => by show _ = xs _ _ (rQ μ234) _; rw [cq234]; exact xs_sign h0 h3 hk) (fun f0 h4 => xs_sign_f hk h4)) (fun hz => by
            have hz : rF μ266 = 0 := hz
            obtain ⟨z1, z2, z3⟩ := stM_on0 hs266 (by show 0 ≤ rF μ234; omega) hz
            have z2 : rT μ266 = rT μ234 + 1 := z2
            have z3 : ¬ rT μ234 = 400 := z3
            have hb := (xWv_b hW).2 f0
            obtain ⟨C, w, j1, j2, j3, j4⟩ := hJ f0
            have hst : isStr (rK ν (rT ν)) = true := by rw [i2142]; rfl
            obtain ⟨o1, o2⟩ := ho234 true ⟨fun _ => by decide, fun _ => rfl⟩ w (by have := j1.1; omega) j2
            have w55 := o2.1
            have n55 : ((μ234.1 75 55) + (1 : Int32)).toInt = ((popW true w).2.length : Int) + 1 := by rw [an_add (by rw [e1i]; omega) (by rw [e1i]; omega), e1i, w55]
            have hidx : (μ234.1 75 55).toInt.toNat = (popW true w).2.length := by omega
            have hK2 : rK μ234 (rT μ234) = rK ν (rT ν) := by rw [rE_K (rC_E hc234), ct234]
            refine ⟨C ++ (popW true w).1, rK μ (rT ν) :: (popW true w).2, rM_b (bP_e (bP_tr h0s j1 o1) (fun j => (xpi_ne (fun q => absurd q.1 (by decide))).trans (xpi_ne (fun q => absurd q.1 (by decide)))) (fun j => (xpi_ne (fun q => absurd q.1 (by decide))).trans (xpi_ne (fun q => absurd q.1 (by decide)))) ((xpi_ne (fun q => absurd q.2 (by decide))).trans (xpi_ne (fun q => absurd q.1 (by decide))))) hs266.1, rM_w (wS_c o2 (fun j hj => (xpi_ne (fun q => absurd q.1 (by decide))).trans (xpi_ne (fun q => hj (by omega)))) ?_ ?_) hs266.1, ?_, ?_⟩
            · rw [xpi_ne (fun q => absurd q.1 (by decide)), ← hidx, xpi_at]
              exact hK2.trans (by rw [rE_K hW.1])
            · rw [xpi_at]; exact n55
            · rw [List.count_cons_of_ne (by omega), popW_n, j3]
              unfold rQ
              rw [hs266.1.2.1 26 (by decide) (by decide) (by decide)]
              exact cq234.symm
            · have eq : rQ μ266 = rQ ν := by
                have q := hs266.1.2.1 26 (by decide) (by decide) (by decide)
                unfold rQ at cq234 ⊢
                rw [q]
                exact cq234
              rw [rE_K hW.1] at hst
              rw [j4, eq, z2, ct234, ys_sign (by omega) (by omega) hk, hst, List.append_assoc]) (by
            have e49 : μ266.1 75 49 = μ234.1 75 49 := hs266.1.2.1 49 (by decide) (by decide) (by decide)
            have e55 : (μ266.1 75 55).toInt = (μ234.1 75 55).toInt + 1 := by
              rw [hs266.1.2.1 55 (by decide) (by decide) (by decide), xpi_at, an_add (by rw [e1i]; omega) (by rw [e1i]; omega), e1i]
            obtain ⟨q1, q2, q3, q4⟩ := hn234
            have hb1 := hB.1
            have hb6 := hB.2.2.2.2.2
            rcases hg266 with ⟨k1, k2⟩ | ⟨k1, k2, k3⟩
            · have k1 : rT μ266 = rT μ234 := k1
              refine xB_mv hB (fun q => by exfalso; omega) (by omega) (by rw [e49]; exact q3) (fun q => by exfalso; omega) (fun q => ?_) (fun q => by exfalso; exact q f0) (by omega) (by omega)
              rw [e49]; omega
            · have k1 : rT μ266 = rT μ234 + 1 := k1
              have k3 : rT μ234 ≤ 399 := k3
              refine xB_mv hB (fun q => f0) (by omega) (by rw [e49]; exact q3) (fun q => ?_) (fun q => ?_) (fun q => ?_) (by omega) (by omega) <;> rw [e49] <;> omega) (rM_f (fP_e (fP_tr hP hn234.2.2.2 hB.2.1 hn234.2.2.1) (fun j => (xpi_ne (fun q => absurd q.1 (by decide))).trans (xpi_ne (fun q => absurd q.1 (by decide)))) (fun j => (xpi_ne (fun q => absurd q.1 (by decide))).trans (xpi_ne (fun q => absurd q.1 (by decide)))) ((xpi_ne (fun q => absurd q.2 (by decide))).trans (xpi_ne (fun q => absurd q.1 (by decide))))) hs266.1) hmo
        · replace c217 : ¬ ¬ (1 : Int) = (0 : Int) := c217
          exfalso
          omega
      · rw [hm] at h
        replace h : eT xq_230 _ 217 [some (.inr (.inl (some 75))), some (.inl bs), some (.inl mo)] [.inl (0 : Int32), .inr (.inl (some 75))] ν r μ' := h
        rcases tx_if (t := 229) (p' := 220) h em230_217 (by decide) rfl with ⟨c217_1, h⟩ | ⟨c217_1, h⟩
        · replace c217_1 : ¬ (0 : Int) = (0 : Int) := c217_1
          exfalso
          omega
        · replace c217_1 : ¬ ¬ (0 : Int) = (0 : Int) := c217_1
          replace h := tx_aload_n (p' := 221) h em230_220 rfl rfl
          replace h := tx_bipush (v := 15) (p' := 223) h em230_221 (by decide +kernel) rfl
          obtain ⟨r223, μ223, hE223, h⟩ := tx_invV (na := 2) (mn := 149) (as := [.inr (.inl (some 75)), .inl (15 : Int32)]) (rest := [.inr (.inl (some 75))]) (p' := 226) h em230_223 ((congrFun xo_12 218).trans rfl) xm_149 rfl rfl
          obtain ⟨hm, ⟨rfl, i2231, i2232, i2233⟩ | ⟨rfl, i2231⟩⟩ := ex_is hE223 (by decide)
          · rw [hm] at h
            replace h : eT xq_230 _ 226 [some (.inr (.inl (some 75))), some (.inl bs), some (.inl mo)] [.inl (1 : Int32), .inr (.inl (some 75))] ν r μ' := h
            rcases tx_if (t := 233) (p' := 229) h em230_226 (by decide) rfl with ⟨c226, h⟩ | ⟨c226, h⟩
            · replace c226 : (1 : Int) = (0 : Int) := c226
              exfalso
              omega
            · replace c226 : ¬ (1 : Int) = (0 : Int) := c226
              replace h := tx_iconst (v := 1) (p' := 230) h em230_229 (by decide +kernel) rfl
              replace h := tx_goto (t := 234) h em230_230 (by decide)
              obtain ⟨r234_1, μ234_1, hE234_1, h⟩ := tx_invV (na := 2) (mn := 229) (as := [.inr (.inl (some 75)), .inl (1 : Int32)]) (rest := []) (p' := 237) h em230_234 ((congrFun xo_12 316).trans rfl) xm_229 rfl rfl
              have hn234_1 := ex_co3 hE234_1
              have ho234_1 := fun (sb : Bool) (hs : sb = true ↔ ¬ ((1 : Int32)).toInt = 0) w h0s hW => ex_co2 (w := w) hE234_1 hs h0s hW
              obtain ⟨rfl, hc234_1⟩ := ex_comesOut hE234_1
              obtain ⟨ct234_1, cf234_1, cv234_1, cq234_1⟩ := rC_f hc234_1
              replace h : eT xq_230 _ 237 [some (.inr (.inl (some 75))), some (.inl bs), some (.inl mo)] [] μ234_1 r μ' := h
              replace h := tx_aload_n (p' := 238) h em230_237 rfl rfl
              replace h := tx_getc (c := 12) (j := 54) (p' := 241) h em230_238 ((congrFun xo_12 104).trans rfl) rfl rfl rfl
              replace h := tx_aload_n (p' := 242) h em230_241 rfl rfl
              replace h := tx_getf (c := 12) (j := 55) (p' := 245) h em230_242 ((congrFun xo_12 307).trans rfl) rfl rfl (by decide) rfl
              replace h := tx_aload_n (p' := 246) h em230_245 rfl rfl
              replace h := tx_getc (c := 12) (j := 19) (p' := 249) h em230_246 ((congrFun xo_12 20).trans rfl) rfl rfl rfl
              replace h := tx_aload_n (p' := 250) h em230_249 rfl rfl
              replace h := tx_getf (c := 12) (j := 25) (p' := 253) h em230_250 ((congrFun xo_12 203).trans rfl) rfl rfl (by decide) rfl
              obtain ⟨hb253_1, h⟩ := tx_iald (len := 403) (p' := 254) h em230_253 rfl rfl
              replace hb253_1 : (0 : Int) ≤ (μ234_1.1 75 25).toInt ∧ (μ234_1.1 75 25).toInt < 403 := hb253_1
              obtain ⟨hb254_1, h⟩ := tx_iast (len := 64) (p' := 255) h em230_254 rfl rfl
              replace hb254_1 : (0 : Int) ≤ (μ234_1.1 75 55).toInt ∧ (μ234_1.1 75 55).toInt < 64 := hb254_1
              replace h := tx_aload_n (p' := 256) h em230_255 rfl rfl
              replace h := tx_dup (p' := 257) h em230_256 rfl
              replace h := tx_getf (c := 12) (j := 55) (p' := 260) h em230_257 ((congrFun xo_12 307).trans rfl) rfl rfl (by decide) rfl
              replace h : eT xq_230 _ 260 [some (.inr (.inl (some 75))), some (.inl bs), some (.inl mo)] [.inl (μ234_1.1 75 55), .inr (.inl (some 75))] (xpi μ234_1 104 (μ234_1.1 75 55).toInt.toNat (μ234_1.1 78 (μ234_1.1 75 25).toInt.toNat)) r μ' := h
              replace h := tx_iconst (v := 1) (p' := 261) h em230_260 (by decide +kernel) rfl
              replace h := tx_iadd (p' := 262) h em230_261 rfl
              replace h := tx_putf (a := 75) (c := 12) (j := 55) (p' := 265) h em230_262 ((congrFun xo_12 307).trans rfl) rfl
              replace h := tx_aload_n (p' := 266) h em230_265 rfl rfl
              obtain ⟨r266_1, μ266_1, hE266_1, h⟩ := tx_invV (na := 1) (mn := 144) (as := [.inr (.inl (some 75))]) (rest := []) (p' := 269) h em230_266 ((congrFun xo_12 221).trans rfl) xm_144 rfl rfl
              have hg266_1 := ex_go3 hE266_1 (by have := hB.2.2.2.2.1; show 0 ≤ rT μ234_1; omega) (by have := hB.2.2.2.2.2; show rT μ234_1 ≤ 400; omega) (by have := (xWv_b hW).1; show 0 ≤ rF μ234_1; omega)
              obtain ⟨rfl, hs266_1⟩ := st_goesOn hE266_1 (fun q => by have q : rF μ234_1 = 0 := q; have := (xWv_b hW).2 (by omega); show 0 ≤ rT μ234_1 ∧ rT μ234_1 ≤ 400; omega)
              replace h : eT xq_230 _ 269 [some (.inr (.inl (some 75))), some (.inl bs), some (.inl mo)] [] μ266_1 r μ' := h
              obtain ⟨n2, hn2, h⟩ := tx_gotoS (t := 12) h em230_269 (by decide)
              exact (ih n2 hn2).1 _ _ _ h hbs (xWv_on hW (rE_f (rE_c (rC_E hc234_1) ⟨by decide, by decide⟩) (by omega)) (by exact ⟨ct234_1, cf234_1, cv234_1⟩) hs266_1 (fun f0 => by have := hW.2; show 0 ≤ rQ μ234_1 ∧ rQ μ234_1 ≤ 6; omega) (fun f0 h0 h3 => by show _ = xs _ _ (rQ μ234_1) _; rw [cq234_1]; exact xs_sign h0 h3 hk) (fun f0 h4 => xs_sign_f hk h4)) (fun hz => by
                have hz : rF μ266_1 = 0 := hz
                obtain ⟨z1, z2, z3⟩ := stM_on0 hs266_1 (by show 0 ≤ rF μ234_1; omega) hz
                have z2 : rT μ266_1 = rT μ234_1 + 1 := z2
                have z3 : ¬ rT μ234_1 = 400 := z3
                have hb := (xWv_b hW).2 f0
                obtain ⟨C, w, j1, j2, j3, j4⟩ := hJ f0
                have hst : isStr (rK ν (rT ν)) = true := by rw [i2232]; rfl
                obtain ⟨o1, o2⟩ := ho234_1 true ⟨fun _ => by decide, fun _ => rfl⟩ w (by have := j1.1; omega) j2
                have w55 := o2.1
                have n55 : ((μ234_1.1 75 55) + (1 : Int32)).toInt = ((popW true w).2.length : Int) + 1 := by rw [an_add (by rw [e1i]; omega) (by rw [e1i]; omega), e1i, w55]
                have hidx : (μ234_1.1 75 55).toInt.toNat = (popW true w).2.length := by omega
                have hK2 : rK μ234_1 (rT μ234_1) = rK ν (rT ν) := by rw [rE_K (rC_E hc234_1), ct234_1]
                refine ⟨C ++ (popW true w).1, rK μ (rT ν) :: (popW true w).2, rM_b (bP_e (bP_tr h0s j1 o1) (fun j => (xpi_ne (fun q => absurd q.1 (by decide))).trans (xpi_ne (fun q => absurd q.1 (by decide)))) (fun j => (xpi_ne (fun q => absurd q.1 (by decide))).trans (xpi_ne (fun q => absurd q.1 (by decide)))) ((xpi_ne (fun q => absurd q.2 (by decide))).trans (xpi_ne (fun q => absurd q.1 (by decide))))) hs266_1.1, rM_w (wS_c o2 (fun j hj => (xpi_ne (fun q => absurd q.1 (by decide))).trans (xpi_ne (fun q => hj (by omega)))) ?_ ?_) hs266_1.1, ?_, ?_⟩
                · rw [xpi_ne (fun q => absurd q.1 (by decide)), ← hidx, xpi_at]
                  exact hK2.trans (by rw [rE_K hW.1])
                · rw [xpi_at]; exact n55
                · rw [List.count_cons_of_ne (by omega), popW_n, j3]
                  unfold rQ
                  rw [hs266_1.1.2.1 26 (by decide) (by decide) (by decide)]
                  exact cq234_1.symm
                · have eq : rQ μ266_1 = rQ ν := by
                    have q := hs266_1.1.2.1 26 (by decide) (by decide) (by decide)
                    unfold rQ at cq234_1 ⊢
                    rw [q]
                    exact cq234_1
                  rw [rE_K hW.1] at hst
                  rw [j4, eq, z2, ct234_1, ys_sign (by omega) (by omega) hk, hst, List.append_assoc]) (by
                have e49 : μ266_1.1 75 49 = μ234_1.1 75 49 := hs266_1.1.2.1 49 (by decide) (by decide) (by decide)
                have e55 : (μ266_1.1 75 55).toInt = (μ234_1.1 75 55).toInt + 1 := by
                  rw [hs266_1.1.2.1 55 (by decide) (by decide) (by decide), xpi_at, an_add (by rw [e1i]; omega) (by rw [e1i]; omega), e1i]
                obtain ⟨q1, q2, q3, q4⟩ := hn234_1
                have hb1 := hB.1
                have hb6 := hB.2.2.2.2.2
                rcases hg266_1 with ⟨k1, k2⟩ | ⟨k1, k2, k3⟩
                · have k1 : rT μ266_1 = rT μ234_1 := k1
                  refine xB_mv hB (fun q => by exfalso; omega) (by omega) (by rw [e49]; exact q3) (fun q => by exfalso; omega) (fun q => ?_) (fun q => by exfalso; exact q f0) (by omega) (by omega)
                  rw [e49]; omega
                · have k1 : rT μ266_1 = rT μ234_1 + 1 := k1
                  have k3 : rT μ234_1 ≤ 399 := k3
                  refine xB_mv hB (fun q => f0) (by omega) (by rw [e49]; exact q3) (fun q => ?_) (fun q => ?_) (fun q => ?_) (by omega) (by omega) <;> rw [e49] <;> omega) (rM_f (fP_e (fP_tr hP hn234_1.2.2.2 hB.2.1 hn234_1.2.2.1) (fun j => (xpi_ne (fun q => absurd q.1 (by decide))).trans (xpi_ne (fun q => absurd q.1 (by decide)))) (fun j => (xpi_ne (fun q => absurd q.1 (by decide))).trans (xpi_ne (fun q => absurd q.1 (by decide)))) ((xpi_ne (fun q => absurd q.2 (by decide))).trans (xpi_ne (fun q => absurd q.1 (by decide))))) hs266_1.1) hmo
          · rw [hm] at h
            replace h : eT xq_230 _ 226 [some (.inr (.inl (some 75))), some (.inl bs), some (.inl mo)] [.inl (0 : Int32), .inr (.inl (some 75))] ν r μ' := h
            rcases tx_if (t := 233) (p' := 229) h em230_226 (by decide) rfl with ⟨c226_1, h⟩ | ⟨c226_1, h⟩
            · replace c226_1 : (0 : Int) = (0 : Int) := c226_1
              replace h := tx_iconst (v := 0) (p' := 234) h em230_233 (by decide +kernel) rfl
              obtain ⟨r234_2, μ234_2, hE234_2, h⟩ := tx_invV (na := 2) (mn := 229) (as := [.inr (.inl (some 75)), .inl (0 : Int32)]) (rest := []) (p' := 237) h em230_234 ((congrFun xo_12 316).trans rfl) xm_229 rfl rfl
              have hn234_2 := ex_co3 hE234_2
              have ho234_2 := fun (sb : Bool) (hs : sb = true ↔ ¬ ((0 : Int32)).toInt = 0) w h0s hW => ex_co2 (w := w) hE234_2 hs h0s hW
              obtain ⟨rfl, hc234_2⟩ := ex_comesOut hE234_2
              obtain ⟨ct234_2, cf234_2, cv234_2, cq234_2⟩ := rC_f hc234_2
              replace h : eT xq_230 _ 237 [some (.inr (.inl (some 75))), some (.inl bs), some (.inl mo)] [] μ234_2 r μ' := h
              replace h := tx_aload_n (p' := 238) h em230_237 rfl rfl
              replace h := tx_getc (c := 12) (j := 54) (p' := 241) h em230_238 ((congrFun xo_12 104).trans rfl) rfl rfl rfl
              replace h := tx_aload_n (p' := 242) h em230_241 rfl rfl
              replace h := tx_getf (c := 12) (j := 55) (p' := 245) h em230_242 ((congrFun xo_12 307).trans rfl) rfl rfl (by decide) rfl
              replace h := tx_aload_n (p' := 246) h em230_245 rfl rfl
              replace h := tx_getc (c := 12) (j := 19) (p' := 249) h em230_246 ((congrFun xo_12 20).trans rfl) rfl rfl rfl
              replace h := tx_aload_n (p' := 250) h em230_249 rfl rfl
              replace h := tx_getf (c := 12) (j := 25) (p' := 253) h em230_250 ((congrFun xo_12 203).trans rfl) rfl rfl (by decide) rfl
              obtain ⟨hb253_2, h⟩ := tx_iald (len := 403) (p' := 254) h em230_253 rfl rfl
              replace hb253_2 : (0 : Int) ≤ (μ234_2.1 75 25).toInt ∧ (μ234_2.1 75 25).toInt < 403 := hb253_2
              obtain ⟨hb254_2, h⟩ := tx_iast (len := 64) (p' := 255) h em230_254 rfl rfl
              replace hb254_2 : (0 : Int) ≤ (μ234_2.1 75 55).toInt ∧ (μ234_2.1 75 55).toInt < 64 := hb254_2
              replace h := tx_aload_n (p' := 256) h em230_255 rfl rfl
              replace h := tx_dup (p' := 257) h em230_256 rfl
              replace h := tx_getf (c := 12) (j := 55) (p' := 260) h em230_257 ((congrFun xo_12 307).trans rfl) rfl rfl (by decide) rfl
              replace h : eT xq_230 _ 260 [some (.inr (.inl (some 75))), some (.inl bs), some (.inl mo)] [.inl (μ234_2.1 75 55), .inr (.inl (some 75))] (xpi μ234_2 104 (μ234_2.1 75 55).toInt.toNat (μ234_2.1 78 (μ234_2.1 75 25).toInt.toNat)) r μ' := h
              replace h := tx_iconst (v := 1) (p' := 261) h em230_260 (by decide +kernel) rfl
              replace h := tx_iadd (p' := 262) h em230_261 rfl
              replace h := tx_putf (a := 75) (c := 12) (j := 55) (p' := 265) h em230_262 ((congrFun xo_12 307).trans rfl) rfl
              replace h := tx_aload_n (p' := 266) h em230_265 rfl rfl
              obtain ⟨r266_2, μ266_2, hE266_2, h⟩ := tx_invV (na := 1) (mn := 144) (as := [.inr (.inl (some 75))]) (rest := []) (p' := 269) h em230_266 ((congrFun xo_12 221).trans rfl) xm_144 rfl rfl
              have hg266_2 := ex_go3 hE266_2 (by have := hB.2.2.2.2.1; show 0 ≤ rT μ234_2; omega) (by have := hB.2.2.2.2.2; show rT μ234_2 ≤ 400; omega) (by have := (xWv_b hW).1; show 0 ≤ rF μ234_2; omega)
              obtain ⟨rfl, hs266_2⟩ := st_goesOn hE266_2 (fun q => by have q : rF μ234_2 = 0 := q; have := (xWv_b hW).2 (by omega); show 0 ≤ rT μ234_2 ∧ rT μ234_2 ≤ 400; omega)
              replace h : eT xq_230 _ 269 [some (.inr (.inl (some 75))), some (.inl bs), some (.inl mo)] [] μ266_2 r μ' := h
              obtain ⟨n2, hn2, h⟩ := tx_gotoS (t := 12) h em230_269 (by decide)
              exact (ih n2 hn2).1 _ _ _ h hbs (xWv_on hW (rE_f (rE_c (rC_E hc234_2) ⟨by decide, by decide⟩) (by omega)) (by exact ⟨ct234_2, cf234_2, cv234_2⟩) hs266_2 (fun f0 => by have := hW.2; show 0 ≤ rQ μ234_2 ∧ rQ μ234_2 ≤ 6; omega) (fun f0 h0 h3 => by show _ = xs _ _ (rQ μ234_2) _; rw [cq234_2]; exact xs_sign h0 h3 hk) (fun f0 h4 => xs_sign_f hk h4)) (fun hz => by
                have hz : rF μ266_2 = 0 := hz
                obtain ⟨z1, z2, z3⟩ := stM_on0 hs266_2 (by show 0 ≤ rF μ234_2; omega) hz
                have z2 : rT μ266_2 = rT μ234_2 + 1 := z2
                have z3 : ¬ rT μ234_2 = 400 := z3
                have hb := (xWv_b hW).2 f0
                obtain ⟨C, w, j1, j2, j3, j4⟩ := hJ f0
                have hst : isStr (rK ν (rT ν)) = false := decide_eq_false (fun q => by rcases q with q | q; exact i2141 ⟨f0, q⟩; exact i2231 ⟨f0, q⟩)
                obtain ⟨o1, o2⟩ := ho234_2 false ⟨fun q => absurd q (by decide), fun q => absurd (by decide) q⟩ w (by have := j1.1; omega) j2
                have w55 := o2.1
                have n55 : ((μ234_2.1 75 55) + (1 : Int32)).toInt = ((popW false w).2.length : Int) + 1 := by rw [an_add (by rw [e1i]; omega) (by rw [e1i]; omega), e1i, w55]
                have hidx : (μ234_2.1 75 55).toInt.toNat = (popW false w).2.length := by omega
                have hK2 : rK μ234_2 (rT μ234_2) = rK ν (rT ν) := by rw [rE_K (rC_E hc234_2), ct234_2]
                refine ⟨C ++ (popW false w).1, rK μ (rT ν) :: (popW false w).2, rM_b (bP_e (bP_tr h0s j1 o1) (fun j => (xpi_ne (fun q => absurd q.1 (by decide))).trans (xpi_ne (fun q => absurd q.1 (by decide)))) (fun j => (xpi_ne (fun q => absurd q.1 (by decide))).trans (xpi_ne (fun q => absurd q.1 (by decide)))) ((xpi_ne (fun q => absurd q.2 (by decide))).trans (xpi_ne (fun q => absurd q.1 (by decide))))) hs266_2.1, rM_w (wS_c o2 (fun j hj => (xpi_ne (fun q => absurd q.1 (by decide))).trans (xpi_ne (fun q => hj (by omega)))) ?_ ?_) hs266_2.1, ?_, ?_⟩
                · rw [xpi_ne (fun q => absurd q.1 (by decide)), ← hidx, xpi_at]
                  exact hK2.trans (by rw [rE_K hW.1])
                · rw [xpi_at]; exact n55
                · rw [List.count_cons_of_ne (by omega), popW_n, j3]
                  unfold rQ
                  rw [hs266_2.1.2.1 26 (by decide) (by decide) (by decide)]
                  exact cq234_2.symm
                · have eq : rQ μ266_2 = rQ ν := by
                    have q := hs266_2.1.2.1 26 (by decide) (by decide) (by decide)
                    unfold rQ at cq234_2 ⊢
                    rw [q]
                    exact cq234_2
                  rw [rE_K hW.1] at hst
                  rw [j4, eq, z2, ct234_2, ys_sign (by omega) (by omega) hk, hst, List.append_assoc]) (by
                have e49 : μ266_2.1 75 49 = μ234_2.1 75 49 := hs266_2.1.2.1 49 (by decide) (by decide) (by decide)
                have e55 : (μ266_2.1 75 55).toInt = (μ234_2.1 75 55).toInt + 1 := by
                  rw [hs266_2.1.2.1 55 (by decide) (by decide) (by decide), xpi_at, an_add (by rw [e1i]; omega) (by rw [e1i]; omega), e1i]
                obtain ⟨q1, q2, q3, q4⟩ := hn234_2
                have hb1 := hB.1
                have hb6 := hB.2.2.2.2.2
                rcases hg266_2 with ⟨k1, k2⟩ | ⟨k1, k2, k3⟩
                · have k1 : rT μ266_2 = rT μ234_2 := k1
                  refine xB_mv hB (fun q => by exfalso; omega) (by omega) (by rw [e49]; exact q3) (fun q => by exfalso; omega) (fun q => ?_) (fun q => by exfalso; exact q f0) (by omega) (by omega)
                  rw [e49]; omega
                · have k1 : rT μ266_2 = rT μ234_2 + 1 := k1
                  have k3 : rT μ234_2 ≤ 399 := k3
                  refine xB_mv hB (fun q => f0) (by omega) (by rw [e49]; exact q3) (fun q => ?_) (fun q => ?_) (fun q => ?_) (by omega) (by omega) <;> rw [e49] <;> omega) (rM_f (fP_e (fP_tr hP hn234_2.2.2.2 hB.2.1 hn234_2.2.2.1) (fun j => (xpi_ne (fun q => absurd q.1 (by decide))).trans (xpi_ne (fun q => absurd q.1 (by decide)))) (fun j => (xpi_ne (fun q => absurd q.1 (by decide))).trans (xpi_ne (fun q => absurd q.1 (by decide)))) ((xpi_ne (fun q => absurd q.2 (by decide))).trans (xpi_ne (fun q => absurd q.1 (by decide))))) hs266_2.1) hmo
            · replace c226_1 : ¬ (0 : Int) = (0 : Int) := c226_1
              exfalso
              omega
    have h145 : ∀ (o : Option zV) (bs : Int32) (ν : xM), eT xq_230 n 145 [some (.inr (.inl (some 75))), some (.inl bs), o] [] ν r μ' → bs.toInt = 0 → xWv μ ν true → xJ μ ν true → xB μ ν → fP μ ν → (rF ν = 0 → ¬ (rK μ (rT ν) = 41 ∧ 0 < rQ ν)) → ((rF μ' = 0 → bP μ μ' (ys (rK μ) (rVl μ) (rT μ) 0 false [])) ∧ eB μ μ' ∧ fP μ μ') := by
      intro o bs ν h hbs hW hJ hB hP hx
      replace h := tx_aload_n (p' := 146) h em230_145 rfl rfl
      replace h := tx_bipush (v := 8) (p' := 148) h em230_146 (by decide +kernel) rfl
      obtain ⟨r148, μ148, hE148, h⟩ := tx_invV (na := 2) (mn := 149) (as := [.inr (.inl (some 75)), .inl (8 : Int32)]) (rest := []) (p' := 151) h em230_148 ((congrFun xo_12 218).trans rfl) xm_149 rfl rfl
      obtain ⟨hm, ⟨rfl, i1481, i1482, i1483⟩ | ⟨rfl, i1481⟩⟩ := ex_is hE148 (by decide)
      · rw [hm] at h
        replace h : eT xq_230 _ 151 [some (.inr (.inl (some 75))), some (.inl bs), o] [.inl (1 : Int32)] ν r μ' := h
        rcases tx_if (t := 181) (p' := 154) h em230_151 (by decide) rfl with ⟨c151, h⟩ | ⟨c151, h⟩
        · replace c151 : ¬ (1 : Int) = (0 : Int) := c151
          replace h := tx_iconst (v := 1) (p' := 182) h em230_181 (by decide +kernel) rfl
          replace h := tx_goto (t := 186) h em230_182 (by decide)
          replace h := tx_istore_n (p' := 187) h em230_186 rfl
          replace h : eT xq_230 _ 187 [some (.inr (.inl (some 75))), some (.inl bs), some (.inl (1 : Int32))] [] ν r μ' := h
          replace h := tx_iload_n (p' := 188) h em230_187 rfl rfl
          rcases tx_if (t := 210) (p' := 191) h em230_188 (by decide) rfl with ⟨c188, h⟩ | ⟨c188, h⟩
          · replace c188 : ¬ (1 : Int) = (0 : Int) := c188
            exact h210 _ _ h hbs hW hJ hB hP i1481 (by rw [← rE_K hW.1, i1482]; decide) (by decide)
          · replace c188 : ¬ ¬ (1 : Int) = (0 : Int) := c188
            exfalso
            omega
        · replace c151 : ¬ ¬ (1 : Int) = (0 : Int) := c151
          exfalso
          omega
      · rw [hm] at h
        replace h : eT xq_230 _ 151 [some (.inr (.inl (some 75))), some (.inl bs), o] [.inl (0 : Int32)] ν r μ' := h
        rcases tx_if (t := 181) (p' := 154) h em230_151 (by decide) rfl with ⟨c151_1, h⟩ | ⟨c151_1, h⟩
        · replace c151_1 : ¬ (0 : Int) = (0 : Int) := c151_1
          exfalso
          omega
        · replace c151_1 : ¬ ¬ (0 : Int) = (0 : Int) := c151_1
          replace h := tx_aload_n (p' := 155) h em230_154 rfl rfl
          replace h := tx_bipush (v := 9) (p' := 157) h em230_155 (by decide +kernel) rfl
          obtain ⟨r157, μ157, hE157, h⟩ := tx_invV (na := 2) (mn := 149) (as := [.inr (.inl (some 75)), .inl (9 : Int32)]) (rest := []) (p' := 160) h em230_157 ((congrFun xo_12 218).trans rfl) xm_149 rfl rfl
          obtain ⟨hm, ⟨rfl, i1571, i1572, i1573⟩ | ⟨rfl, i1571⟩⟩ := ex_is hE157 (by decide)
          · rw [hm] at h
            replace h : eT xq_230 _ 160 [some (.inr (.inl (some 75))), some (.inl bs), o] [.inl (1 : Int32)] ν r μ' := h
            rcases tx_if (t := 181) (p' := 163) h em230_160 (by decide) rfl with ⟨c160, h⟩ | ⟨c160, h⟩
            · replace c160 : ¬ (1 : Int) = (0 : Int) := c160
              replace h := tx_iconst (v := 1) (p' := 182) h em230_181 (by decide +kernel) rfl
              replace h := tx_goto (t := 186) h em230_182 (by decide)
              replace h := tx_istore_n (p' := 187) h em230_186 rfl
              replace h : eT xq_230 _ 187 [some (.inr (.inl (some 75))), some (.inl bs), some (.inl (1 : Int32))] [] ν r μ' := h
              replace h := tx_iload_n (p' := 188) h em230_187 rfl rfl
              rcases tx_if (t := 210) (p' := 191) h em230_188 (by decide) rfl with ⟨c188_1, h⟩ | ⟨c188_1, h⟩
              · replace c188_1 : ¬ (1 : Int) = (0 : Int) := c188_1
                exact h210 _ _ h hbs hW hJ hB hP i1571 (by rw [← rE_K hW.1, i1572]; decide) (by decide)
              · replace c188_1 : ¬ ¬ (1 : Int) = (0 : Int) := c188_1
                exfalso
                omega
            · replace c160 : ¬ ¬ (1 : Int) = (0 : Int) := c160
              exfalso
              omega
          · rw [hm] at h
            replace h : eT xq_230 _ 160 [some (.inr (.inl (some 75))), some (.inl bs), o] [.inl (0 : Int32)] ν r μ' := h
            rcases tx_if (t := 181) (p' := 163) h em230_160 (by decide) rfl with ⟨c160_1, h⟩ | ⟨c160_1, h⟩
            · replace c160_1 : ¬ (0 : Int) = (0 : Int) := c160_1
              exfalso
              omega
            · replace c160_1 : ¬ ¬ (0 : Int) = (0 : Int) := c160_1
              replace h := tx_aload_n (p' := 164) h em230_163 rfl rfl
              replace h := tx_bipush (v := 10) (p' := 166) h em230_164 (by decide +kernel) rfl
              obtain ⟨r166, μ166, hE166, h⟩ := tx_invV (na := 2) (mn := 149) (as := [.inr (.inl (some 75)), .inl (10 : Int32)]) (rest := []) (p' := 169) h em230_166 ((congrFun xo_12 218).trans rfl) xm_149 rfl rfl
              obtain ⟨hm, ⟨rfl, i1661, i1662, i1663⟩ | ⟨rfl, i1661⟩⟩ := ex_is hE166 (by decide)
              · rw [hm] at h
                replace h : eT xq_230 _ 169 [some (.inr (.inl (some 75))), some (.inl bs), o] [.inl (1 : Int32)] ν r μ' := h
                rcases tx_if (t := 181) (p' := 172) h em230_169 (by decide) rfl with ⟨c169, h⟩ | ⟨c169, h⟩
                · replace c169 : ¬ (1 : Int) = (0 : Int) := c169
                  replace h := tx_iconst (v := 1) (p' := 182) h em230_181 (by decide +kernel) rfl
                  replace h := tx_goto (t := 186) h em230_182 (by decide)
                  replace h := tx_istore_n (p' := 187) h em230_186 rfl
                  replace h : eT xq_230 _ 187 [some (.inr (.inl (some 75))), some (.inl bs), some (.inl (1 : Int32))] [] ν r μ' := h
                  replace h := tx_iload_n (p' := 188) h em230_187 rfl rfl
                  rcases tx_if (t := 210) (p' := 191) h em230_188 (by decide) rfl with ⟨c188_2, h⟩ | ⟨c188_2, h⟩
                  · replace c188_2 : ¬ (1 : Int) = (0 : Int) := c188_2
                    exact h210 _ _ h hbs hW hJ hB hP i1661 (by rw [← rE_K hW.1, i1662]; decide) (by decide)
                  · replace c188_2 : ¬ ¬ (1 : Int) = (0 : Int) := c188_2
                    exfalso
                    omega
                · replace c169 : ¬ ¬ (1 : Int) = (0 : Int) := c169
                  exfalso
                  omega
              · rw [hm] at h
                replace h : eT xq_230 _ 169 [some (.inr (.inl (some 75))), some (.inl bs), o] [.inl (0 : Int32)] ν r μ' := h
                rcases tx_if (t := 181) (p' := 172) h em230_169 (by decide) rfl with ⟨c169_1, h⟩ | ⟨c169_1, h⟩
                · replace c169_1 : ¬ (0 : Int) = (0 : Int) := c169_1
                  exfalso
                  omega
                · replace c169_1 : ¬ ¬ (0 : Int) = (0 : Int) := c169_1
                  replace h := tx_aload_n (p' := 173) h em230_172 rfl rfl
                  replace h := tx_bipush (v := 15) (p' := 175) h em230_173 (by decide +kernel) rfl
                  obtain ⟨r175, μ175, hE175, h⟩ := tx_invV (na := 2) (mn := 149) (as := [.inr (.inl (some 75)), .inl (15 : Int32)]) (rest := []) (p' := 178) h em230_175 ((congrFun xo_12 218).trans rfl) xm_149 rfl rfl
                  obtain ⟨hm, ⟨rfl, i1751, i1752, i1753⟩ | ⟨rfl, i1751⟩⟩ := ex_is hE175 (by decide)
                  · rw [hm] at h
                    replace h : eT xq_230 _ 178 [some (.inr (.inl (some 75))), some (.inl bs), o] [.inl (1 : Int32)] ν r μ' := h
                    rcases tx_if (t := 185) (p' := 181) h em230_178 (by decide) rfl with ⟨c178, h⟩ | ⟨c178, h⟩
                    · replace c178 : (1 : Int) = (0 : Int) := c178
                      exfalso
                      omega
                    · replace c178 : ¬ (1 : Int) = (0 : Int) := c178
                      replace h := tx_iconst (v := 1) (p' := 182) h em230_181 (by decide +kernel) rfl
                      replace h := tx_goto (t := 186) h em230_182 (by decide)
                      replace h := tx_istore_n (p' := 187) h em230_186 rfl
                      replace h : eT xq_230 _ 187 [some (.inr (.inl (some 75))), some (.inl bs), some (.inl (1 : Int32))] [] ν r μ' := h
                      replace h := tx_iload_n (p' := 188) h em230_187 rfl rfl
                      rcases tx_if (t := 210) (p' := 191) h em230_188 (by decide) rfl with ⟨c188_3, h⟩ | ⟨c188_3, h⟩
                      · replace c188_3 : ¬ (1 : Int) = (0 : Int) := c188_3
                        exact h210 _ _ h hbs hW hJ hB hP i1751 (by rw [← rE_K hW.1, i1752]; decide) (by decide)
                      · replace c188_3 : ¬ ¬ (1 : Int) = (0 : Int) := c188_3
                        exfalso
                        omega
                  · rw [hm] at h
                    replace h : eT xq_230 _ 178 [some (.inr (.inl (some 75))), some (.inl bs), o] [.inl (0 : Int32)] ν r μ' := h
                    rcases tx_if (t := 185) (p' := 181) h em230_178 (by decide) rfl with ⟨c178_1, h⟩ | ⟨c178_1, h⟩
                    · replace c178_1 : (0 : Int) = (0 : Int) := c178_1
                      replace h := tx_iconst (v := 0) (p' := 186) h em230_185 (by decide +kernel) rfl
                      replace h := tx_istore_n (p' := 187) h em230_186 rfl
                      replace h : eT xq_230 _ 187 [some (.inr (.inl (some 75))), some (.inl bs), some (.inl (0 : Int32))] [] ν r μ' := h
                      replace h := tx_iload_n (p' := 188) h em230_187 rfl rfl
                      rcases tx_if (t := 210) (p' := 191) h em230_188 (by decide) rfl with ⟨c188_4, h⟩ | ⟨c188_4, h⟩
                      · replace c188_4 : ¬ (0 : Int) = (0 : Int) := c188_4
                        exfalso
                        omega
                      · replace c188_4 : ¬ ¬ (0 : Int) = (0 : Int) := c188_4
                        replace h := tx_aload_n (p' := 192) h em230_191 rfl rfl
                        replace h := tx_getf (c := 12) (j := 26) (p' := 195) h em230_192 ((congrFun xo_12 227).trans rfl) rfl rfl (by decide) rfl
                        replace h := tx_iload_n (p' := 196) h em230_195 rfl rfl
                        rcases tx_icmp (t := 204) (p' := 199) h em230_196 (by decide) rfl with ⟨c196, h⟩ | ⟨c196, h⟩
                        · replace c196 : (ν.1 75 26).toInt ≤ bs.toInt := c196
                          replace h := tx_aload_n (p' := 205) h em230_204 rfl rfl
                          replace h := tx_iconst (v := 0) (p' := 206) h em230_205 (by decide +kernel) rfl
                          obtain ⟨r206, μ206, hE206, h⟩ := tx_invV (na := 2) (mn := 229) (as := [.inr (.inl (some 75)), .inl (0 : Int32)]) (rest := []) (p' := 209) h em230_206 ((congrFun xo_12 316).trans rfl) xm_229 rfl rfl
                          have hn206 := ex_co3 hE206
                          have ho206 := fun (sb : Bool) (hs : sb = true ↔ ¬ ((0 : Int32)).toInt = 0) w h0s hW => ex_co2 (w := w) hE206 hs h0s hW
                          obtain ⟨rfl, hc206⟩ := ex_comesOut hE206
                          obtain ⟨ct206, cf206, cv206, cq206⟩ := rC_f hc206
                          replace h : eT xq_230 _ 209 [some (.inr (.inl (some 75))), some (.inl bs), some (.inl (0 : Int32))] [] μ206 r μ' := h
                          obtain ⟨rfl, hμ⟩ := tx_return h em230_209
                          have hQ2 : rQ ν ≤ 0 := by unfold rQ; omega
                          have kn : rF ν = 0 → ¬ rK μ (rT ν) = 43 ∧ ¬ rK μ (rT ν) = 45 ∧ ¬ rK μ (rT ν) = 42 ∧ ¬ rK μ (rT ν) = 47 := fun f0 => by rw [← rE_K hW.1]; exact ⟨fun q => i1481 ⟨f0, q⟩, fun q => i1571 ⟨f0, q⟩, fun q => i1661 ⟨f0, q⟩, fun q => i1751 ⟨f0, q⟩⟩
                          rw [hμ]
                          refine ⟨fun hz => ?_, ?_, fP_tr hP hn206.2.2.2 hB.2.1 hn206.2.2.1⟩
                          rotate_left
                          · obtain ⟨q1, q2, q3, q4⟩ := hn206
                            have hb1 := hB.1
                            exact xB_out (xB_mv hB (fun q => by omega) (q2 hb1) q3 (fun q => by omega) (fun q => by omega) (fun q => by omega) (by omega) (by have := hB.2.2.2.2.2; omega))
                          have f0 : rF ν = 0 := by have hz : rF μ206 = 0 := hz; omega
                          have hb := (xWv_b hW).2 f0
                          obtain ⟨C, w, j1, j2, j3, j4⟩ := hJ f0
                          have hq0 : rQ ν = 0 := by have := hW.2; omega
                          obtain ⟨o1, o2⟩ := ho206 false ⟨fun q => absurd q (by decide), fun q => absurd (by decide) q⟩ w (by have := j1.1; omega) j2
                          obtain ⟨n1, n2, n3, n4⟩ := kn f0
                          rw [j4, ys_end (by omega) (by omega) (by omega) (by omega)]
                          exact bP_tr h0s j1 o1
                        · replace c196 : ¬ (ν.1 75 26).toInt ≤ bs.toInt := c196
                          replace h := tx_aload_n (p' := 200) h em230_199 rfl rfl
                          replace h := tx_iconst (v := 1) (p' := 201) h em230_200 (by decide +kernel) rfl
                          obtain ⟨r201, μ201, hE201, h⟩ := tx_invV (na := 2) (mn := 133) (as := [.inr (.inl (some 75)), .inl (1 : Int32)]) (rest := []) (p' := 204) h em230_201 ((congrFun xo_12 215).trans rfl) xm_133 rfl rfl
                          have hf201 := ex_fl3 hE201 (by decide)
                          obtain ⟨rfl, hs201⟩ := st_fail (f0 := 1) hE201 (by decide) (by decide)
                          replace h : eT xq_230 _ 204 [some (.inr (.inl (some 75))), some (.inl bs), some (.inl (0 : Int32))] [] μ201 r μ' := h
                          replace h := tx_aload_n (p' := 205) h em230_204 rfl rfl
                          replace h := tx_iconst (v := 0) (p' := 206) h em230_205 (by decide +kernel) rfl
                          obtain ⟨r206_1, μ206_1, hE206_1, h⟩ := tx_invV (na := 2) (mn := 229) (as := [.inr (.inl (some 75)), .inl (0 : Int32)]) (rest := []) (p' := 209) h em230_206 ((congrFun xo_12 316).trans rfl) xm_229 rfl rfl
                          have hn206_1 := ex_co3 hE206_1
                          have ho206_1 := fun (sb : Bool) (hs : sb = true ↔ ¬ ((0 : Int32)).toInt = 0) w h0s hW => ex_co2 (w := w) hE206_1 hs h0s hW
                          obtain ⟨rfl, hc206_1⟩ := ex_comesOut hE206_1
                          obtain ⟨ct206_1, cf206_1, cv206_1, cq206_1⟩ := rC_f hc206_1
                          replace h : eT xq_230 _ 209 [some (.inr (.inl (some 75))), some (.inl bs), some (.inl (0 : Int32))] [] μ206_1 r μ' := h
                          obtain ⟨rfl, hμ⟩ := tx_return h em230_209
                          have hQ2 : 0 < rQ ν := by unfold rQ; omega
                          have kn : rF ν = 0 → ¬ rK μ (rT ν) = 43 ∧ ¬ rK μ (rT ν) = 45 ∧ ¬ rK μ (rT ν) = 42 ∧ ¬ rK μ (rT ν) = 47 := fun f0 => by rw [← rE_K hW.1]; exact ⟨fun q => i1481 ⟨f0, q⟩, fun q => i1571 ⟨f0, q⟩, fun q => i1661 ⟨f0, q⟩, fun q => i1751 ⟨f0, q⟩⟩
                          rw [hμ]
                          refine ⟨fun hz => ?_, ?_, ?_⟩
                          · exfalso
                            have hz : rF μ206_1 = 0 := hz
                            exact stM_fl0 hs201 (by decide) (xWv_b hW).1 (by omega)
                          · obtain ⟨k1, k2, k3, k4⟩ := hf201
                            obtain ⟨q1, q2, q3, q4⟩ := hn206_1
                            rw [k3, k4] at q1
                            rw [k4] at q2
                            rw [k3] at q3
                            have hb1 := hB.1
                            refine xB_out (xB_mv hB (fun q => by exfalso; omega) (q2 hb1) q3 (fun q => by exfalso; omega) (fun q => by omega) (fun q => by omega) (by omega) (by have := hB.2.2.2.2.2; omega))
                          · have g4 := fP_tr hP (fP_l hn206_1.2.2.2 (fun j => hs201.1.1 101 j (by decide)) (fun j => hs201.1.1 102 j (by decide)) hf201.2.2.1) hB.2.1 (by have := hn206_1.2.2.1; rw [hf201.2.2.1] at this; exact this)
                            exact g4
                    · replace c178_1 : ¬ (0 : Int) = (0 : Int) := c178_1
                      exfalso
                      omega
    have h96 : ∀ (o : Option zV) (bs : Int32) (ν : xM), eT xq_230 n 96 [some (.inr (.inl (some 75))), some (.inl bs), o] [] ν r μ' → bs.toInt = 0 → xWv μ ν true → xJ μ ν true → xB μ ν → fP μ ν → ((rF μ' = 0 → bP μ μ' (ys (rK μ) (rVl μ) (rT μ) 0 false [])) ∧ eB μ μ' ∧ fP μ μ') := by
      intro o bs ν h hbs hW hJ hB hP
      replace h := tx_aload_n (p' := 97) h em230_96 rfl rfl
      replace h := tx_bipush (v := 7) (p' := 99) h em230_97 (by decide +kernel) rfl
      obtain ⟨r99, μ99, hE99, h⟩ := tx_invV (na := 2) (mn := 149) (as := [.inr (.inl (some 75)), .inl (7 : Int32)]) (rest := []) (p' := 102) h em230_99 ((congrFun xo_12 218).trans rfl) xm_149 rfl rfl
      obtain ⟨hm, ⟨rfl, i991, i992, i993⟩ | ⟨rfl, i991⟩⟩ := ex_is hE99 (by decide)
      · rw [hm] at h
        replace h : eT xq_230 _ 102 [some (.inr (.inl (some 75))), some (.inl bs), o] [.inl (1 : Int32)] ν r μ' := h
        rcases tx_if (t := 145) (p' := 105) h em230_102 (by decide) rfl with ⟨c102, h⟩ | ⟨c102, h⟩
        · replace c102 : (1 : Int) = (0 : Int) := c102
          exfalso
          omega
        · replace c102 : ¬ (1 : Int) = (0 : Int) := c102
          replace h := tx_aload_n (p' := 106) h em230_105 rfl rfl
          replace h := tx_getf (c := 12) (j := 26) (p' := 109) h em230_106 ((congrFun xo_12 227).trans rfl) rfl rfl (by decide) rfl
          replace h := tx_iload_n (p' := 110) h em230_109 rfl rfl
          rcases tx_icmp (t := 145) (p' := 113) h em230_110 (by decide) rfl with ⟨c110, h⟩ | ⟨c110, h⟩
          · replace c110 : (ν.1 75 26).toInt ≤ bs.toInt := c110
            exact h145 _ _ _ h hbs hW hJ hB hP (fun f0 q => by have q2 := q.2; unfold rQ at q2; omega)
          · replace c110 : ¬ (ν.1 75 26).toInt ≤ bs.toInt := c110
            replace h := tx_aload_n (p' := 114) h em230_113 rfl rfl
            replace h := tx_iconst (v := 0) (p' := 115) h em230_114 (by decide +kernel) rfl
            obtain ⟨r115, μ115, hE115, h⟩ := tx_invV (na := 2) (mn := 229) (as := [.inr (.inl (some 75)), .inl (0 : Int32)]) (rest := []) (p' := 118) h em230_115 ((congrFun xo_12 316).trans rfl) xm_229 rfl rfl
            have hn115 := ex_co3 hE115
            have ho115 := fun (sb : Bool) (hs : sb = true ↔ ¬ ((0 : Int32)).toInt = 0) w h0s hW => ex_co2 (w := w) hE115 hs h0s hW
            obtain ⟨rfl, hc115⟩ := ex_comesOut hE115
            obtain ⟨ct115, cf115, cv115, cq115⟩ := rC_f hc115
            replace h : eT xq_230 _ 118 [some (.inr (.inl (some 75))), some (.inl bs), o] [] μ115 r μ' := h
            replace h := tx_aload_n (p' := 119) h em230_118 rfl rfl
            replace h := tx_dup (p' := 120) h em230_119 rfl
            replace h := tx_getf (c := 12) (j := 55) (p' := 123) h em230_120 ((congrFun xo_12 307).trans rfl) rfl rfl (by decide) rfl
            replace h := tx_iconst (v := 1) (p' := 124) h em230_123 (by decide +kernel) rfl
            replace h := tx_isub (p' := 125) h em230_124 rfl
            replace h := tx_putf (a := 75) (c := 12) (j := 55) (p' := 128) h em230_125 ((congrFun xo_12 307).trans rfl) rfl
            replace h := tx_aload_n (p' := 129) h em230_128 rfl rfl
            replace h := tx_dup (p' := 130) h em230_129 rfl
            replace h := tx_getf (c := 12) (j := 26) (p' := 133) h em230_130 ((congrFun xo_12 227).trans rfl) rfl rfl (by decide) rfl
            replace h : eT xq_230 _ 133 [some (.inr (.inl (some 75))), some (.inl bs), o] [.inl (μ115.1 75 26), .inr (.inl (some 75))] (xpi μ115 75 55 ((μ115.1 75 55) - (1 : Int32))) r μ' := h
            replace h := tx_iconst (v := 1) (p' := 134) h em230_133 (by decide +kernel) rfl
            replace h := tx_isub (p' := 135) h em230_134 rfl
            replace h := tx_putf (a := 75) (c := 12) (j := 26) (p' := 138) h em230_135 ((congrFun xo_12 227).trans rfl) rfl
            replace h := tx_aload_n (p' := 139) h em230_138 rfl rfl
            obtain ⟨r139, μ139, hE139, h⟩ := tx_invV (na := 1) (mn := 144) (as := [.inr (.inl (some 75))]) (rest := []) (p' := 142) h em230_139 ((congrFun xo_12 221).trans rfl) xm_144 rfl rfl
            have hg139 := ex_go3 hE139 (by have := hB.2.2.2.2.1; show 0 ≤ rT μ115; omega) (by have := hB.2.2.2.2.2; show rT μ115 ≤ 400; omega) (by have := (xWv_b hW).1; show 0 ≤ rF μ115; omega)
            obtain ⟨rfl, hs139⟩ := st_goesOn hE139 (fun q => by have q : rF μ115 = 0 := q; have := (xWv_b hW).2 (by omega); show 0 ≤ rT μ115 ∧ rT μ115 ≤ 400; omega)
            replace h : eT xq_230 _ 142 [some (.inr (.inl (some 75))), some (.inl bs), o] [] μ139 r μ' := h
            obtain ⟨n2, hn2, h⟩ := tx_gotoS (t := 96) h em230_142 (by decide)
            have hQ1 : 0 < rQ ν := by unfold rQ; omega
            have hQ6 : rQ ν ≤ 6 := by have := hW.2; omega
            have eQ : rQ (xpi (xpi μ115 75 55 (μ115.1 75 55 - 1)) 75 26 (μ115.1 75 26 - 1)) = rQ ν - 1 := by rw [rQ_p, rQ_dec (by omega) (by omega), cq115]
            have hk : rK μ (rT ν) = 41 := by rw [← rE_K hW.1, i992]; decide
            exact (ih n2 hn2).2.2 _ _ _ h hbs (xWv_on hW (rE_f (rE_f (rC_E hc115) (by omega)) (by omega)) (by exact ⟨ct115, cf115, cv115⟩) hs139 (fun f0 => by rw [eQ]; omega) (fun f0 h0 h3 => by rw [eQ]; exact xs_close h0 h3 hk hQ1) (fun f0 h4 => xs_close_f hk hQ1 h4)) (fun hz => by
              have hz : rF μ139 = 0 := hz
              obtain ⟨z1, z2, z3⟩ := stM_on0 hs139 (by show 0 ≤ rF μ115; have := (xWv_b hW).1; omega) hz
              have z1 : rF μ115 = 0 := z1
              have z2 : rT μ139 = rT μ115 + 1 := z2
              have z3 : ¬ rT μ115 = 400 := z3
              have f0 : rF ν = 0 := by omega
              have hb := (xWv_b hW).2 f0
              obtain ⟨C, w, j1, j2, j3, j4⟩ := hJ f0
              obtain ⟨o1, o2⟩ := ho115 false ⟨fun q => absurd q (by decide), fun q => absurd (by decide) q⟩ w (by have := j1.1; omega) j2
              obtain ⟨w3, p1, p2⟩ := popW_o w (by omega)
              rw [p1] at o2
              have w55 := o2.1
              rw [List.length_cons] at w55
              have n55 : ((μ115.1 75 55) - (1 : Int32)).toInt = (w3.length : Int) := by rw [an_sub (by rw [e1i]; omega) (by rw [e1i]; have := an_hi (μ115.1 75 55); omega), e1i, w55]; omega
              have eq : rQ μ139 = rQ ν - 1 := by
                rw [← eQ]
                unfold rQ
                exact congrArg Int32.toInt (hs139.1.2.1 26 (by decide) (by decide) (by decide))
              refine ⟨C ++ (popW false w).1, w3, rM_b (bP_e (bP_tr h0s j1 o1) (fun j => (xpi_ne (fun q => absurd q.1 (by decide))).trans (xpi_ne (fun q => absurd q.1 (by decide)))) (fun j => (xpi_ne (fun q => absurd q.1 (by decide))).trans (xpi_ne (fun q => absurd q.1 (by decide)))) ((xpi_ne (fun q => absurd q.2 (by decide))).trans (xpi_ne (fun q => absurd q.2 (by decide))))) hs139.1, rM_w (wS_t o2 (fun j => (xpi_ne (fun q => absurd q.1 (by decide))).trans (xpi_ne (fun q => absurd q.1 (by decide)))) ?_) hs139.1, by omega, ?_⟩
              · rw [xpi_ne (fun q => absurd q.2 (by decide)), xpi_at]; exact n55
              · rw [j4, eq, z2, ct115, ys_close (by omega) (by omega) hk (by omega), p1, List.append_assoc]
                rfl) (by
              have hc0 : rF ν = 0 := i991
              obtain ⟨C, w, j1, j2, j3, j4⟩ := hJ hc0
              obtain ⟨o1, o2⟩ := ho115 false ⟨fun q => absurd q (by decide), fun q => absurd (by decide) q⟩ w (by have := j1.1; omega) j2
              obtain ⟨w3, p1, p2⟩ := popW_o w (by omega)
              rw [p1] at o2
              have w55 := o2.1
              rw [List.length_cons] at w55
              have n55 : ((μ115.1 75 55) - (1 : Int32)).toInt = (w3.length : Int) := by rw [an_sub (by rw [e1i]; omega) (by rw [e1i]; have := an_hi (μ115.1 75 55); omega), e1i, w55]; omega
              have e49 : μ139.1 75 49 = μ115.1 75 49 := hs139.1.2.1 49 (by decide) (by decide) (by decide)
              have e55 : (μ139.1 75 55).toInt = (w3.length : Int) := by
                rw [hs139.1.2.1 55 (by decide) (by decide) (by decide), xpi_ne (fun q => absurd q.2 (by decide)), xpi_at]
                exact n55
              obtain ⟨q1, q2, q3, q4⟩ := hn115
              have hb6 := hB.2.2.2.2.2
              rcases hg139 with ⟨k1, k2⟩ | ⟨k1, k2, k3⟩
              · have k1 : rT μ139 = rT μ115 := k1
                refine xB_mv hB (fun q => by exfalso; omega) (by omega) (by rw [e49]; exact q3) (fun q => by exfalso; omega) (fun q => ?_) (fun q => absurd hc0 q) (by omega) (by omega)
                rw [e49]; omega
              · have k1 : rT μ139 = rT μ115 + 1 := k1
                have k3 : rT μ115 ≤ 399 := k3
                refine xB_mv hB (fun q => hc0) (by omega) (by rw [e49]; exact q3) (fun q => ?_) (fun q => ?_) (fun q => ?_) (by omega) (by omega) <;> rw [e49] <;> omega) (rM_f (fP_e (fP_tr hP hn115.2.2.2 hB.2.1 hn115.2.2.1) (fun j => (xpi_ne (fun q => absurd q.1 (by decide))).trans (xpi_ne (fun q => absurd q.1 (by decide)))) (fun j => (xpi_ne (fun q => absurd q.1 (by decide))).trans (xpi_ne (fun q => absurd q.1 (by decide)))) ((xpi_ne (fun q => absurd q.2 (by decide))).trans (xpi_ne (fun q => absurd q.2 (by decide))))) hs139.1)
      · rw [hm] at h
        replace h : eT xq_230 _ 102 [some (.inr (.inl (some 75))), some (.inl bs), o] [.inl (0 : Int32)] ν r μ' := h
        rcases tx_if (t := 145) (p' := 105) h em230_102 (by decide) rfl with ⟨c102_1, h⟩ | ⟨c102_1, h⟩
        · replace c102_1 : (0 : Int) = (0 : Int) := c102_1
          exact h145 _ _ _ h hbs hW hJ hB hP (fun f0 q => i991 ⟨f0, by rw [rE_K hW.1]; exact q.1⟩)
        · replace c102_1 : ¬ (0 : Int) = (0 : Int) := c102_1
          exfalso
          omega
    have h23 : ∀ (mo bs : Int32) (ν : xM), eT xq_230 n 23 [some (.inr (.inl (some 75))), some (.inl bs), some (.inl mo)] [] ν r μ' → bs.toInt = 0 → xWv μ ν false → xJ μ ν false → xB μ ν → fP μ ν → ((rF μ' = 0 → bP μ μ' (ys (rK μ) (rVl μ) (rT μ) 0 false [])) ∧ eB μ μ' ∧ fP μ μ') := by
      intro mo bs ν h hbs hW hJ hB hP
      replace h := tx_aload_n (p' := 24) h em230_23 rfl rfl
      replace h := tx_bipush (v := 6) (p' := 26) h em230_24 (by decide +kernel) rfl
      obtain ⟨r26, μ26, hE26, h⟩ := tx_invV (na := 2) (mn := 149) (as := [.inr (.inl (some 75)), .inl (6 : Int32)]) (rest := []) (p' := 29) h em230_26 ((congrFun xo_12 218).trans rfl) xm_149 rfl rfl
      obtain ⟨hm, ⟨rfl, i261, i262, i263⟩ | ⟨rfl, i261⟩⟩ := ex_is hE26 (by decide)
      · rw [hm] at h
        replace h : eT xq_230 _ 29 [some (.inr (.inl (some 75))), some (.inl bs), some (.inl mo)] [.inl (1 : Int32)] ν r μ' := h
        rcases tx_if (t := 84) (p' := 32) h em230_29 (by decide) rfl with ⟨c29, h⟩ | ⟨c29, h⟩
        · replace c29 : (1 : Int) = (0 : Int) := c29
          exfalso
          omega
        · replace c29 : ¬ (1 : Int) = (0 : Int) := c29
          replace h := tx_aload_n (p' := 33) h em230_32 rfl rfl
          replace h := tx_getf (c := 12) (j := 26) (p' := 36) h em230_33 ((congrFun xo_12 227).trans rfl) rfl rfl (by decide) rfl
          replace h := tx_bipush (v := 6) (p' := 38) h em230_36 (by decide +kernel) rfl
          rcases tx_icmp (t := 46) (p' := 41) h em230_38 (by decide) rfl with ⟨c38, h⟩ | ⟨c38, h⟩
          · replace c38 : ¬ (ν.1 75 26).toInt = 6 := c38
            
            replace h := tx_aload_n (p' := 47) h em230_46 rfl rfl
            replace h := tx_dup (p' := 48) h em230_47 rfl
            replace h := tx_getf (c := 12) (j := 26) (p' := 51) h em230_48 ((congrFun xo_12 227).trans rfl) rfl rfl (by decide) rfl
            replace h := tx_iconst (v := 1) (p' := 52) h em230_51 (by decide +kernel) rfl
            replace h := tx_iadd (p' := 53) h em230_52 rfl
            replace h := tx_putf (a := 75) (c := 12) (j := 26) (p' := 56) h em230_53 ((congrFun xo_12 227).trans rfl) rfl
            replace h := tx_aload_n (p' := 57) h em230_56 rfl rfl
            obtain ⟨r57, μ57, hE57, h⟩ := tx_invV (na := 1) (mn := 144) (as := [.inr (.inl (some 75))]) (rest := []) (p' := 60) h em230_57 ((congrFun xo_12 221).trans rfl) xm_144 rfl rfl
            have hg57 := ex_go3 hE57 (by have := hB.2.2.2.2.1; show 0 ≤ rT ν; omega) (by have := hB.2.2.2.2.2; show rT ν ≤ 400; omega) (by have := (xWv_b hW).1; show 0 ≤ rF ν; omega)
            obtain ⟨rfl, hs57⟩ := st_goesOn hE57 (fun q => (xWv_b hW).2 q)
            replace h : eT xq_230 _ 60 [some (.inr (.inl (some 75))), some (.inl bs), some (.inl mo)] [] μ57 r μ' := h
            replace h := tx_aload_n (p' := 61) h em230_60 rfl rfl
            replace h := tx_getc (c := 12) (j := 54) (p' := 64) h em230_61 ((congrFun xo_12 104).trans rfl) rfl rfl rfl
            replace h := tx_aload_n (p' := 65) h em230_64 rfl rfl
            replace h := tx_getf (c := 12) (j := 55) (p' := 68) h em230_65 ((congrFun xo_12 307).trans rfl) rfl rfl (by decide) rfl
            replace h := tx_bipush (v := 6) (p' := 70) h em230_68 (by decide +kernel) rfl
            obtain ⟨hb70, h⟩ := tx_iast (len := 64) (p' := 71) h em230_70 rfl rfl
            replace hb70 : (0 : Int) ≤ (μ57.1 75 55).toInt ∧ (μ57.1 75 55).toInt < 64 := hb70
            replace h := tx_aload_n (p' := 72) h em230_71 rfl rfl
            replace h := tx_dup (p' := 73) h em230_72 rfl
            replace h := tx_getf (c := 12) (j := 55) (p' := 76) h em230_73 ((congrFun xo_12 307).trans rfl) rfl rfl (by decide) rfl
            replace h : eT xq_230 _ 76 [some (.inr (.inl (some 75))), some (.inl bs), some (.inl mo)] [.inl (μ57.1 75 55), .inr (.inl (some 75))] (xpi μ57 104 (μ57.1 75 55).toInt.toNat (6 : Int32)) r μ' := h
            replace h := tx_iconst (v := 1) (p' := 77) h em230_76 (by decide +kernel) rfl
            replace h := tx_iadd (p' := 78) h em230_77 rfl
            replace h := tx_putf (a := 75) (c := 12) (j := 55) (p' := 81) h em230_78 ((congrFun xo_12 307).trans rfl) rfl
            obtain ⟨n2, hn2, h⟩ := tx_gotoS (t := 23) h em230_81 (by decide)
            have hk : rK μ (rT ν) = 40 := by rw [← rE_K hW.1, i262]; decide
            have hQ6 : ¬ rQ ν = 6 := by unfold rQ; omega
            have f0 : rF ν = 0 := i261
            have hQb : 0 ≤ rQ ν ∧ rQ ν ≤ 6 := by have := hW.2; omega
            have eQ : rQ (xpi ν 75 26 (ν.1 75 26 + 1)) = rQ ν + 1 := by rw [rQ_p, rQ_inc (k := 1) (by decide) (by omega) (by omega) (by omega)]
            have hW2 := xWv_on (m2 := false) hW (rE_f rE_rf (by omega)) ⟨rfl, rfl, rfl⟩ hs57 (fun _ => by rw [eQ]; omega) (fun _ h0 h3 => by rw [eQ]; exact xs_open h0 h3 hk hQ6) (fun _ h4 => xs_open_f (by omega) (by omega) hk (Or.inr h4))
            refine (ih n2 hn2).2.1 _ _ _ h hbs ?_ (fun hz => by
              have hz : rF μ57 = 0 := hz
              obtain ⟨z1, z2, z3⟩ := stM_on0 hs57 (by show 0 ≤ rF ν; omega) hz
              have z2 : rT μ57 = rT ν + 1 := z2
              have z3 : ¬ rT ν = 400 := z3
              have hb := (xWv_b hW).2 f0
              obtain ⟨C, w, j1, j2, j3, j4⟩ := hJ f0
              have e55 : μ57.1 75 55 = ν.1 75 55 := (hs57.1.2.1 55 (by decide) (by decide) (by decide)).trans (xpi_ne (fun q => absurd q.2 (by decide)))
              have w55 := j2.1
              have eq : rQ μ57 = rQ ν + 1 := by
                rw [← eQ]
                unfold rQ
                exact congrArg Int32.toInt (hs57.1.2.1 26 (by decide) (by decide) (by decide))
              have n55 : ((μ57.1 75 55) + (1 : Int32)).toInt = (w.length : Int) + 1 := by rw [e55, an_add (by rw [e1i]; omega) (by rw [e1i]; rw [← e55]; omega), e1i, w55]
              have hidx : (μ57.1 75 55).toInt.toNat = w.length := by rw [e55]; omega
              have b1 := rM_b (bP_e (m := xpi ν 75 26 (ν.1 75 26 + 1)) j1 (fun j => xpi_ne (fun q => absurd q.1 (by decide))) (fun j => xpi_ne (fun q => absurd q.1 (by decide))) (xpi_ne (fun q => absurd q.2 (by decide)))) hs57.1
              have b2 := rM_w (wS_e (m := xpi ν 75 26 (ν.1 75 26 + 1)) j2 (fun j => xpi_ne (fun q => absurd q.1 (by decide))) (xpi_ne (fun q => absurd q.2 (by decide)))) hs57.1
              refine ⟨C, 40 :: w, bP_e b1 (fun j => (xpi_ne (fun q => absurd q.1 (by decide))).trans (xpi_ne (fun q => absurd q.1 (by decide)))) (fun j => (xpi_ne (fun q => absurd q.1 (by decide))).trans (xpi_ne (fun q => absurd q.1 (by decide)))) ((xpi_ne (fun q => absurd q.2 (by decide))).trans (xpi_ne (fun q => absurd q.1 (by decide)))), wS_c b2 (fun j hj => (xpi_ne (fun q => absurd q.1 (by decide))).trans (xpi_ne (fun q => hj (by omega)))) ?_ ?_, ?_, ?_⟩
              · rw [xpi_ne (fun q => absurd q.1 (by decide)), ← hidx, xpi_at]
                decide
              · rw [xpi_at]; exact n55
              · rw [List.count_cons_self]
                have eq2 : rQ (xpi (xpi μ57 104 (μ57.1 75 55).toInt.toNat (6 : Int32)) 75 55 ((μ57.1 75 55) + (1 : Int32))) = rQ μ57 := rfl
                rw [eq2, eq]
                omega
              · show _ = C ++ ys (rK μ) (rVl μ) (rT μ57) (rQ μ57) false (40 :: w)
                rw [j4, eq, z2, ys_open (by omega) (by omega) hk hQ6]) (by
              have e49 : μ57.1 75 49 = ν.1 75 49 := (hs57.1.2.1 49 (by decide) (by decide) (by decide)).trans ((xpi_ne (fun q => absurd q.2 (by decide))))
              have e55 : μ57.1 75 55 = ν.1 75 55 := (hs57.1.2.1 55 (by decide) (by decide) (by decide)).trans ((xpi_ne (fun q => absurd q.2 (by decide))))
              have n55 : ((μ57.1 75 55) + (1 : Int32)).toInt = (ν.1 75 55).toInt + 1 := by rw [an_add (by rw [e1i]; omega) (by rw [e1i]; omega), e1i, e55]
              have hb1 := hB.1
              have hb6 := hB.2.2.2.2.2
              have hF0 := (xWv_b hW).1
              have fcl : rF ν = 0 := i261
              have g55 : ((xpi (xpi μ57 104 (μ57.1 75 55).toInt.toNat (6 : Int32)) 75 55 ((μ57.1 75 55) + (1 : Int32))).1 75 55).toInt = (ν.1 75 55).toInt + 1 := by rw [xpi_at]; exact n55
              have g49 : (xpi (xpi μ57 104 (μ57.1 75 55).toInt.toNat (6 : Int32)) 75 55 ((μ57.1 75 55) + (1 : Int32))).1 75 49 = ν.1 75 49 := by rw [xpi_ne (fun q => absurd q.2 (by decide)), xpi_ne (fun q => absurd q.1 (by decide))]; exact e49
              have gT : rT (xpi (xpi μ57 104 (μ57.1 75 55).toInt.toNat (6 : Int32)) 75 55 ((μ57.1 75 55) + (1 : Int32))) = rT μ57 := rfl
              have gF : rF (xpi (xpi μ57 104 (μ57.1 75 55).toInt.toNat (6 : Int32)) 75 55 ((μ57.1 75 55) + (1 : Int32))) = rF μ57 := rfl
              rcases hg57 with ⟨k1, k2⟩ | ⟨k1, k2, k3⟩
              · have k1 : rT μ57 = rT ν := k1
                refine xB_mv hB (fun q => by exfalso; omega) (by omega) (by rw [g49]; omega) (fun q => by exfalso; omega) (fun q => ?_) (fun q => absurd fcl q) (by omega) (by omega)
                rw [g49]; omega
              · have k1 : rT μ57 = rT ν + 1 := k1
                have k3 : rT ν ≤ 399 := k3
                refine xB_mv hB (fun q => fcl) (by omega) (by rw [g49]; omega) (fun q => ?_) (fun q => ?_) (fun q => ?_) (by omega) (by omega) <;> rw [g49] <;> omega) (rM_f2 hP hs57.1)
            obtain ⟨w1, w2⟩ := hW2
            exact ⟨rE_f (rE_c w1 ⟨by decide, by decide⟩) (by omega), w2⟩
          · replace c38 : ¬ ¬ (ν.1 75 26).toInt = 6 := c38
            replace h := tx_aload_n (p' := 42) h em230_41 rfl rfl
            replace h := tx_iconst (v := 2) (p' := 43) h em230_42 (by decide +kernel) rfl
            obtain ⟨r43, μ43, hE43, h⟩ := tx_invV (na := 2) (mn := 133) (as := [.inr (.inl (some 75)), .inl (2 : Int32)]) (rest := []) (p' := 46) h em230_43 ((congrFun xo_12 215).trans rfl) xm_133 rfl rfl
            have hf43 := ex_fl3 hE43 (by decide)
            obtain ⟨rfl, hs43⟩ := st_fail (f0 := 2) hE43 (by decide) (by decide)
            replace h : eT xq_230 _ 46 [some (.inr (.inl (some 75))), some (.inl bs), some (.inl mo)] [] μ43 r μ' := h
            have f43 : 0 < rF μ43 := by
              obtain ⟨-, g2, -⟩ := hs43
              rcases g2 i261 with ⟨k1, -⟩ | ⟨-, k2, -⟩
              · exact absurd (show (2 : Int) = 0 from k1) (by decide)
              · rw [k2]; show (0 : Int) < 2; decide
            replace h := tx_aload_n (p' := 47) h em230_46 rfl rfl
            replace h := tx_dup (p' := 48) h em230_47 rfl
            replace h := tx_getf (c := 12) (j := 26) (p' := 51) h em230_48 ((congrFun xo_12 227).trans rfl) rfl rfl (by decide) rfl
            replace h := tx_iconst (v := 1) (p' := 52) h em230_51 (by decide +kernel) rfl
            replace h := tx_iadd (p' := 53) h em230_52 rfl
            replace h := tx_putf (a := 75) (c := 12) (j := 26) (p' := 56) h em230_53 ((congrFun xo_12 227).trans rfl) rfl
            replace h := tx_aload_n (p' := 57) h em230_56 rfl rfl
            obtain ⟨r57_1, μ57_1, hE57_1, h⟩ := tx_invV (na := 1) (mn := 144) (as := [.inr (.inl (some 75))]) (rest := []) (p' := 60) h em230_57 ((congrFun xo_12 221).trans rfl) xm_144 rfl rfl
            have hg57_1 := ex_go3 hE57_1 (by have := hB.2.2.2.2.1; show 0 ≤ rT μ43; omega) (by have := hB.2.2.2.2.2; show rT μ43 ≤ 400; omega) (by have := (xWv_b hW).1; show 0 ≤ rF μ43; omega)
            obtain ⟨rfl, hs57_1⟩ := st_goesOn hE57_1 (fun q => by have q : rF μ43 = 0 := q; exfalso; omega)
            replace h : eT xq_230 _ 60 [some (.inr (.inl (some 75))), some (.inl bs), some (.inl mo)] [] μ57_1 r μ' := h
            replace h := tx_aload_n (p' := 61) h em230_60 rfl rfl
            replace h := tx_getc (c := 12) (j := 54) (p' := 64) h em230_61 ((congrFun xo_12 104).trans rfl) rfl rfl rfl
            replace h := tx_aload_n (p' := 65) h em230_64 rfl rfl
            replace h := tx_getf (c := 12) (j := 55) (p' := 68) h em230_65 ((congrFun xo_12 307).trans rfl) rfl rfl (by decide) rfl
            replace h := tx_bipush (v := 6) (p' := 70) h em230_68 (by decide +kernel) rfl
            obtain ⟨hb70_1, h⟩ := tx_iast (len := 64) (p' := 71) h em230_70 rfl rfl
            replace hb70_1 : (0 : Int) ≤ (μ57_1.1 75 55).toInt ∧ (μ57_1.1 75 55).toInt < 64 := hb70_1
            replace h := tx_aload_n (p' := 72) h em230_71 rfl rfl
            replace h := tx_dup (p' := 73) h em230_72 rfl
            replace h := tx_getf (c := 12) (j := 55) (p' := 76) h em230_73 ((congrFun xo_12 307).trans rfl) rfl rfl (by decide) rfl
            replace h : eT xq_230 _ 76 [some (.inr (.inl (some 75))), some (.inl bs), some (.inl mo)] [.inl (μ57_1.1 75 55), .inr (.inl (some 75))] (xpi μ57_1 104 (μ57_1.1 75 55).toInt.toNat (6 : Int32)) r μ' := h
            replace h := tx_iconst (v := 1) (p' := 77) h em230_76 (by decide +kernel) rfl
            replace h := tx_iadd (p' := 78) h em230_77 rfl
            replace h := tx_putf (a := 75) (c := 12) (j := 55) (p' := 81) h em230_78 ((congrFun xo_12 307).trans rfl) rfl
            obtain ⟨n2, hn2, h⟩ := tx_gotoS (t := 23) h em230_81 (by decide)
            have hk : rK μ (rT ν) = 40 := by rw [← rE_K hW.1, i262]; decide
            have hQ6 : rQ ν = 6 := by unfold rQ; omega
            have hW2 : xWv μ μ43 false := xWv_fl hW hs43 (by decide) (fun f0 => xs_open_f (by have := (xWv_b hW).2 f0; omega) (by have := (xWv_b hW).2 f0; omega) hk (Or.inl hQ6))
            have hE9 : rE μ43 (xpi μ43 75 26 (μ43.1 75 26 + 1)) := rE_f rE_rf (by omega)
            have hs9 := hs57_1
            obtain ⟨s1, s2, s3⟩ := hs9
            have s4 := s3 (show 0 < rF μ43 from f43)
            exact (ih n2 hn2).2.1 _ _ _ h hbs (xWv_dead hW2 f43 (rE_f (rE_c (rE_tr hE9 (rE_m s1)) ⟨by decide, by decide⟩) (by omega)) ⟨s4.1, s4.2⟩) (fun hz => by
              exfalso
              have hz : rF μ57_1 = 0 := hz
              have s5 : rF μ57_1 = rF μ43 := s4.1
              omega) (by
              have e49 : μ57_1.1 75 49 = ν.1 75 49 := (hs57_1.1.2.1 49 (by decide) (by decide) (by decide)).trans ((xpi_ne (fun q => absurd q.2 (by decide))).trans hf43.2.2.1)
              have e55 : μ57_1.1 75 55 = ν.1 75 55 := (hs57_1.1.2.1 55 (by decide) (by decide) (by decide)).trans ((xpi_ne (fun q => absurd q.2 (by decide))).trans hf43.2.2.2)
              have n55 : ((μ57_1.1 75 55) + (1 : Int32)).toInt = (ν.1 75 55).toInt + 1 := by rw [an_add (by rw [e1i]; omega) (by rw [e1i]; omega), e1i, e55]
              have hb1 := hB.1
              have hb6 := hB.2.2.2.2.2
              have hF0 := (xWv_b hW).1
              have fcl : rF ν = 0 := i261
              have g55 : ((xpi (xpi μ57_1 104 (μ57_1.1 75 55).toInt.toNat (6 : Int32)) 75 55 ((μ57_1.1 75 55) + (1 : Int32))).1 75 55).toInt = (ν.1 75 55).toInt + 1 := by rw [xpi_at]; exact n55
              have g49 : (xpi (xpi μ57_1 104 (μ57_1.1 75 55).toInt.toNat (6 : Int32)) 75 55 ((μ57_1.1 75 55) + (1 : Int32))).1 75 49 = ν.1 75 49 := by rw [xpi_ne (fun q => absurd q.2 (by decide)), xpi_ne (fun q => absurd q.1 (by decide))]; exact e49
              have gT : rT (xpi (xpi μ57_1 104 (μ57_1.1 75 55).toInt.toNat (6 : Int32)) 75 55 ((μ57_1.1 75 55) + (1 : Int32))) = rT μ57_1 := rfl
              have gF : rF (xpi (xpi μ57_1 104 (μ57_1.1 75 55).toInt.toNat (6 : Int32)) 75 55 ((μ57_1.1 75 55) + (1 : Int32))) = rF μ57_1 := rfl
              have k1 : rT μ57_1 = rT ν ∨ rT μ57_1 = rT ν + 1 := by
                have k0 := hf43.1
                rcases hg57_1 with ⟨k1, -⟩ | ⟨k1, -, -⟩
                · have k1 : rT μ57_1 = rT μ43 := k1
                  omega
                · have k1 : rT μ57_1 = rT μ43 + 1 := k1
                  omega
              have k4 : 0 < rF μ57_1 := by
                rcases hg57_1 with ⟨-, k2⟩ | ⟨-, k2, -⟩
                · exact k2
                · have k2 : rF μ57_1 = rF μ43 := k2
                  have := hf43.2.1
                  omega
              have k3 : rT μ57_1 ≤ 400 := by
                have k0 := hf43.1
                rcases hg57_1 with ⟨k1, -⟩ | ⟨k1, -, k3⟩
                · have k1 : rT μ57_1 = rT μ43 := k1
                  omega
                · have k1 : rT μ57_1 = rT μ43 + 1 := k1
                  have k3 : rT μ43 ≤ 399 := k3
                  omega
              refine xB_mv hB (fun q => by exfalso; omega) (by omega) (by rw [g49]; omega) (fun q => by exfalso; omega) (fun q => ?_) (fun q => absurd fcl q) (by omega) (by omega)
              rw [g49]; omega) (rM_f' hP hs43.1 hs57_1.1)
      · rw [hm] at h
        replace h : eT xq_230 _ 29 [some (.inr (.inl (some 75))), some (.inl bs), some (.inl mo)] [.inl (0 : Int32)] ν r μ' := h
        rcases tx_if (t := 84) (p' := 32) h em230_29 (by decide) rfl with ⟨c29_1, h⟩ | ⟨c29_1, h⟩
        · replace c29_1 : (0 : Int) = (0 : Int) := c29_1
          replace h := tx_aload_n (p' := 85) h em230_84 rfl rfl
          obtain ⟨r85, μ85, hE85, h⟩ := tx_invV (na := 1) (mn := 231) (as := [.inr (.inl (some 75))]) (rest := []) (p' := 88) h em230_85 ((congrFun xo_12 313).trans rfl) xm_231 rfl rfl
          have hu2 := fun f0 => ex_unit2 hE85 f0 (xWv_b hW).2
          have hu3 := ex_unit3 hE85 (by have := hB.2.2.2.2; omega) hB.2.2.2.2.2 (xWv_b hW).1
          have hu4 := fun q => ex_unit4 hE85 q
          have hu5 := ex_unit5 hE85 (by have := hB.2.2.2.2; omega) hB.2.2.2.2.2
          obtain ⟨rfl, uE, uO, uD, uQ⟩ := ex_unit hE85 (xWv_b hW).2
          replace h : eT xq_230 _ 88 [some (.inr (.inl (some 75))), some (.inl bs), some (.inl mo)] [] μ85 r μ' := h
          replace h := tx_aload_n (p' := 89) h em230_88 rfl rfl
          replace h := tx_getf (c := 12) (j := 27) (p' := 92) h em230_89 ((congrFun xo_12 200).trans rfl) rfl rfl (by decide) rfl
          rcases tx_if (t := 96) (p' := 95) h em230_92 (by decide) rfl with ⟨c92, h⟩ | ⟨c92, h⟩
          · replace c92 : (μ85.1 75 27).toInt ≤ 0 := c92
            have f0 : rF ν = 0 := by
              by_cases f0 : rF ν = 0
              · exact f0
              · have f1 : 0 < rF ν := by have := (xWv_b hW).1; omega
                have := (uD f1).1
                unfold rF at this f1
                omega
            have hb := (xWv_b hW).2 f0
            have u1 := uO f0
            have fz : rF μ85 ≤ 0 := by unfold rF; omega
            refine h96 _ _ _ h hbs ⟨rE_tr hW.1 uE, ?_⟩ (fun hz => by
              obtain ⟨D, d1, d2, d3, d4, d5, d6⟩ := hu2 f0 hz
              obtain ⟨C, w, j1, j2, j3, j4⟩ := hJ f0
              refine ⟨C ++ D, w, bP_tr h0s j1 d1, wS_e j2 d2 d3, by rw [uQ]; exact j3, ?_⟩
              rw [rE_K hW.1, rE_Vl hW.1] at d6
              rw [j4, d4, uQ, List.append_assoc]
              rcases d6 with ⟨k1, rfl⟩ | ⟨k1, rfl⟩
              · rw [ys_int (by omega) (by omega) k1]; rfl
              · rw [ys_var (by omega) (by omega) k1]; rfl) (by
              have hb1 := hB.1
              have hb6 := hB.2.2.2.2.2
              have hF0 := (xWv_b hW).1
              obtain ⟨u5, u6⟩ := hu3
              rcases u6 with ⟨k1, k2, k3, k4⟩ | ⟨k1, k2, k3, k4⟩
              · refine xB_mv hB (fun q => by omega) (by rw [u5]; exact hb1) (by omega) (fun q => ?_) (fun q => ?_) (fun q => ?_) (by omega) (by omega) <;> rw [u5] <;> omega
              · refine xB_mv hB (fun q => by exfalso; omega) (by rw [u5]; exact hb1) k2 (fun q => by exfalso; omega) (fun q => ?_) (fun q => ?_) (by omega) (by omega)
                · rw [u5]; omega
                · rw [u5, hu4 q]; omega) (fP_tr hP hu5 hB.2.1 (by have := hu3.2; omega))
            obtain ⟨g1, ⟨k1, k2, k3, k4⟩ | ⟨k1, -⟩⟩ := hW
            · unfold pUn at u1
              rw [rE_K g1] at u1
              rcases u1 with ⟨l1, l2, l3⟩ | ⟨l1, l2, l3⟩
              · by_cases hk : rK μ (rT ν) = 3 ∨ 140 ≤ rK μ (rT ν)
                · rw [if_pos hk] at l1 l3
                  have h4 : ¬ rT ν = 400 := fun h4 => by rw [pOn_n h4] at l1; exact absurd (show (2 : Int) = 0 from l1) (by decide)
                  rw [pOn_y h4] at l3
                  exact Or.inl ⟨l2, by rw [k2, xs_unit (by omega) (by omega) hk, l3, uQ], by rw [l3]; show 0 ≤ rT ν + 1 ∧ rT ν + 1 ≤ 400; omega, by rw [uQ]; exact k4⟩
                · rw [if_neg hk] at l1
                  exact absurd (show (1 : Int) = 0 from l1) (by decide)
              · exfalso
                by_cases hk : rK μ (rT ν) = 3 ∨ 140 ≤ rK μ (rT ν)
                · rw [if_pos hk] at l1 l2
                  by_cases h4 : rT ν = 400
                  · rw [pOn_n h4] at l2
                    have l2 : rF μ85 = 2 := l2
                    omega
                  · rw [pOn_y h4] at l1
                    exact l1 rfl
                · rw [if_neg hk] at l2
                  have l2 : rF μ85 = 1 := l2
                  omega
            · omega
          · replace c92 : ¬ (μ85.1 75 27).toInt ≤ 0 := c92
            obtain ⟨rfl, hμ⟩ := tx_return h em230_95
            rw [hμ]
            have fz : 0 < rF μ85 := by unfold rF; omega
            exact ⟨fun hz => by exfalso; omega, xB_out (by
              have hb1 := hB.1
              have hb6 := hB.2.2.2.2.2
              have hF0 := (xWv_b hW).1
              obtain ⟨u5, u6⟩ := hu3
              rcases u6 with ⟨k1, k2, k3, k4⟩ | ⟨k1, k2, k3, k4⟩
              · refine xB_mv hB (fun q => by omega) (by rw [u5]; exact hb1) (by omega) (fun q => ?_) (fun q => ?_) (fun q => ?_) (by omega) (by omega) <;> rw [u5] <;> omega
              · refine xB_mv hB (fun q => by exfalso; omega) (by rw [u5]; exact hb1) k2 (fun q => by exfalso; omega) (fun q => ?_) (fun q => ?_) (by omega) (by omega)
                · rw [u5]; omega
                · rw [u5, hu4 q]; omega), fP_tr hP hu5 hB.2.1 (by have := hu3.2; omega)⟩
        · replace c29_1 : ¬ (0 : Int) = (0 : Int) := c29_1
          exfalso
          omega
    have h12 : ∀ (mo bs : Int32) (ν : xM), eT xq_230 n 12 [some (.inr (.inl (some 75))), some (.inl bs), some (.inl mo)] [] ν r μ' → bs.toInt = 0 → xWv μ ν false → xJ μ ν false → xB μ ν → fP μ ν → mo.toInt = 1 → ((rF μ' = 0 → bP μ μ' (ys (rK μ) (rVl μ) (rT μ) 0 false [])) ∧ eB μ μ' ∧ fP μ μ') := by
      intro mo bs ν h hbs hW hJ hB hP hmo
      replace h := tx_iload_n (p' := 13) h em230_12 rfl rfl
      rcases tx_if (t := 272) (p' := 16) h em230_13 (by decide) rfl with ⟨c13, h⟩ | ⟨c13, h⟩
      · replace c13 : mo.toInt = 0 := c13
        obtain ⟨rfl, hμ⟩ := tx_return h em230_272
        exfalso
        omega
      · replace c13 : ¬ mo.toInt = 0 := c13
        replace h := tx_aload_n (p' := 17) h em230_16 rfl rfl
        replace h := tx_getf (c := 12) (j := 27) (p' := 20) h em230_17 ((congrFun xo_12 200).trans rfl) rfl rfl (by decide) rfl
        rcases tx_if (t := 272) (p' := 23) h em230_20 (by decide) rfl with ⟨c20, h⟩ | ⟨c20, h⟩
        · replace c20 : ¬ (ν.1 75 27).toInt = 0 := c20
          obtain ⟨rfl, hμ⟩ := tx_return h em230_272
          rw [hμ]
          exact ⟨fun hz => by exfalso; unfold rF at hz; omega, xB_out hB, hP⟩
        · replace c20 : ¬ ¬ (ν.1 75 27).toInt = 0 := c20
          exact h23 _ _ _ h hbs hW hJ hB hP
    exact ⟨h12, h23, h96⟩
  replace h := tx_aload_n (p' := 1) h em230_0 rfl rfl
  replace h := tx_iconst (v := 0) (p' := 2) h em230_1 (by decide +kernel) rfl
  replace h := tx_putf (a := 75) (c := 12) (j := 55) (p' := 5) h em230_2 ((congrFun xo_12 307).trans rfl) rfl
  replace h := tx_aload_n (p' := 6) h em230_5 rfl rfl
  replace h := tx_getf (c := 12) (j := 26) (p' := 9) h em230_6 ((congrFun xo_12 227).trans rfl) rfl rfl (by decide) rfl
  replace h : eT xq_230 _ 9 [some (.inr (.inl (some 75))), none, none] [.inl (μ.1 75 26)] (xpi μ 75 55 (0 : Int32)) r μ' := h
  replace h := tx_istore_n (p' := 10) h em230_9 rfl
  replace h : eT xq_230 _ 10 [some (.inr (.inl (some 75))), some (.inl (μ.1 75 26)), none] [] (xpi μ 75 55 (0 : Int32)) r μ' := h
  replace h := tx_iconst (v := 1) (p' := 11) h em230_10 (by decide +kernel) rfl
  replace h := tx_istore_n (p' := 12) h em230_11 rfl
  replace h : eT xq_230 _ 12 [some (.inr (.inl (some 75))), some (.inl (μ.1 75 26)), some (.inl (1 : Int32))] [] (xpi μ 75 55 (0 : Int32)) r μ' := h
  refine (main _).1 _ _ _ h hq0 ⟨rE_f rE_rf (by omega), Or.inl ⟨hF0, by show _ = xs _ (rT μ) (rQ μ) _; rw [hq0], ⟨ht0, ht4⟩, by show 0 ≤ rQ μ ∧ rQ μ ≤ 6; omega⟩⟩ (fun _ => ⟨[], [], ?_, ?_, ?_, ?_⟩) ⟨by rw [xpi_at]; decide, Int.le_refl _, fun _ => ?_, ?_, Int.le_refl _, ht4⟩ (fP_e fP_rf (fun j => xpi_ne (fun q => absurd q.1 (by decide))) (fun j => xpi_ne (fun q => absurd q.1 (by decide))) (xpi_ne (fun q => absurd q.2 (by decide)))) (by decide)
  · exact bP_e bP_0 (fun j => xpi_ne (fun q => absurd q.1 (by decide))) (fun j => xpi_ne (fun q => absurd q.1 (by decide))) (xpi_ne (fun q => absurd q.2 (by decide)))
  · exact ⟨by rw [xpi_at]; rfl, fun i hi => absurd hi (Nat.not_lt_zero i)⟩
  · show (0 : Int) = rQ μ; omega
  · show _ = [] ++ ys (rK μ) (rVl μ) (rT μ) (rQ μ) false []; rw [hq0]; rfl
  · show (μ.1 75 49).toInt + (0 : Int32).toInt ≤ (μ.1 75 49).toInt + (rT μ - rT μ)
    rw [show (0 : Int32).toInt = 0 by decide]; omega
  · show (μ.1 75 49).toInt + (0 : Int32).toInt ≤ (μ.1 75 49).toInt + (rT μ - rT μ) + 1
    rw [show (0 : Int32).toInt = 0 by decide]; omega
