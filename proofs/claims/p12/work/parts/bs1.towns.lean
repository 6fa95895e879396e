/-! ===== TOWNS, pure ===== -/
def s5 (f : Nat → Int32) : Nat → Int32
  | 0 => 0
  | k + 1 => s5 f k + f k
theorem s5_cg {f g : Nat → Int32} : ∀ n, (∀ k, k < n → f k = g k) → s5 f n = s5 g n
  | 0, _ => rfl
  | n + 1, h => by
    show s5 f n + f n = s5 g n + g n
    rw [s5_cg n (fun k hk => h k (by omega)), h n (Nat.lt_succ_self n)]
def tV (a b c d e f g h i : Int32) : kVr := fun n => [a, b, c, d, e, f, g, h, i].getD n 0
def pJ (F : Nat → Option kLw) (k : Nat) (V : kVr) : Int32 := evL V (lwOf F k).1 (lwOf F k).2
theorem pJ_cg {F : Nat → Option kLw} {k : Nat} {V V' : kVr} (hV : ∀ i, i ≤ 8 → V' i = V i) (ho : oLw (lwOf F k)) : pJ F k V' = pJ F k V := evL_cg hV _ _ ho.1 ho.2
/-- held between -/
def pHd (x lo hi : Int32) : Int32 := if x < lo then lo else if hi < x then hi else x
theorem pHd_c {x hi : Int32} (h : 0 ≤ hi.toInt) : (if (0 : Int32) < (if x < hi then x else hi) then (if x < hi then x else hi) else 0) = pHd x 0 hi := by
  have e0 : (0 : Int32).toInt = 0 := by decide
  have lt : ∀ u v : Int32, u < v ↔ u.toInt < v.toInt := fun u v => Int32.lt_iff_toInt_lt
  have key : ∀ m : Int32, (if x < hi then x else hi) = m → (if (0 : Int32) < m then m else 0) = pHd x 0 hi := fun m hm => by
    have m1 : m.toInt = if x.toInt < hi.toInt then x.toInt else hi.toInt := by
      rw [← hm]
      by_cases b : x < hi
      · rw [if_pos b, if_pos ((lt _ _).mp b)]
      · rw [if_neg b, if_neg (fun q => b ((lt _ _).mpr q))]
    have m2 : (if (0 : Int32) < m then m else 0 : Int32).toInt = if 0 < m.toInt then m.toInt else 0 := by
      by_cases b : (0 : Int32) < m
      · have := (lt _ _).mp b
        rw [if_pos b, if_pos (show 0 < m.toInt by omega)]
      · have b2 : ¬ (0 : Int32).toInt < m.toInt := fun q => b ((lt _ _).mpr q)
        rw [if_neg b, if_neg (show ¬ 0 < m.toInt by omega), e0]
    have m3 : (pHd x 0 hi).toInt = if x.toInt < 0 then 0 else if hi.toInt < x.toInt then hi.toInt else x.toInt := by
      unfold pHd
      by_cases b : x < 0
      · have := (lt _ _).mp b
        rw [if_pos b, if_pos (show x.toInt < 0 by omega), e0]
      · have b2 : ¬ x.toInt < (0 : Int32).toInt := fun q => b ((lt _ _).mpr q)
        rw [if_neg b, if_neg (show ¬ x.toInt < 0 by omega)]
        by_cases c : hi < x
        · rw [if_pos c, if_pos ((lt _ _).mp c)]
        · rw [if_neg c, if_neg (fun q => c ((lt _ _).mpr q))]
    refine Int32.toInt_inj.mp ?_
    rw [m2, m3, m1]
    repeat' split
    all_goals omega
  exact key _ rfl
theorem pHd_b {x lo hi : Int32} (h : lo.toInt ≤ hi.toInt) : lo.toInt ≤ (pHd x lo hi).toInt ∧ (pHd x lo hi).toInt ≤ hi.toInt := by
  unfold pHd
  by_cases a : x < lo
  · rw [if_pos a]; exact ⟨Int.le_refl _, h⟩
  · have ai : ¬ x.toInt < lo.toInt := fun q => a (Int32.lt_iff_toInt_lt.mpr q)
    rw [if_neg a]
    by_cases b : hi < x
    · rw [if_pos b]; exact ⟨h, Int.le_refl _⟩
    · have bi : ¬ hi.toInt < x.toInt := fun q => b (Int32.lt_iff_toInt_lt.mpr q)
      rw [if_neg b]; omega
def vVa (S : kSt) (v : Nat) : Int32 := Int32.ofInt (kV S v).2.1
def vDu (S : kSt) (v : Nat) : Int32 := Int32.ofInt (kV S v).2.2
def vLo (S : kSt) (v : Nat) : Int32 := Int32.ofInt (kV S v).1.length
def pLent (ρ : Nat → Int32) (h l : Nat) : Int32 := s5 (fun o => ρ (120 + 40 * h + 8 * o + l)) 5
/-- what the laws look at, of a house, a letter, a verse -/
def pVh (S : kSt) (ρ : Nat → Int32) (h l v : Nat) : kVr := tV (vVa S v) (vDu S v) (ρ 386) (ρ (80 + (8 * h + l))) (ρ (8 * h + l)) (Int32.ofNat h) (Int32.ofNat l) (vLo S v) (pLent ρ h l)
def pVw (ρ : Nat → Int32) (h l : Nat) : kVr := tV 0 0 (ρ 386) (ρ (80 + (8 * h + l))) (ρ (8 * h + l)) (Int32.ofNat h) (Int32.ofNat l) 0 (pLent ρ h l)
def pVp (S : kSt) (day : Int32) (v : Nat) : kVr := tV (vVa S v) (vDu S v) day 0 0 0 0 (vLo S v) 0
def pLv (S : kSt) (ρ : Nat → Int32) (h l v : Nat) : Prop := 0 < (pJ S.2.2.2 0 (pVh S ρ h l v)).toInt
def pRk (S : kSt) (ρ : Nat → Int32) (h l v : Nat) : Int32 := pJ S.2.2.2 1 (pVh S ρ h l v)
def pWr (S : kSt) (ρ : Nat → Int32) (h l : Nat) : Int32 := pHd (pJ S.2.2.2 2 (pVw ρ h l)) 0 9
def pPy (S : kSt) (day : Int32) (v : Nat) : Int32 := pHd (pJ S.2.2.2 3 (pVp S day v)) 0 99
/-- the class's script is S -/
def cS9 (S : kSt) (μ : xM) : Prop := kWf S ∧ (∀ k, oLw (lwOf S.2.2.2 k)) ∧ sC 2 S μ ∧ lC 2 S.2.2.2 μ
theorem cS9_cg {S : kSt} {μ ν : xM} (h : cS9 S μ) (e : ∀ k j, 2 ≤ k → k ≤ 11 → ν.1 k j = μ.1 k j) : cS9 S ν := ⟨h.1, h.2.1, sC_cg (fun k j a b => e k j a (by omega)) h.2.2.1, lC_cg h.2.2.2 (fun k j a b => e k j (by omega) (by omega)) (e 2 14 (by decide) (by decide))⟩
theorem cS9_v {S : kSt} {μ : xM} (h : cS9 S μ) {v : Nat} (hv : v < S.2.1.length) : μ.1 4 v = vVa S v ∧ μ.1 5 v = vDu S v ∧ μ.1 6 v = vLo S v ∧ ∀ i : Nat, i < (kV S v).1.length → (μ.1 7 (8 * v + i)).toInt = (kV S v).1.getD i 0 := by
  obtain ⟨d1, d2, d3, d4⟩ := h.2.2.1.2.2.1 v hv
  unfold vVa vDu vLo
  rw [← d1, ← d2, ← d3, Int32.ofInt_toInt, Int32.ofInt_toInt, Int32.ofInt_toInt]
  exact ⟨rfl, rfl, rfl, d4⟩
theorem ofN {x : Int32} {n : Nat} (h : x.toInt = (n : Int)) : x = Int32.ofNat n := an_of h
theorem le9 {i : Nat} (h : i ≤ 8) : i = 0 ∨ i = 1 ∨ i = 2 ∨ i = 3 ∨ i = 4 ∨ i = 5 ∨ i = 6 ∨ i = 7 ∨ i = 8 := by omega
