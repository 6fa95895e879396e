/-! ===== WHAT A TEXT IS: one account of tokens and of the grammar, which class and reference both follow ===== -/
/-- an expression from token a on, at depth d; m: a unit stands behind us. (where it ends, 0) or (where it fails, the fault) -/
def xsF (K : Int → Int) : Nat → Int → Int → Bool → Int × Int
  | 0, a, _, _ => (a, 2)
  | n + 1, a, d, false =>
    if K a = 40 then (if d = 6 ∨ a = 400 then (a, 2) else xsF K n (a + 1) (d + 1) false)
    else if K a = 3 ∨ 140 ≤ K a then (if a = 400 then (a, 2) else xsF K n (a + 1) d true)
    else (a, 1)
  | n + 1, a, d, true =>
    if K a = 41 ∧ 0 < d then (if a = 400 then (a, 2) else xsF K n (a + 1) (d - 1) true)
    else if K a = 43 ∨ K a = 45 ∨ K a = 42 ∨ K a = 47 then (if a = 400 then (a, 2) else xsF K n (a + 1) d false)
    else if d = 0 then (a, 0) else (a, 1)
def xs (K : Int → Int) (a d : Int) (m : Bool) : Int × Int := xsF K (401 - a).toNat a d m
theorem xs_w {K : Int → Int} {a d : Int} (_ : 0 ≤ a) (h1 : a ≤ 400) : xs K a d false = if K a = 40 then (if d = 6 ∨ a = 400 then (a, 2) else xs K (a + 1) (d + 1) false) else if K a = 3 ∨ 140 ≤ K a then (if a = 400 then (a, 2) else xs K (a + 1) d true) else (a, 1) := by
  unfold xs
  rw [show (401 - a).toNat = (401 - (a + 1)).toNat + 1 by omega]
  rfl
theorem xs_a {K : Int → Int} {a d : Int} (_ : 0 ≤ a) (h1 : a ≤ 400) : xs K a d true = if K a = 41 ∧ 0 < d then (if a = 400 then (a, 2) else xs K (a + 1) (d - 1) true) else if K a = 43 ∨ K a = 45 ∨ K a = 42 ∨ K a = 47 then (if a = 400 then (a, 2) else xs K (a + 1) d false) else if d = 0 then (a, 0) else (a, 1) := by
  unfold xs
  rw [show (401 - a).toNat = (401 - (a + 1)).toNat + 1 by omega]
  rfl
theorem xs_open {K : Int → Int} {a d : Int} (h0 : 0 ≤ a) (h1 : a ≤ 399) (hk : K a = 40) (hd : ¬ d = 6) : xs K a d false = xs K (a + 1) (d + 1) false := by
  rw [xs_w h0 (by omega), if_pos hk, if_neg (by omega)]
theorem xs_open_f {K : Int → Int} {a d : Int} (h0 : 0 ≤ a) (h1 : a ≤ 400) (hk : K a = 40) (hd : d = 6 ∨ a = 400) : xs K a d false = (a, 2) := by
  rw [xs_w h0 h1, if_pos hk, if_pos hd]
theorem xs_unit {K : Int → Int} {a d : Int} (h0 : 0 ≤ a) (h1 : a ≤ 399) (hk : K a = 3 ∨ 140 ≤ K a) : xs K a d false = xs K (a + 1) d true := by
  rw [xs_w h0 (by omega), if_neg (by omega), if_pos hk, if_neg (by omega)]
theorem xs_unit_f {K : Int → Int} {a d : Int} (hk : K a = 3 ∨ 140 ≤ K a) (h0 : a = 400) : xs K a d false = (a, 2) := by
  rw [xs_w (by omega) (by omega), if_neg (by omega), if_pos hk, if_pos h0]
theorem xs_want_f {K : Int → Int} {a d : Int} (h0 : 0 ≤ a) (h1 : a ≤ 400) (hk : ¬ K a = 40 ∧ ¬ K a = 3 ∧ K a < 140) : xs K a d false = (a, 1) := by
  rw [xs_w h0 h1, if_neg hk.1, if_neg (by omega)]
theorem xs_close {K : Int → Int} {a d : Int} (h0 : 0 ≤ a) (h1 : a ≤ 399) (hk : K a = 41) (hd : 0 < d) : xs K a d true = xs K (a + 1) (d - 1) true := by
  rw [xs_a h0 (by omega), if_pos ⟨hk, hd⟩, if_neg (by omega)]
theorem xs_close_f {K : Int → Int} {a d : Int} (hk : K a = 41) (hd : 0 < d) (h0 : a = 400) : xs K a d true = (a, 2) := by
  rw [xs_a (by omega) (by omega), if_pos ⟨hk, hd⟩, if_pos h0]
theorem xs_sign {K : Int → Int} {a d : Int} (h0 : 0 ≤ a) (h1 : a ≤ 399) (hk : K a = 43 ∨ K a = 45 ∨ K a = 42 ∨ K a = 47) : xs K a d true = xs K (a + 1) d false := by
  rw [xs_a h0 (by omega), if_neg (by omega), if_pos hk, if_neg (by omega)]
theorem xs_sign_f {K : Int → Int} {a d : Int} (hk : K a = 43 ∨ K a = 45 ∨ K a = 42 ∨ K a = 47) (h0 : a = 400) : xs K a d true = (a, 2) := by
  rw [xs_a (by omega) (by omega), if_neg (by omega), if_pos hk, if_pos h0]
theorem xs_end {K : Int → Int} {a d : Int} (h0 : 0 ≤ a) (h1 : a ≤ 400) (hk : ¬ K a = 43 ∧ ¬ K a = 45 ∧ ¬ K a = 42 ∧ ¬ K a = 47) (hd : d = 0) : xs K a d true = (a, 0) := by
  rw [xs_a h0 h1, if_neg (by omega), if_neg (by omega), if_pos hd]
theorem xs_end_f {K : Int → Int} {a d : Int} (h0 : 0 ≤ a) (h1 : a ≤ 400) (hk : ¬ K a = 43 ∧ ¬ K a = 45 ∧ ¬ K a = 42 ∧ ¬ K a = 47) (hc : ¬ K a = 41) (hd : 0 < d) : xs K a d true = (a, 1) := by
  rw [xs_a h0 h1, if_neg (by omega), if_neg (by omega), if_neg (by omega)]
/-- pieces of a telling, one behind the other: where it ends and 0, or where it fails and the fault -/
abbrev pP : Type := Int → Int × Int
def pAcc (K : Int → Int) (k : Int) : pP := fun a => if K a = k then (if a = 400 then (a, 2) else (a + 1, 0)) else (a, 1)
def pSeq (f g : pP) : pP := fun a => if (f a).2 = 0 then g (f a).1 else f a
def pEx (K : Int → Int) : pP := fun a => xs K a 0 false
theorem pAcc_y {K : Int → Int} {k a : Int} (hk : K a = k) (h : a ≤ 399) : pAcc K k a = (a + 1, 0) := by
  unfold pAcc
  rw [if_pos hk, if_neg (by omega)]
theorem pAcc_r {K : Int → Int} {k a : Int} (hk : K a = k) (h : a = 400) : pAcc K k a = (a, 2) := by
  unfold pAcc
  rw [if_pos hk, if_pos h]
theorem pAcc_n {K : Int → Int} {k a : Int} (hk : ¬ K a = k) : pAcc K k a = (a, 1) := by
  unfold pAcc
  rw [if_neg hk]
theorem pSeq_y {f g : pP} {a b : Int} (h : f a = (b, 0)) : pSeq f g a = g b := by
  unfold pSeq
  rw [h, if_pos rfl]
theorem pSeq_n {f g : pP} {a b c : Int} (h : f a = (b, c)) (hc : ¬ c = 0) : pSeq f g a = (b, c) := by
  unfold pSeq
  rw [h, if_neg hc]
/-- a law behind its =, with n ifs still to come -/
def wLaw (K : Int → Int) : Nat → pP
  | 0 => fun a => if K a = 137 then (a, 2) else pSeq (pEx K) (pAcc K 59) a
  | n + 1 => fun a => if K a = 137 then pSeq (pAcc K 137) (pSeq (pEx K) (pSeq (pAcc K 60) (pSeq (pEx K) (pSeq (pAcc K 138) (pSeq (pEx K) (pSeq (pAcc K 139) (wLaw K n))))))) a else pSeq (pEx K) (pAcc K 59) a
theorem wLaw_end {K : Int → Int} {n : Nat} {a : Int} (h : ¬ K a = 137) : wLaw K n a = pSeq (pEx K) (pAcc K 59) a := by
  cases n with
  | zero => unfold wLaw; rw [if_neg h]
  | succ n => unfold wLaw; rw [if_neg h]
theorem wLaw_full {K : Int → Int} {a : Int} (h : K a = 137) : wLaw K 0 a = (a, 2) := by
  unfold wLaw
  rw [if_pos h]
theorem wLaw_if {K : Int → Int} {n : Nat} {a : Int} (h : K a = 137) : wLaw K (n + 1) a = pSeq (pAcc K 137) (pSeq (pEx K) (pSeq (pAcc K 60) (pSeq (pEx K) (pSeq (pAcc K 138) (pSeq (pEx K) (pSeq (pAcc K 139) (wLaw K n))))))) a := by
  rw [wLaw]
  exact if_pos h
/-- one telling; h, v: houses and verses told already -/
def pTell (K : Int → Int) (h v : Int) : pP := fun a =>
  if K a = 128 then (if 5 ≤ h then (a, 2) else pSeq (pAcc K 128) (pSeq (pAcc K 2) (pSeq (pAcc K 2) (pAcc K 59))) a)
  else if K a = 129 then (if 7 ≤ v then (a, 2) else pSeq (pAcc K 129) (pSeq (pAcc K 2) (pSeq (pAcc K 2) (pSeq (pAcc K 3) (pSeq (pAcc K 3) (pAcc K 59))))) a)
  else if 130 ≤ K a ∧ K a ≤ 133 then pSeq (pAcc K (K a)) (pSeq (pAcc K 61) (wLaw K 4)) a
  else if 134 ≤ K a ∧ K a ≤ 136 then pSeq (pAcc K (K a)) (pSeq (pAcc K 3) (pAcc K 59)) a
  else (a, 1)
/-- faults that count only in a text without others: the first stands -/
def pNote (c p : Int) (b : Bool) (w : Int × Int) : Int × Int := if b = true ∧ w.1 = 0 then (c, p) else w
/-- what a telling notes: sm: two names alike, lt: all its letters a .. h, vl: an int's number -/
def pLater (K P : Int → Int) (sm : Int → Int → Bool) (lt : Int → Bool) (vl : Int → Int) (ns : List Int) (a : Int) (w : Int × Int) : Int × Int :=
  if K a = 128 then pNote 6 (P (a + 2)) (!lt (a + 2)) (pNote 3 (P (a + 1)) (ns.any (fun i => sm i (a + 1))) w)
  else if K a = 129 then pNote 5 (P (a + 4)) (decide (99 < vl (a + 4))) (pNote 5 (P (a + 3)) (decide (99 < vl (a + 3))) (pNote 6 (P (a + 2)) (!lt (a + 2)) (pNote 3 (P (a + 1)) (ns.any (fun i => sm i (a + 1))) w)))
  else if K a = 134 then pNote 5 (P (a + 1)) (decide (vl (a + 1) < 1 ∨ 99 < vl (a + 1))) w
  else if K a = 135 then pNote 5 (P (a + 1)) (decide (100 < vl (a + 1))) w
  else w
/-- a whole text from token a on: the fault's number (0: none) and its place -/
def pText (K P : Int → Int) (sm : Int → Int → Bool) (lt : Int → Bool) (vl : Int → Int) : Nat → Int → Int → Int → List Int → Int × Int → Int × Int
  | 0, _, _, _, _, w => w
  | n + 1, a, h, v, ns, w =>
    if K a = 0 then w
    else if (pTell K h v a).2 = 0 then pText K P sm lt vl n (pTell K h v a).1 (if K a = 128 then h + 1 else h) (if K a = 129 then v + 1 else v) (if K a = 128 ∨ K a = 129 then ns ++ [a + 1] else ns) (pLater K P sm lt vl ns a w)
    else ((pTell K h v a).2, P (pTell K h v a).1)
theorem xsF_at {K : Int → Int} : ∀ (n : Nat) (a d : Int) (m : Bool), a ≤ (xsF K n a d m).1
  | 0, a, d, m => by unfold xsF; exact Int.le_refl a
  | n + 1, a, d, false => by
    unfold xsF
    have h1 := xsF_at (K := K) n (a + 1) (d + 1) false
    have h2 := xsF_at (K := K) n (a + 1) d true
    split
    · split
      · exact Int.le_refl a
      · omega
    · split
      · split
        · exact Int.le_refl a
        · omega
      · exact Int.le_refl a
  | n + 1, a, d, true => by
    unfold xsF
    have h1 := xsF_at (K := K) n (a + 1) (d - 1) true
    have h2 := xsF_at (K := K) n (a + 1) d false
    split
    · split
      · exact Int.le_refl a
      · omega
    · split
      · split
        · exact Int.le_refl a
        · omega
      · split
        · exact Int.le_refl a
        · exact Int.le_refl a
/-- only kinds on the way count -/
theorem xsF_cg {K K' : Int → Int} : ∀ (n : Nat) (a d : Int) (m : Bool), 0 ≤ a → a ≤ 400 → (∀ b, a ≤ b → b ≤ 400 → (∀ c, a ≤ c → c < b → 2 ≤ K c) → K' b = K b) → xsF K' n a d m = xsF K n a d m
  | 0, a, d, m, _, _, _ => by unfold xsF; rfl
  | n + 1, a, d, false, h0, h1, h => by
    have e : K' a = K a := h a (Int.le_refl a) h1 (fun c _ _ => by omega)
    have st : 2 ≤ K a → ¬ a = 400 → ∀ b, a + 1 ≤ b → b ≤ 400 → (∀ c, a + 1 ≤ c → c < b → 2 ≤ K c) → K' b = K b := by
      intro hk _ b b1 b2 b3
      refine h b (by omega) b2 (fun c c1 c2 => ?_)
      by_cases hc : c = a
      · rw [hc]; exact hk
      · exact b3 c (by omega) c2
    unfold xsF
    rw [e]
    by_cases c1 : K a = 40
    · rw [if_pos c1, if_pos c1]
      by_cases c2 : d = 6 ∨ a = 400
      · rw [if_pos c2, if_pos c2]
      · rw [if_neg c2, if_neg c2]
        exact xsF_cg n (a + 1) (d + 1) false (by omega) (by omega) (st (by omega) (by omega))
    · rw [if_neg c1, if_neg c1]
      by_cases c2 : K a = 3 ∨ 140 ≤ K a
      · rw [if_pos c2, if_pos c2]
        by_cases c3 : a = 400
        · rw [if_pos c3, if_pos c3]
        · rw [if_neg c3, if_neg c3]
          exact xsF_cg n (a + 1) d true (by omega) (by omega) (st (by omega) c3)
      · rw [if_neg c2, if_neg c2]
  | n + 1, a, d, true, h0, h1, h => by
    have e : K' a = K a := h a (Int.le_refl a) h1 (fun c _ _ => by omega)
    have st : 2 ≤ K a → ¬ a = 400 → ∀ b, a + 1 ≤ b → b ≤ 400 → (∀ c, a + 1 ≤ c → c < b → 2 ≤ K c) → K' b = K b := by
      intro hk _ b b1 b2 b3
      refine h b (by omega) b2 (fun c c1 c2 => ?_)
      by_cases hc : c = a
      · rw [hc]; exact hk
      · exact b3 c (by omega) c2
    unfold xsF
    rw [e]
    by_cases c1 : K a = 41 ∧ 0 < d
    · rw [if_pos c1, if_pos c1]
      by_cases c2 : a = 400
      · rw [if_pos c2, if_pos c2]
      · rw [if_neg c2, if_neg c2]
        exact xsF_cg n (a + 1) (d - 1) true (by omega) (by omega) (st (by omega) c2)
    · rw [if_neg c1, if_neg c1]
      by_cases c2 : K a = 43 ∨ K a = 45 ∨ K a = 42 ∨ K a = 47
      · rw [if_pos c2, if_pos c2]
        by_cases c3 : a = 400
        · rw [if_pos c3, if_pos c3]
        · rw [if_neg c3, if_neg c3]
          exact xsF_cg n (a + 1) d false (by omega) (by omega) (st (by omega) c3)
      · rw [if_neg c2, if_neg c2]
