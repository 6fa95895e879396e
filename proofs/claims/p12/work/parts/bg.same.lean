/-! ===== THE SAME BYTES, THE SAME TOKENS, THE SAME ANSWER ===== -/
theorem tkSk_uq {B : Int → Int} {n i j k : Int} (h : tkSk B n i j) (g : tkSk B n i k) : j = k := by
  obtain ⟨⟨h1, h2⟩, h3, h4⟩ := h
  obtain ⟨⟨g1, g2⟩, g3, g4⟩ := g
  rcases Int.lt_trichotomy j k with q | q | q
  · exact absurd (g3 j h1 q) (h4 (by omega))
  · exact q
  · exact absurd (h3 k g1 q) (g4 (by omega))
theorem tkRn_uq {B : Int → Int} {n i s t : Int} {p : Int → Prop} (hs : i + s ≤ n) (ht : i + t ≤ n) (h0 : 0 ≤ s) (h1 : 0 ≤ t) (h : tkRn B n i s p) (g : tkRn B n i t p) : s = t := by
  rcases Int.lt_trichotomy s t with q | q | q
  · exact absurd (g.1 (i + s) (by omega) (by omega)) (h.2 (by omega))
  · exact q
  · exact absurd (h.1 (i + t) (by omega) (by omega)) (g.2 (by omega))
theorem tkLD {c : Int} (h : tkLo c) : ¬ tkDi c := by unfold tkLo at h; unfold tkDi; omega
theorem tkSz_uq {B : Int → Int} {n i s t : Int} (h : tkSz B n i s) (g : tkSz B n i t) : s = t := by
  obtain ⟨⟨a1, a2⟩, h⟩ := h
  obtain ⟨⟨b1, b2⟩, g⟩ := g
  rcases h with ⟨h1, h2⟩ | ⟨h1, h2⟩ | ⟨h1, h2, h3⟩
  · rcases g with ⟨g1, g2⟩ | ⟨g1, g2⟩ | ⟨g1, g2, g3⟩
    · exact tkRn_uq a2 b2 (by omega) (by omega) h2 g2
    · exact absurd g1 (tkLD h1)
    · exact absurd h1 g1
  · rcases g with ⟨g1, g2⟩ | ⟨g1, g2⟩ | ⟨g1, g2, g3⟩
    · exact absurd h1 (tkLD g1)
    · exact tkRn_uq a2 b2 (by omega) (by omega) h2 g2
    · exact absurd h1 g2
  · rcases g with ⟨g1, g2⟩ | ⟨g1, g2⟩ | ⟨g1, g2, g3⟩
    · exact absurd g1 h1
    · exact absurd g1 h2
    · omega
set_option maxRecDepth 100000 in
theorem tkW_uq : ∀ w, w < 21 → ∀ v, v < 21 → (∀ k, k < 8 → tkW (8 * w + k) = tkW (8 * v + k)) → w = v := by decide +kernel
theorem tkWd_uq {B : Int → Int} {i s : Int} {w v : Nat} (hw : w < 21) (hv : v < 21) (h : tkWd B i s w) (g : tkWd B i s v) : w = v := tkW_uq w hw v hv (fun k hk => (h k hk).symm.trans (g k hk))
theorem tkKd_uq {B : Int → Int} {i s k l : Int} (h : tkKd B i s k) (g : tkKd B i s l) : k = l := by
  by_cases c1 : tkLo (B i)
  · have c2 := tkLD c1
    rcases h with ⟨-, h2, h3⟩ | ⟨-, h2, h3⟩ | ⟨h1, -⟩ | ⟨h1, -⟩ | ⟨h1, -⟩
    · rcases g with ⟨-, g2, g3⟩ | ⟨-, g2, g3⟩ | ⟨g1, -⟩ | ⟨g1, -⟩ | ⟨g1, -⟩
      · omega
      · omega
      · exact absurd g1 c2
      · exact absurd g1 c2
      · exact absurd c1 g1
    · rcases g with ⟨-, g2, g3⟩ | ⟨-, g2, g3⟩ | ⟨g1, -⟩ | ⟨g1, -⟩ | ⟨g1, -⟩
      · omega
      · rcases h3 with ⟨w, w1, w2, w3⟩ | ⟨w1, w2⟩
        · rcases g3 with ⟨v, v1, v2, v3⟩ | ⟨v1, v2⟩
          · have := tkWd_uq w1 v1 w2 v2
            omega
          · exact absurd w2 (v1 w w1)
        · rcases g3 with ⟨v, v1, v2, v3⟩ | ⟨v1, v2⟩
          · exact absurd v2 (w1 v v1)
          · omega
      · exact absurd g1 c2
      · exact absurd g1 c2
      · exact absurd c1 g1
    · exact absurd h1 c2
    · exact absurd h1 c2
    · exact absurd c1 h1
  · by_cases c2 : tkDi (B i)
    · rcases h with ⟨h1, -⟩ | ⟨h1, -⟩ | ⟨-, h2, h3⟩ | ⟨-, h2, h3⟩ | ⟨-, h1, -⟩
      · exact absurd h1 c1
      · exact absurd h1 c1
      · rcases g with ⟨g1, -⟩ | ⟨g1, -⟩ | ⟨-, g2, g3⟩ | ⟨-, g2, g3⟩ | ⟨-, g1, -⟩
        · exact absurd g1 c1
        · exact absurd g1 c1
        · omega
        · omega
        · exact absurd c2 g1
      · rcases g with ⟨g1, -⟩ | ⟨g1, -⟩ | ⟨-, g2, g3⟩ | ⟨-, g2, g3⟩ | ⟨-, g1, -⟩
        · exact absurd g1 c1
        · exact absurd g1 c1
        · omega
        · omega
        · exact absurd c2 g1
      · exact absurd c2 h1
    · rcases h with ⟨h1, -⟩ | ⟨h1, -⟩ | ⟨h1, -⟩ | ⟨h1, -⟩ | ⟨-, -, h3⟩
      · exact absurd h1 c1
      · exact absurd h1 c1
      · exact absurd h1 c2
      · exact absurd h1 c2
      · rcases g with ⟨g1, -⟩ | ⟨g1, -⟩ | ⟨g1, -⟩ | ⟨g1, -⟩ | ⟨-, -, g3⟩
        · exact absurd g1 c1
        · exact absurd g1 c1
        · exact absurd g1 c2
        · exact absurd g1 c2
        · rcases h3 with ⟨h4, h5⟩ | ⟨h4, h5⟩
          · rcases g3 with ⟨g4, g5⟩ | ⟨g4, g5⟩
            · omega
            · exact absurd h4 g4
          · rcases g3 with ⟨g4, g5⟩ | ⟨g4, g5⟩
            · exact absurd g4 h4
            · omega
/-- bytes beyond the text don't count -/
theorem tkSk_cg {B C : Int → Int} {n i j : Int} (h0 : 0 ≤ i) (e : ∀ k, 0 ≤ k → k < n → C k = B k) (h : tkSk B n i j) : tkSk C n i j := ⟨h.1, fun k k0 k1 => by rw [e k (by omega) (by have := h.1; omega)]; exact h.2.1 k k0 k1, fun q => by rw [e j (by have := h.1; omega) q]; exact h.2.2 q⟩
theorem tkRn_cg {B C : Int → Int} {n i s : Int} {p : Int → Prop} (h0 : 0 ≤ i) (hs : 0 ≤ s ∧ i + s ≤ n) (e : ∀ k, 0 ≤ k → k < n → C k = B k) (h : tkRn B n i s p) : tkRn C n i s p := ⟨fun k k0 k1 => by rw [e k (by omega) (by omega)]; exact h.1 k k0 k1, fun q => by rw [e (i + s) (by omega) q]; exact h.2 q⟩
theorem tkSz_cg {B C : Int → Int} {n i s : Int} (h0 : 0 ≤ i) (e : ∀ k, 0 ≤ k → k < n → C k = B k) (h : tkSz B n i s) : tkSz C n i s := by
  obtain ⟨⟨h1, h2⟩, h3⟩ := h
  refine ⟨⟨h1, h2⟩, ?_⟩
  rw [e i h0 (by omega)]
  rcases h3 with ⟨a, b⟩ | ⟨a, b⟩ | h3
  · exact Or.inl ⟨a, tkRn_cg h0 ⟨by omega, h2⟩ e b⟩
  · exact Or.inr (Or.inl ⟨a, tkRn_cg h0 ⟨by omega, h2⟩ e b⟩)
  · exact Or.inr (Or.inr h3)
theorem tkKd_cg {B C : Int → Int} {n i s k : Int} (h0 : 0 ≤ i) (hs : 1 ≤ s ∧ i + s ≤ n) (e : ∀ k, 0 ≤ k → k < n → C k = B k) (h : tkKd B i s k) : tkKd C i s k := by
  have ew : ∀ w, tkWd C i s w ↔ tkWd B i s w := fun w => by
    unfold tkWd
    refine forall_congr' fun k => forall_congr' fun _ => ?_
    by_cases q : (k : Int) < s
    · rw [if_pos q, if_pos q, e _ (by omega) (by omega)]
    · rw [if_neg q, if_neg q]
  unfold tkKd at *
  rw [e i h0 (by omega)]
  simp only [ew]
  exact h
theorem tkC_cg {B C : Int → Int} {n : Int} {P S K : Int → Int} {E : Int} (e : ∀ k, 0 ≤ k → k < n → C k = B k) (h : tkC B n P S K E) : tkC C n P S K E := by
  obtain ⟨h1, h2, h3, h4, h5⟩ := h
  refine ⟨h1, fun a a0 a1 => ?_, tkSk_cg (Int.le_refl 0) e h3, fun a a0 a1 => ?_, ?_⟩
  · obtain ⟨g1, g2, g3, g4, g5⟩ := h2 a a0 a1
    exact ⟨g1, g2, tkSz_cg g1 e g3, tkKd_cg g1 g3.1 e g4, g5⟩
  · obtain ⟨g1, g2, g3, g4, g5⟩ := h2 a a0 a1
    exact tkSk_cg (by have := g3.1; omega) e (h4 a a0 a1)
  · rcases h5 with h5 | ⟨g1, g2, g3, g4, g5⟩
    · exact Or.inl h5
    · exact Or.inr ⟨g1, g2, tkSz_cg g1 e g3, tkKd_cg g1 g3.1 e g4, g5⟩
/-- what stands at a token -/
theorem tkC_at {B : Int → Int} {n : Int} {P S K : Int → Int} {E a : Int} (h : tkC B n P S K E) (h0 : 0 ≤ a) (h1 : a ≤ E) : (a = E ∧ P a = n ∧ K a = 0) ∨ (0 ≤ P a ∧ P a < n ∧ tkSz B n (P a) (S a) ∧ tkKd B (P a) (S a) (K a) ∧ ¬ K a = 0) := by
  obtain ⟨g1, g2, g3, g4, g5⟩ := h
  by_cases q : a = E
  · subst q
    rcases g5 with g5 | g5
    · exact Or.inl ⟨rfl, g5⟩
    · exact Or.inr g5
  · exact Or.inr (g2 a h0 (by omega))
theorem tk_same {B : Int → Int} {n : Int} {P S K P' S' K' : Int → Int} {E m : Int} (h : tkC B n P S K E) (h2 : ∀ a, 0 ≤ a → a < E → 2 ≤ K a) (g : tkC B n P' S' K' m) (g0 : m < 400 → K' m = 0) : ∀ a : Nat, (a : Int) ≤ E → (a : Int) ≤ m ∧ P' a = P a ∧ K' a = K a ∧ (¬ K a = 0 → S' a = S a) := by
  have same : ∀ a : Int, 0 ≤ a → a ≤ E → a ≤ m → P' a = P a → K' a = K a ∧ (¬ K a = 0 → S' a = S a) := by
    intro a a0 a1 a2 e
    rcases tkC_at h a0 a1 with ⟨q1, q2, q3⟩ | ⟨q1, q2, q3, q4, q5⟩
    · rcases tkC_at g a0 a2 with ⟨r1, r2, r3⟩ | ⟨r1, r2, r3, r4, r5⟩
      · exact ⟨by omega, fun q => absurd q3 q⟩
      · omega
    · rcases tkC_at g a0 a2 with ⟨r1, r2, r3⟩ | ⟨r1, r2, r3, r4, r5⟩
      · omega
      · rw [e] at r3 r4
        have es := tkSz_uq r3 q3
        rw [es] at r4
        exact ⟨tkKd_uq r4 q4, fun _ => es⟩
  intro a
  induction a with
  | zero =>
    intro _
    have e : P' 0 = P 0 := tkSk_uq g.2.2.1 h.2.2.1
    have := g.1
    exact ⟨by omega, e, same 0 (Int.le_refl 0) h.1.1 (by omega) e⟩
  | succ a ih =>
    intro ha
    obtain ⟨i1, i2, i3, i4⟩ := ih (by omega)
    have k2 := h2 a (by omega) (by omega)
    have hlt : (a : Int) < m := by
      by_cases q : (a : Int) = m
      · have := g0 (by have := h.1; omega)
        rw [← q] at this
        omega
      · omega
    have s1 := h.2.2.2.1 a (by omega) (by omega)
    have s2 := g.2.2.2.1 a (by omega) hlt
    rw [i2, i4 (by omega)] at s2
    have e := tkSk_uq s2 s1
    rw [show ((a + 1 : Nat) : Int) = (a : Int) + 1 by omega]
    exact ⟨by omega, e, same _ (by omega) (by omega) (by omega) e⟩
/-- places rise -/
theorem tkC_up {B : Int → Int} {n : Int} {P S K : Int → Int} {E : Int} (h : tkC B n P S K E) : ∀ (d : Nat) (a : Int), 0 ≤ a → a + 1 + d ≤ E → P a < P (a + 1 + d)
  | 0, a, a0, a1 => by
    have h1 := h.2.1 a a0 (by omega)
    have h2 := h.2.2.2.1 a a0 (by omega)
    have h3 := h1.2.2.1.1
    have h4 := h2.1
    rw [show a + 1 + ((0 : Nat) : Int) = a + 1 by omega]
    omega
  | d + 1, a, a0, a1 => by
    have h1 := tkC_up h d a a0 (by omega)
    have h2 := tkC_up h 0 (a + 1 + d) (by omega) (by omega)
    rw [show a + 1 + (d : Int) + 1 + ((0 : Nat) : Int) = a + 1 + ((d + 1 : Nat) : Int) by omega] at h2
    omega
theorem tkKd_3 {B : Int → Int} {i s : Int} (h : tkKd B i s 3) : tkDi (B i) ∧ s ≤ 4 := by
  rcases h with ⟨-, -, h⟩ | ⟨-, -, ⟨w, -, -, h⟩ | ⟨-, h⟩⟩ | ⟨-, -, h⟩ | ⟨h1, h2, -⟩ | ⟨-, -, ⟨h1, h⟩ | ⟨-, h⟩⟩
  · omega
  · omega
  · omega
  · omega
  · exact ⟨h1, h2⟩
  · unfold tkSg at h1; omega
  · omega
theorem tkKd_2 {B : Int → Int} {i s : Int} (h : tkKd B i s 2) : tkLo (B i) ∧ s ≤ 8 := by
  rcases h with ⟨-, -, h⟩ | ⟨h1, h2, -⟩ | ⟨-, -, h⟩ | ⟨-, -, h⟩ | ⟨-, -, ⟨h1, h⟩ | ⟨-, h⟩⟩
  · omega
  · exact ⟨h1, h2⟩
  · omega
  · omega
  · unfold tkSg at h1; omega
  · omega
theorem tkSz_d {B : Int → Int} {n i s : Int} (h : tkSz B n i s) (hd : tkDi (B i)) : ∀ k, i ≤ k → k < i + s → tkDi (B k) := by
  rcases h.2 with ⟨h1, -⟩ | ⟨-, h2⟩ | ⟨-, h1, -⟩
  · exact absurd hd (tkLD h1)
  · exact h2.1
  · exact absurd hd h1
theorem tkSz_l {B : Int → Int} {n i s : Int} (h : tkSz B n i s) (hd : tkLo (B i)) : ∀ k, i ≤ k → k < i + s → tkLo (B k) := by
  rcases h.2 with ⟨-, h2⟩ | ⟨h1, -⟩ | ⟨h1, -⟩
  · exact h2.1
  · exact absurd h1 (tkLD hd)
  · exact absurd hd h1
/-- the class's tokens, as its parser wants them -/
theorem cTV_of {μ ν : xM} {n E : Int} (hn : n ≤ 2000) (h : tkC (kB μ 1) n (cP ν) (cS ν) (cK ν) E) (h1 : E < 400 → cK ν E ≤ 1) (hB : ∀ j, ν.1 1 j = μ.1 1 j) : cTV ν E := by
  have eB : kB ν 1 = kB μ 1 := by funext i; unfold kB; rw [hB]
  refine ⟨h.1, h1, fun a a0 a1 => ?_⟩
  have e : ∀ i : Nat, 0 ≤ cP ν a → (ν.1 1 ((cP ν a).toNat + i)).toInt = kB μ 1 (cP ν a + i) := fun i q => by rw [← eB]; unfold kB; rw [show (cP ν a + (i : Int)).toNat = (cP ν a).toNat + i by omega]
  rcases tkC_at h a0 a1 with ⟨q1, q2, q3⟩ | ⟨q1, q2, q3, q4, q5⟩
  · have hnn := (h.2.2.1).1
    exact ⟨⟨by omega, by omega⟩, fun q => by omega, fun q => by omega⟩
  · have hs := q3.1
    refine ⟨⟨q1, by omega⟩, fun q => ?_, fun q => ?_⟩
    · rw [q] at q4
      obtain ⟨d1, d2⟩ := tkKd_3 q4
      refine ⟨hs.1, d2, fun i hi => ?_⟩
      rw [e i q1]
      exact tkSz_d q3 d1 _ (by omega) (by omega)
    · rw [q] at q4
      obtain ⟨d1, d2⟩ := tkKd_2 q4
      refine ⟨hs.1, d2, fun i hi => ?_⟩
      rw [e i q1]
      exact tkSz_l q3 d1 _ (by omega) (by omega)
/-- the reference's tokens, as its parser wants them -/
theorem qzT_of {B : Int → Int} {ν : xM} {n m : Int} {S : Int → Int} (h : tkC B n (rP ν) S (rK ν) m) (h0 : m < 400 → rK ν m = 0) (hv : rkV B S ν (m + 1)) : qzT ν m := by
  refine ⟨h.1, h0, fun a a0 a1 => (h.2.1 a a0 a1).2.2.2.2, fun a b a0 a1 a2 => ?_, fun a a0 a1 => ?_⟩
  · have := tkC_up h (b - a - 1).toNat a a0 (by omega)
    rw [show a + 1 + ((b - a - 1).toNat : Int) = b by omega] at this
    exact this
  · have hva := hv a a0 (by omega)
    refine ⟨fun q => ?_, fun q => ?_⟩
    · rcases tkC_at h a0 a1 with ⟨q1, q2, q3⟩ | ⟨q1, q2, q3, q4, q5⟩
      · omega
      · rw [q] at q4
        obtain ⟨d1, d2⟩ := tkKd_3 q4
        rw [hva.1 q]
        have hs := q3.1
        have hd := dgv_b (B := B) (i := rP ν a) (k := (S a).toNat) (fun j hj => tkSz_d q3 d1 _ (by omega) (by omega))
        have h10 : (10 : Int) ^ (S a).toNat ≤ 10000 := by
          have : (S a).toNat = 1 ∨ (S a).toNat = 2 ∨ (S a).toNat = 3 ∨ (S a).toNat = 4 := by omega
          rcases this with e | e | e | e <;> rw [e] <;> decide
        omega
    · rcases tkC_at h a0 a1 with ⟨q1, q2, q3⟩ | ⟨q1, q2, q3, q4, q5⟩
      · omega
      · rw [q] at q4
        obtain ⟨d1, d2⟩ := tkKd_2 q4
        have hs := q3.1
        exact ⟨_, ⟨tkEs_d (fun j hj => tkSz_l q3 d1 _ (by omega) (by omega)), by rw [tkEs_len]; omega⟩, hva.2 q5 d1 d2⟩
/-! a text's answer depends on what is read alone -/
def cgP (E : Int) (F F' : pP) : Prop := ∀ a, 0 ≤ a → a ≤ E → F' a = F a ∧ a ≤ (F a).1 ∧ (F a).1 ≤ E
theorem cg_seq {E : Int} {F F' G G' : pP} (h : cgP E F F') (g : cgP E G G') : cgP E (pSeq F G) (pSeq F' G') := fun a a0 a1 => by
  obtain ⟨h1, h2, h3⟩ := h a a0 a1
  unfold pSeq
  rw [h1]
  by_cases q : (F a).2 = 0
  · rw [if_pos q, if_pos q]
    obtain ⟨g1, g2, g3⟩ := g (F a).1 (by omega) h3
    exact ⟨g1, by omega, g3⟩
  · rw [if_neg q, if_neg q]
    exact ⟨rfl, h2, h3⟩
theorem cg_acc {E : Int} {K K' : Int → Int} (hK : ∀ a, 0 ≤ a → a ≤ E → K' a = K a) (h1 : E < 400 → K E ≤ 1) (h4 : E ≤ 400) {k : Int} (hk : 2 ≤ k) : cgP E (pAcc K k) (pAcc K' k) := fun a a0 a1 => by
  unfold pAcc
  rw [hK a a0 a1]
  by_cases q : K a = k
  · rw [if_pos q]
    by_cases r : a = 400
    · rw [if_pos r]
      exact ⟨rfl, Int.le_refl a, a1⟩
    · rw [if_neg r]
      refine ⟨rfl, by show a ≤ a + 1; omega, ?_⟩
      show a + 1 ≤ E
      by_cases s : a = E
      · subst s
        have := h1 (by omega)
        omega
      · omega
  · rw [if_neg q]
    exact ⟨rfl, Int.le_refl a, a1⟩
theorem xsF_e {K : Int → Int} {E : Int} (h1 : E < 400 → K E ≤ 1) (h4 : E ≤ 400) : ∀ (n : Nat) (a d : Int) (b : Bool), a ≤ E → (xsF K n a d b).1 ≤ E
  | 0, a, d, b, h => by unfold xsF; exact h
  | n + 1, a, d, false, h => by
    have on : ¬ a = 400 → 2 ≤ K a → a + 1 ≤ E := fun q1 q2 => by
      by_cases e : a = E
      · subst e; have := h1 (by omega); omega
      · omega
    unfold xsF
    split
    · split
      · exact h
      · exact xsF_e h1 h4 n _ _ _ (on (by omega) (by omega))
    · split
      · split
        · exact h
        · exact xsF_e h1 h4 n _ _ _ (on (by omega) (by omega))
      · exact h
  | n + 1, a, d, true, h => by
    have on : ¬ a = 400 → 2 ≤ K a → a + 1 ≤ E := fun q1 q2 => by
      by_cases e : a = E
      · subst e; have := h1 (by omega); omega
      · omega
    unfold xsF
    split
    · split
      · exact h
      · exact xsF_e h1 h4 n _ _ _ (on (by omega) (by omega))
    · split
      · split
        · exact h
        · exact xsF_e h1 h4 n _ _ _ (on (by omega) (by omega))
      · split
        · exact h
        · exact h
theorem cg_ex {E : Int} {K K' : Int → Int} (hK : ∀ a, 0 ≤ a → a ≤ E → K' a = K a) (h1 : E < 400 → K E ≤ 1) (h4 : E ≤ 400) : cgP E (pEx K) (pEx K') := fun a a0 a1 => by
  refine ⟨?_, xsF_at _ _ _ _, xsF_e h1 h4 _ _ _ _ a1⟩
  unfold pEx xs
  refine xsF_cg _ _ _ _ a0 (by omega) (fun b b0 b1 b2 => ?_)
  by_cases q : b ≤ E
  · exact hK b (by omega) q
  · have g1 := b2 E a1 (by omega)
    have g2 := h1 (by omega)
    omega
theorem cg_law {E : Int} {K K' : Int → Int} (hK : ∀ a, 0 ≤ a → a ≤ E → K' a = K a) (h1 : E < 400 → K E ≤ 1) (h4 : E ≤ 400) : ∀ n : Nat, cgP E (wLaw K n) (wLaw K' n)
  | 0 => fun a a0 a1 => by
    by_cases q : K a = 137
    · rw [wLaw_full q, wLaw_full (by rw [hK a a0 a1]; exact q)]
      exact ⟨rfl, Int.le_refl a, a1⟩
    · rw [wLaw_end q, wLaw_end (by rw [hK a a0 a1]; exact q)]
      exact cg_seq (cg_ex hK h1 h4) (cg_acc hK h1 h4 (by decide)) a a0 a1
  | n + 1 => fun a a0 a1 => by
    by_cases q : K a = 137
    · rw [wLaw_if q, wLaw_if (by rw [hK a a0 a1]; exact q)]
      exact cg_seq (cg_acc hK h1 h4 (by decide)) (cg_seq (cg_ex hK h1 h4) (cg_seq (cg_acc hK h1 h4 (by decide)) (cg_seq (cg_ex hK h1 h4) (cg_seq (cg_acc hK h1 h4 (by decide)) (cg_seq (cg_ex hK h1 h4) (cg_seq (cg_acc hK h1 h4 (by decide)) (cg_law hK h1 h4 n))))))) a a0 a1
    · rw [wLaw_end q, wLaw_end (by rw [hK a a0 a1]; exact q)]
      exact cg_seq (cg_ex hK h1 h4) (cg_acc hK h1 h4 (by decide)) a a0 a1
theorem cg_tell {E h v : Int} {K K' : Int → Int} (hK : ∀ a, 0 ≤ a → a ≤ E → K' a = K a) (h1 : E < 400 → K E ≤ 1) (h4 : E ≤ 400) : cgP E (pTell K h v) (pTell K' h v) := fun a a0 a1 => by
  have e := hK a a0 a1
  have AC : ∀ k : Int, 2 ≤ k → cgP E (pAcc K k) (pAcc K' k) := fun k hk => cg_acc hK h1 h4 hk
  unfold pTell
  rw [e]
  by_cases c1 : K a = 128
  · rw [if_pos c1, if_pos c1]
    by_cases c2 : 5 ≤ h
    · rw [if_pos c2, if_pos c2]
      exact ⟨rfl, Int.le_refl a, a1⟩
    · rw [if_neg c2, if_neg c2]
      exact cg_seq (AC 128 (by decide)) (cg_seq (AC 2 (by decide)) (cg_seq (AC 2 (by decide)) (AC 59 (by decide)))) a a0 a1
  · rw [if_neg c1, if_neg c1]
    by_cases c3 : K a = 129
    · rw [if_pos c3, if_pos c3]
      by_cases c2 : 7 ≤ v
      · rw [if_pos c2, if_pos c2]
        exact ⟨rfl, Int.le_refl a, a1⟩
      · rw [if_neg c2, if_neg c2]
        exact cg_seq (AC 129 (by decide)) (cg_seq (AC 2 (by decide)) (cg_seq (AC 2 (by decide)) (cg_seq (AC 3 (by decide)) (cg_seq (AC 3 (by decide)) (AC 59 (by decide)))))) a a0 a1
    · rw [if_neg c3, if_neg c3]
      by_cases c4 : 130 ≤ K a ∧ K a ≤ 133
      · rw [if_pos c4, if_pos c4]
        exact cg_seq (AC (K a) (by omega)) (cg_seq (AC 61 (by decide)) (cg_law hK h1 h4 4)) a a0 a1
      · rw [if_neg c4, if_neg c4]
        by_cases c5 : 134 ≤ K a ∧ K a ≤ 136
        · rw [if_pos c5, if_pos c5]
          exact cg_seq (AC (K a) (by omega)) (cg_seq (AC 3 (by decide)) (AC 59 (by decide))) a a0 a1
        · rw [if_neg c5, if_neg c5]
          exact ⟨rfl, Int.le_refl a, a1⟩
def wEq (w' w : Int × Int) : Prop := w'.1 = w.1 ∧ (¬ w.1 = 0 → w'.2 = w.2)
theorem wEq_rf {w : Int × Int} : wEq w w := ⟨rfl, fun _ => rfl⟩
theorem wEq_n {c p p' : Int} {b b' : Bool} {w w' : Int × Int} (h : wEq w' w) (hp : p' = p) (hb : b' = b) : wEq (pNote c p' b' w') (pNote c p b w) := by
  subst hp hb
  unfold pNote
  rw [h.1]
  by_cases q : b' = true ∧ w.1 = 0
  · rw [if_pos q, if_pos q]; exact wEq_rf
  · rw [if_neg q, if_neg q]; exact h
theorem text_cg {E : Int} {K K' P P' : Int → Int} {sm sm' : Int → Int → Bool} {lt lt' : Int → Bool} {vl vl' : Int → Int} (hK : ∀ a, 0 ≤ a → a ≤ E → K' a = K a) (hP : ∀ a, 0 ≤ a → a ≤ E → P' a = P a) (h1 : E < 400 → K E ≤ 1) (h4 : E ≤ 400) (hs : ∀ a b, 0 ≤ a → a ≤ E → 0 ≤ b → b ≤ E → K a = 2 → K b = 2 → sm' a b = sm a b) (hl : ∀ a, 0 ≤ a → a ≤ E → K a = 2 → lt' a = lt a) (hv : ∀ a, 0 ≤ a → a ≤ E → K a = 3 → vl' a = vl a) : ∀ (n : Nat) (a h v : Int) (ns : List Int) (w w' : Int × Int), 0 ≤ a → a ≤ E → (∀ i, i ∈ ns → (0 ≤ i ∧ i ≤ E) ∧ K i = 2) → wEq w' w → wEq (pText K' P' sm' lt' vl' n a h v ns w') (pText K P sm lt vl n a h v ns w)
  | 0, a, h, v, ns, w, w', _, _, _, hw => by unfold pText; exact hw
  | n + 1, a, h, v, ns, w, w', a0, a1, hns, hw => by
    have e := hK a a0 a1
    obtain ⟨t1, t2, t3⟩ := cg_tell (h := h) (v := v) hK h1 h4 a a0 a1
    unfold pText
    rw [e, t1]
    by_cases c0 : K a = 0
    · rw [if_pos c0, if_pos c0]; exact hw
    · rw [if_neg c0, if_neg c0]
      by_cases c1 : (pTell K h v a).2 = 0
      · rw [if_pos c1, if_pos c1]
        have nm : (K a = 128 ∨ K a = 129) → (0 ≤ a + 1 ∧ a + 1 ≤ E) ∧ K (a + 1) = 2 ∧ a + 2 ≤ E ∧ K (a + 2) = 2 ∧ (K a = 129 → a + 4 ≤ E ∧ K (a + 3) = 3 ∧ K (a + 4) = 3) := by
          intro q
          rcases q with q | q
          · have c2 : ¬ 5 ≤ h := fun g => by rw [pTell_hf q g] at c1; exact absurd (show (2 : Int) = 0 from c1) (by decide)
            rw [pTell_h q c2] at c1 t3
            obtain ⟨z1, z2⟩ := pSeq_z c1
            obtain ⟨k1, z1⟩ := pAcc_z z1
            rw [pSeq_y z1] at t3
            rw [z1] at z2
            obtain ⟨z3, z4⟩ := pSeq_z z2
            obtain ⟨k2, z3⟩ := pAcc_z z3
            rw [pSeq_y' z3] at t3
            rw [z3] at z4
            obtain ⟨z5, z6⟩ := pSeq_z z4
            obtain ⟨k3, z5⟩ := pAcc_z z5
            rw [pSeq_y' z5] at t3
            rw [z5] at z6
            obtain ⟨k4, z6⟩ := pAcc_z z6
            rw [z6] at t3
            have t3 : a + 1 + 1 + 1 + 1 ≤ E := t3
            have k2 : K (a + 1) = 2 := k2
            have k3 : K (a + 1 + 1) = 2 := k3
            rw [show a + 2 = a + 1 + 1 by omega]
            exact ⟨⟨by omega, by omega⟩, k2, by omega, k3, fun g => by omega⟩
          · have c2 : ¬ 7 ≤ v := fun g => by rw [pTell_vf q g] at c1; exact absurd (show (2 : Int) = 0 from c1) (by decide)
            rw [pTell_v q c2] at c1 t3
            obtain ⟨z1, z2⟩ := pSeq_z c1
            obtain ⟨k1, z1⟩ := pAcc_z z1
            rw [pSeq_y z1] at t3
            rw [z1] at z2
            obtain ⟨z3, z4⟩ := pSeq_z z2
            obtain ⟨k2, z3⟩ := pAcc_z z3
            rw [pSeq_y' z3] at t3
            rw [z3] at z4
            obtain ⟨z5, z6⟩ := pSeq_z z4
            obtain ⟨k3, z5⟩ := pAcc_z z5
            rw [pSeq_y' z5] at t3
            rw [z5] at z6
            obtain ⟨z7, z8⟩ := pSeq_z z6
            obtain ⟨k4, z7⟩ := pAcc_z z7
            rw [pSeq_y' z7] at t3
            rw [z7] at z8
            obtain ⟨z9, z10⟩ := pSeq_z z8
            obtain ⟨k5, z9⟩ := pAcc_z z9
            rw [pSeq_y' z9] at t3
            rw [z9] at z10
            obtain ⟨k6, z10⟩ := pAcc_z z10
            rw [z10] at t3
            have t3 : a + 1 + 1 + 1 + 1 + 1 + 1 ≤ E := t3
            have k2 : K (a + 1) = 2 := k2
            have k3 : K (a + 1 + 1) = 2 := k3
            have k4 : K (a + 1 + 1 + 1) = 3 := k4
            have k5 : K (a + 1 + 1 + 1 + 1) = 3 := k5
            rw [show a + 2 = a + 1 + 1 by omega, show a + 3 = a + 1 + 1 + 1 by omega, show a + 4 = a + 1 + 1 + 1 + 1 by omega]
            exact ⟨⟨by omega, by omega⟩, k2, by omega, k3, fun _ => ⟨by omega, k4, k5⟩⟩
        have nu : (134 ≤ K a ∧ K a ≤ 136) → a + 1 ≤ E ∧ K (a + 1) = 3 := by
          intro q
          rw [pTell_n q] at c1 t3
          obtain ⟨z1, z2⟩ := pSeq_z c1
          obtain ⟨k1, z1⟩ := pAcc_z z1
          rw [pSeq_y z1] at t3
          rw [z1] at z2
          obtain ⟨z3, z4⟩ := pSeq_z z2
          obtain ⟨k2, z3⟩ := pAcc_z z3
          rw [pSeq_y' z3] at t3
          rw [z3] at z4
          obtain ⟨k3, z5⟩ := pAcc_z z4
          rw [z5] at t3
          have t3 : a + 1 + 1 + 1 ≤ E := t3
          exact ⟨by omega, k2⟩
        refine text_cg hK hP h1 h4 hs hl hv n _ _ _ _ _ _ (by omega) t3 ?_ ?_
        · split
          · rename_i q
            intro i hi
            rcases List.mem_append.mp hi with hi | hi
            · exact hns i hi
            · have e1 := List.mem_singleton.mp hi
              subst e1
              have := nm q
              exact ⟨this.1, this.2.1⟩
          · exact hns
        · unfold pLater
          rw [e]
          have any : (0 ≤ a + 1 ∧ a + 1 ≤ E) → K (a + 1) = 2 → ns.any (fun i => sm' i (a + 1)) = ns.any (fun i => sm i (a + 1)) := fun q1 q2 => by
            rw [Bool.eq_iff_iff, List.any_eq_true, List.any_eq_true]
            constructor
            · intro ⟨x, x1, x2⟩
              have := hns x x1
              rw [hs x (a + 1) this.1.1 this.1.2 q1.1 q1.2 this.2 q2] at x2
              exact ⟨x, x1, x2⟩
            · intro ⟨x, x1, x2⟩
              have := hns x x1
              rw [← hs x (a + 1) this.1.1 this.1.2 q1.1 q1.2 this.2 q2] at x2
              exact ⟨x, x1, x2⟩
          by_cases c2 : K a = 128
          · obtain ⟨q1, q2, q3, q4, q5⟩ := nm (Or.inl c2)
            rw [if_pos c2, if_pos c2]
            exact wEq_n (wEq_n hw (hP _ q1.1 q1.2) (any q1 q2)) (hP _ (by omega) q3) (by rw [hl _ (by omega) q3 q4])
          · rw [if_neg c2, if_neg c2]
            by_cases c3 : K a = 129
            · obtain ⟨q1, q2, q3, q4, q5⟩ := nm (Or.inr c3)
              obtain ⟨q6, q7, q8⟩ := q5 c3
              rw [if_pos c3, if_pos c3]
              exact wEq_n (wEq_n (wEq_n (wEq_n hw (hP _ q1.1 q1.2) (any q1 q2)) (hP _ (by omega) q3) (by rw [hl _ (by omega) q3 q4])) (hP _ (by omega) (by omega)) (by rw [hv _ (by omega) (by omega) q7])) (hP _ (by omega) q6) (by rw [hv _ (by omega) q6 q8])
            · rw [if_neg c3, if_neg c3]
              by_cases c4 : K a = 134
              · obtain ⟨q1, q2⟩ := nu (by omega)
                rw [if_pos c4, if_pos c4]
                exact wEq_n hw (hP _ (by omega) q1) (by rw [hv _ (by omega) q1 q2])
              · rw [if_neg c4, if_neg c4]
                by_cases c5 : K a = 135
                · obtain ⟨q1, q2⟩ := nu (by omega)
                  rw [if_pos c5, if_pos c5]
                  exact wEq_n hw (hP _ (by omega) q1) (by rw [hv _ (by omega) q1 q2])
                · rw [if_neg c5, if_neg c5]
                  exact hw
      · rw [if_neg c1, if_neg c1]
        exact ⟨rfl, fun _ => hP _ (by omega) t3⟩
