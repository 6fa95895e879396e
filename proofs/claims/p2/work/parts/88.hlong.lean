/-! names as numbers: exactly c letters -/
def zwx : Nat → Int → Prop
  | 0, v => v = 0
  | c + 1, v => ∃ w d : Int, zwx c w ∧ 1 ≤ d ∧ d ≤ 26 ∧ v = 27 * w + d
theorem zwx_of : ∀ {n : Nat} {v : Int}, zword n v → ∃ c, c ≤ n ∧ zwx c v
  | 0, v, h => ⟨0, Nat.le_refl 0, h⟩
  | n + 1, v, h => by
    unfold zword at h
    rcases h with h | ⟨w, d, h1, h2, h3, h4⟩
    · exact ⟨0, by omega, h⟩
    · obtain ⟨c, hc, hw⟩ := zwx_of h1
      exact ⟨c + 1, by omega, w, d, hw, h2, h3, h4⟩
theorem zwx_nn : ∀ {c : Nat} {v : Int}, zwx c v → 0 ≤ v ∧ (v = 0 ↔ c = 0)
  | 0, v, h => by unfold zwx at h; omega
  | c + 1, v, h => by
    unfold zwx at h
    obtain ⟨w, d, h1, h2, h3, h4⟩ := h
    have := zwx_nn h1
    omega
theorem zwx_dm {c : Nat} {v : Int} (h : zwx (c + 1) v) : zwx c (v / 27) ∧ 1 ≤ v % 27 ∧ v % 27 ≤ 26 := by
  unfold zwx at h
  obtain ⟨w, d, h1, h2, h3, h4⟩ := h
  have := zwx_nn h1
  have e1 : v / 27 = w := by omega
  have e2 : v % 27 = d := by omega
  rw [e1, e2]
  exact ⟨h1, h2, h3⟩
theorem zwx_w : ∀ {c n : Nat} {v : Int}, zwx c v → c ≤ n → zword n v
  | 0, 0, v, h, _ => h
  | 0, n + 1, v, h, _ => by unfold zword; exact Or.inl h
  | c + 1, 0, v, h, hn => by omega
  | c + 1, n + 1, v, h, hn => by
    unfold zwx at h
    obtain ⟨w, d, h1, h2, h3, h4⟩ := h
    unfold zword
    exact Or.inr ⟨w, d, zwx_w h1 (by omega), h2, h3, h4⟩
theorem zwx_b : ∀ {c : Nat} {v : Int}, zwx c v → c ≤ 8 → v ≤ 282429536480
  | 0, v, h, _ => by unfold zwx at h; omega
  | c + 1, v, h, hc => by
    have key : ∀ {c : Nat} {v : Int}, zwx c v → v < (27 : Int) ^ c := by
      intro c
      induction c with
      | zero => intro v h; unfold zwx at h; subst h; decide
      | succ c ih =>
        intro v h
        unfold zwx at h
        obtain ⟨w, d, h1, h2, h3, h4⟩ := h
        have := ih h1
        rw [Int.pow_succ]
        omega
    have h1 := key h
    have h2 : (27 : Int) ^ (c + 1) ≤ (27 : Int) ^ 8 := by
      have : c + 1 = 1 ∨ c + 1 = 2 ∨ c + 1 = 3 ∨ c + 1 = 4 ∨ c + 1 = 5 ∨ c + 1 = 6 ∨ c + 1 = 7 ∨ c + 1 = 8 := by omega
      rcases this with e | e | e | e | e | e | e | e <;> rw [e] <;> decide
    have h3 : (27 : Int) ^ 8 = 282429536481 := by decide
    omega
