/-! ===== TOKENS OF A TEXT: B: its bytes, n: how many ===== -/
def tkBl (c : Int) : Prop := c = 9 ∨ c = 10 ∨ c = 13 ∨ c = 32
def tkLo (c : Int) : Prop := 97 ≤ c ∧ c ≤ 122
def tkDi (c : Int) : Prop := 48 ≤ c ∧ c ≤ 57
def tkSg (c : Int) : Prop := c = 59 ∨ c = 61 ∨ c = 43 ∨ c = 45 ∨ c = 42 ∨ c = 47 ∨ c = 60 ∨ c = 40 ∨ c = 41
/-- blanks from i to j -/
def tkSk (B : Int → Int) (n i j : Int) : Prop := (i ≤ j ∧ j ≤ n) ∧ (∀ k, i ≤ k → k < j → tkBl (B k)) ∧ (j < n → ¬ tkBl (B j))
def tkRn (B : Int → Int) (n i s : Int) (p : Int → Prop) : Prop := (∀ k, i ≤ k → k < i + s → p (B k)) ∧ (i + s < n → ¬ p (B (i + s)))
/-- the token at i has s bytes -/
def tkSz (B : Int → Int) (n i s : Int) : Prop := (1 ≤ s ∧ i + s ≤ n) ∧ ((tkLo (B i) ∧ tkRn B n i s tkLo) ∨ (tkDi (B i) ∧ tkRn B n i s tkDi) ∨ (¬ tkLo (B i) ∧ ¬ tkDi (B i) ∧ s = 1))
def tkW (k : Nat) : Int := (xW1.getD k 0).toInt
/-- it is the word w -/
def tkWd (B : Int → Int) (i s : Int) (w : Nat) : Prop := ∀ k : Nat, k < 8 → (if (k : Int) < s then B (i + k) else 32) = tkW (8 * w + k)
/-- its kind -/
def tkKd (B : Int → Int) (i s κ : Int) : Prop := (tkLo (B i) ∧ 8 < s ∧ κ = 1) ∨ (tkLo (B i) ∧ s ≤ 8 ∧ ((∃ w : Nat, w < 21 ∧ tkWd B i s w ∧ κ = 128 + w) ∨ ((∀ w : Nat, w < 21 → ¬ tkWd B i s w) ∧ κ = 2))) ∨ (tkDi (B i) ∧ 4 < s ∧ κ = 1) ∨ (tkDi (B i) ∧ s ≤ 4 ∧ κ = 3) ∨ (¬ tkLo (B i) ∧ ¬ tkDi (B i) ∧ ((tkSg (B i) ∧ κ = B i) ∨ (¬ tkSg (B i) ∧ κ = 1)))
/-- tokens 0 .. T - 1, which end at e -/
def tkIn (B : Int → Int) (n : Int) (P S K : Int → Int) (T e : Int) : Prop := (∀ a, 0 ≤ a → a < T → 0 ≤ P a ∧ P a < n ∧ tkSz B n (P a) (S a) ∧ tkKd B (P a) (S a) (K a) ∧ ¬ K a = 0) ∧ (0 < T → tkSk B n 0 (P 0)) ∧ (∀ a, 0 ≤ a → a + 1 < T → tkSk B n (P a + S a) (P (a + 1))) ∧ e = (if T = 0 then 0 else P (T - 1) + S (T - 1)) ∧ 0 ≤ T ∧ 0 ≤ e ∧ e ≤ n
/-- all tokens: E: the last one -/
def tkC (B : Int → Int) (n : Int) (P S K : Int → Int) (E : Int) : Prop := (0 ≤ E ∧ E ≤ 400) ∧ (∀ a, 0 ≤ a → a < E → 0 ≤ P a ∧ P a < n ∧ tkSz B n (P a) (S a) ∧ tkKd B (P a) (S a) (K a) ∧ ¬ K a = 0) ∧ tkSk B n 0 (P 0) ∧ (∀ a, 0 ≤ a → a < E → tkSk B n (P a + S a) (P (a + 1))) ∧ ((P E = n ∧ K E = 0) ∨ (0 ≤ P E ∧ P E < n ∧ tkSz B n (P E) (S E) ∧ tkKd B (P E) (S E) (K E) ∧ ¬ K E = 0))
theorem tkIn_0 {B : Int → Int} {n : Int} {P S K : Int → Int} (h : 0 ≤ n) : tkIn B n P S K 0 0 := ⟨fun a h0 h1 => by omega, fun h => by omega, fun a h0 h1 => by omega, rfl, Int.le_refl 0, Int.le_refl 0, h⟩
theorem tkIn_s {B : Int → Int} {n : Int} {P S K P' S' K' : Int → Int} {T e p s κ : Int} (h : tkIn B n P S K T e) (hk : tkSk B n e p) (hp : p < n) (hs : tkSz B n p s) (hd : tkKd B p s κ) (h0 : ¬ κ = 0) (eP : ∀ a, 0 ≤ a → a < T → P' a = P a ∧ S' a = S a ∧ K' a = K a) (eT : P' T = p ∧ S' T = s ∧ K' T = κ) : tkIn B n P' S' K' (T + 1) (p + s) := by
  obtain ⟨h1, h2, h3, h4, h5, h6, h7⟩ := h
  obtain ⟨t1, t2, t3⟩ := eT
  have hk1 := hk.1
  have hs1 := hs.1
  refine ⟨fun a a0 a1 => ?_, fun _ => ?_, fun a a0 a1 => ?_, ?_, by omega, by omega, by omega⟩
  · by_cases q : a = T
    · rw [q, t1, t2, t3]; exact ⟨by omega, hp, hs, hd, h0⟩
    · obtain ⟨g1, g2, g3⟩ := eP a a0 (by omega)
      rw [g1, g2, g3]; exact h1 a a0 (by omega)
  · by_cases q : T = 0
    · rw [← q, t1]
      rw [if_pos q] at h4
      rw [q, ← h4]; exact hk
    · rw [(eP 0 (by omega) (by omega)).1]; exact h2 (by omega)
  · by_cases q : a + 1 = T
    · obtain ⟨g1, g2, g3⟩ := eP a a0 (by omega)
      rw [q, t1, g1, g2]
      rw [if_neg (by omega), show T - 1 = a by omega] at h4
      rw [← h4]; exact hk
    · obtain ⟨g1, g2, g3⟩ := eP a a0 (by omega)
      rw [(eP (a + 1) (by omega) (by omega)).1, g1, g2]; exact h3 a a0 (by omega)
  · rw [if_neg (by omega), show T + 1 - 1 = T by omega, t1, t2]
/-- the last token is none -/
theorem tkIn_e {B : Int → Int} {n : Int} {P S K P' S' K' : Int → Int} {T e : Int} (h : tkIn B n P S K T e) (hT : T ≤ 400) (hk : tkSk B n e n) (eP : ∀ a, 0 ≤ a → a < T → P' a = P a ∧ S' a = S a ∧ K' a = K a) (eT : P' T = n ∧ K' T = 0) : tkC B n P' S' K' T := by
  obtain ⟨h1, h2, h3, h4, h5, h6, h7⟩ := h
  refine ⟨⟨h5, hT⟩, fun a a0 a1 => ?_, ?_, fun a a0 a1 => ?_, Or.inl eT⟩
  · obtain ⟨g1, g2, g3⟩ := eP a a0 a1
    rw [g1, g2, g3]; exact h1 a a0 a1
  · by_cases q : T = 0
    · subst q
      rw [if_pos rfl] at h4
      rw [eT.1, ← h4]; exact hk
    · rw [(eP 0 (by omega) (by omega)).1]; exact h2 (by omega)
  · obtain ⟨g1, g2, g3⟩ := eP a a0 a1
    rw [g1, g2]
    by_cases q : a + 1 = T
    · rw [q, eT.1]
      rw [if_neg (by omega), show T - 1 = a by omega] at h4
      rw [← h4]; exact hk
    · rw [(eP (a + 1) (by omega) (by omega)).1]; exact h3 a a0 (by omega)
/-- the last token is one -/
theorem tkIn_l {B : Int → Int} {n : Int} {P S K : Int → Int} {T e : Int} (h : tkIn B n P S K (T + 1) e) (hT : 0 ≤ T ∧ T ≤ 400) : tkC B n P S K T := by
  obtain ⟨h1, h2, h3, h4, h5, h6, h7⟩ := h
  exact ⟨hT, fun a a0 a1 => h1 a a0 (by omega), h2 (by omega), fun a a0 a1 => h3 a a0 (by omega), Or.inr (h1 T hT.1 (by omega))⟩
abbrev xq_208 : xP := (⟨"CapitalCase$Tokens", "isBlank", "(I)Z"⟩, prog_9_method_3_code, 1, (some .boolean))
abbrev xq_210 : xP := (⟨"CapitalCase$Tokens", "isLower", "(I)Z"⟩, prog_9_method_4_code, 1, (some .boolean))
abbrev xq_209 : xP := (⟨"CapitalCase$Tokens", "isDigit", "(I)Z"⟩, prog_9_method_5_code, 1, (some .boolean))
abbrev xq_242 : xP := (⟨"CapitalCase$Tokens", "sizeAt", "([BII)I"⟩, prog_9_method_6_code, 5, (some .int))
abbrev xq_239 : xP := (⟨"CapitalCase$Tokens", "kindOf", "([BII)I"⟩, prog_9_method_7_code, 4, (some .int))
abbrev xq_240 : xP := (⟨"CapitalCase$Tokens", "wordOrName", "([BII)I"⟩, prog_9_method_8_code, 4, (some .int))
abbrev xq_241 : xP := (⟨"CapitalCase$Tokens", "isWord", "(I[BII)Z"⟩, prog_9_method_9_code, 6, (some .boolean))
abbrev xq_48 : xP := (⟨"CapitalCase$Tokens", "scan", "([BI)V"⟩, prog_9_method_2_code, 5, none)
set_option maxRecDepth 10000 in
set_option maxHeartbeats 4000000 in
theorem ex_isBlank {x : Int32} {μ μ' : xM} {r : Option zV} (h0 : Ex gx xq_208 [.inl x] μ r μ') : (r = some (.inl 1) ∧ tkBl x.toInt ∧ μ' = μ) ∨ (r = some (.inl 0) ∧ ¬ tkBl x.toInt ∧ μ' = μ) := by
  obtain ⟨n, h⟩ := tx_in (L := [some (.inl x)]) h0 rfl
  replace h := tx_iload_n (p' := 1) h em208_0 rfl rfl
  replace h := tx_bipush (v := 9) (p' := 3) h em208_1 (by decide +kernel) rfl
  rcases tx_icmp (t := 24) (p' := 6) h em208_3 (by decide) rfl with ⟨c3, h⟩ | ⟨c3, h⟩
  · replace c3 : x.toInt = 9 := c3
    replace h := tx_iconst (v := 1) (p' := 25) h em208_24 (by decide +kernel) rfl
    replace h := tx_goto (t := 29) h em208_25 (by decide)
    obtain ⟨rfl, hμ⟩ := tx_ireturn h em208_29
    subst hμ
    exact Or.inl ⟨rfl, by unfold tkBl; omega, rfl⟩
  · replace c3 : ¬ x.toInt = 9 := c3
    replace h := tx_iload_n (p' := 7) h em208_6 rfl rfl
    replace h := tx_bipush (v := 10) (p' := 9) h em208_7 (by decide +kernel) rfl
    rcases tx_icmp (t := 24) (p' := 12) h em208_9 (by decide) rfl with ⟨c9, h⟩ | ⟨c9, h⟩
    · replace c9 : x.toInt = 10 := c9
      replace h := tx_iconst (v := 1) (p' := 25) h em208_24 (by decide +kernel) rfl
      replace h := tx_goto (t := 29) h em208_25 (by decide)
      obtain ⟨rfl, hμ⟩ := tx_ireturn h em208_29
      subst hμ
      exact Or.inl ⟨rfl, by unfold tkBl; omega, rfl⟩
    · replace c9 : ¬ x.toInt = 10 := c9
      replace h := tx_iload_n (p' := 13) h em208_12 rfl rfl
      replace h := tx_bipush (v := 13) (p' := 15) h em208_13 (by decide +kernel) rfl
      rcases tx_icmp (t := 24) (p' := 18) h em208_15 (by decide) rfl with ⟨c15, h⟩ | ⟨c15, h⟩
      · replace c15 : x.toInt = 13 := c15
        replace h := tx_iconst (v := 1) (p' := 25) h em208_24 (by decide +kernel) rfl
        replace h := tx_goto (t := 29) h em208_25 (by decide)
        obtain ⟨rfl, hμ⟩ := tx_ireturn h em208_29
        subst hμ
        exact Or.inl ⟨rfl, by unfold tkBl; omega, rfl⟩
      · replace c15 : ¬ x.toInt = 13 := c15
        replace h := tx_iload_n (p' := 19) h em208_18 rfl rfl
        replace h := tx_bipush (v := 32) (p' := 21) h em208_19 (by decide +kernel) rfl
        rcases tx_icmp (t := 28) (p' := 24) h em208_21 (by decide) rfl with ⟨c21, h⟩ | ⟨c21, h⟩
        · replace c21 : ¬ x.toInt = 32 := c21
          replace h := tx_iconst (v := 0) (p' := 29) h em208_28 (by decide +kernel) rfl
          obtain ⟨rfl, hμ⟩ := tx_ireturn h em208_29
          subst hμ
          exact Or.inr ⟨rfl, by unfold tkBl; omega, rfl⟩
        · replace c21 : ¬ ¬ x.toInt = 32 := c21
          replace h := tx_iconst (v := 1) (p' := 25) h em208_24 (by decide +kernel) rfl
          replace h := tx_goto (t := 29) h em208_25 (by decide)
          obtain ⟨rfl, hμ⟩ := tx_ireturn h em208_29
          subst hμ
          exact Or.inl ⟨rfl, by unfold tkBl; omega, rfl⟩
set_option maxRecDepth 10000 in
set_option maxHeartbeats 4000000 in
theorem ex_isLower {x : Int32} {μ μ' : xM} {r : Option zV} (h0 : Ex gx xq_210 [.inl x] μ r μ') : (r = some (.inl 1) ∧ tkLo x.toInt ∧ μ' = μ) ∨ (r = some (.inl 0) ∧ ¬ tkLo x.toInt ∧ μ' = μ) := by
  obtain ⟨n, h⟩ := tx_in (L := [some (.inl x)]) h0 rfl
  replace h := tx_iload_n (p' := 1) h em210_0 rfl rfl
  replace h := tx_bipush (v := 97) (p' := 3) h em210_1 (by decide +kernel) rfl
  rcases tx_icmp (t := 16) (p' := 6) h em210_3 (by decide) rfl with ⟨c3, h⟩ | ⟨c3, h⟩
  · replace c3 : x.toInt < 97 := c3
    replace h := tx_iconst (v := 0) (p' := 17) h em210_16 (by decide +kernel) rfl
    obtain ⟨rfl, hμ⟩ := tx_ireturn h em210_17
    subst hμ
    exact Or.inr ⟨rfl, by unfold tkLo; omega, rfl⟩
  · replace c3 : ¬ x.toInt < 97 := c3
    replace h := tx_iload_n (p' := 7) h em210_6 rfl rfl
    replace h := tx_bipush (v := 122) (p' := 9) h em210_7 (by decide +kernel) rfl
    rcases tx_icmp (t := 16) (p' := 12) h em210_9 (by decide) rfl with ⟨c9, h⟩ | ⟨c9, h⟩
    · replace c9 : 122 < x.toInt := c9
      replace h := tx_iconst (v := 0) (p' := 17) h em210_16 (by decide +kernel) rfl
      obtain ⟨rfl, hμ⟩ := tx_ireturn h em210_17
      subst hμ
      exact Or.inr ⟨rfl, by unfold tkLo; omega, rfl⟩
    · replace c9 : ¬ 122 < x.toInt := c9
      replace h := tx_iconst (v := 1) (p' := 13) h em210_12 (by decide +kernel) rfl
      replace h := tx_goto (t := 17) h em210_13 (by decide)
      obtain ⟨rfl, hμ⟩ := tx_ireturn h em210_17
      subst hμ
      exact Or.inl ⟨rfl, by unfold tkLo; omega, rfl⟩
set_option maxRecDepth 10000 in
set_option maxHeartbeats 4000000 in
theorem ex_isDigit {x : Int32} {μ μ' : xM} {r : Option zV} (h0 : Ex gx xq_209 [.inl x] μ r μ') : (r = some (.inl 1) ∧ tkDi x.toInt ∧ μ' = μ) ∨ (r = some (.inl 0) ∧ ¬ tkDi x.toInt ∧ μ' = μ) := by
  obtain ⟨n, h⟩ := tx_in (L := [some (.inl x)]) h0 rfl
  replace h := tx_iload_n (p' := 1) h em209_0 rfl rfl
  replace h := tx_bipush (v := 48) (p' := 3) h em209_1 (by decide +kernel) rfl
  rcases tx_icmp (t := 16) (p' := 6) h em209_3 (by decide) rfl with ⟨c3, h⟩ | ⟨c3, h⟩
  · replace c3 : x.toInt < 48 := c3
    replace h := tx_iconst (v := 0) (p' := 17) h em209_16 (by decide +kernel) rfl
    obtain ⟨rfl, hμ⟩ := tx_ireturn h em209_17
    subst hμ
    exact Or.inr ⟨rfl, by unfold tkDi; omega, rfl⟩
  · replace c3 : ¬ x.toInt < 48 := c3
    replace h := tx_iload_n (p' := 7) h em209_6 rfl rfl
    replace h := tx_bipush (v := 57) (p' := 9) h em209_7 (by decide +kernel) rfl
    rcases tx_icmp (t := 16) (p' := 12) h em209_9 (by decide) rfl with ⟨c9, h⟩ | ⟨c9, h⟩
    · replace c9 : 57 < x.toInt := c9
      replace h := tx_iconst (v := 0) (p' := 17) h em209_16 (by decide +kernel) rfl
      obtain ⟨rfl, hμ⟩ := tx_ireturn h em209_17
      subst hμ
      exact Or.inr ⟨rfl, by unfold tkDi; omega, rfl⟩
    · replace c9 : ¬ 57 < x.toInt := c9
      replace h := tx_iconst (v := 1) (p' := 13) h em209_12 (by decide +kernel) rfl
      replace h := tx_goto (t := 17) h em209_13 (by decide)
      obtain ⟨rfl, hμ⟩ := tx_ireturn h em209_17
      subst hμ
      exact Or.inl ⟨rfl, by unfold tkDi; omega, rfl⟩
def kB (μ : xM) (c : Nat) (i : Int) : Int := (μ.1 c i.toNat).toInt
set_option maxRecDepth 10000 in
set_option maxHeartbeats 4000000 in
theorem size_loop1 {n i : Int32} {μ μ' : xM} {r : Option zV} (hi0 : 0 ≤ i.toInt) (hl : tkLo (kB μ 1 i.toInt)) : ∀ (m : Nat) (e : Int32), eT xq_242 m 27 [some (.inr (.inl (some 1))), some (.inl n), some (.inl i), some (.inl (1 : Int32)), some (.inl e)] [] μ r μ' → i.toInt + 1 ≤ e.toInt → e.toInt ≤ n.toInt → (∀ k, i.toInt ≤ k → k < e.toInt → tkLo (kB μ 1 k)) → ∃ s : Int32, r = some (.inl s) ∧ tkSz (kB μ 1) n.toInt i.toInt s.toInt ∧ μ' = μ := by
  have e1i : (1 : Int32).toInt = 1 := by decide
  intro m
  induction m using Nat.strongRecOn with
  | ind m ih =>
  intro e h he0 he1' hr
  replace h := tx_iload (p' := 29) h em242_27 rfl rfl
  replace h := tx_iload_n (p' := 30) h em242_29 rfl rfl
  rcases tx_icmp (t := 66) (p' := 33) h em242_30 (by decide) rfl with ⟨c30, h⟩ | ⟨c30, h⟩
  · replace c30 : n.toInt ≤ e.toInt := c30
    replace h := tx_iload (p' := 68) h em242_66 rfl rfl
    replace h := tx_iload_n (p' := 69) h em242_68 rfl rfl
    replace h := tx_isub (p' := 70) h em242_69 rfl
    obtain ⟨rfl, hμ⟩ := tx_ireturn h em242_70
    have hs1 : (e - i).toInt = e.toInt - i.toInt := an_sub (by omega) (by have := an_hi n; omega)
    refine ⟨_, rfl, ?_, hμ⟩
    rw [hs1]
    refine ⟨⟨by omega, by omega⟩, Or.inl ⟨hl, fun k k0 k1 => hr k k0 (by omega), ?_⟩⟩
    rw [show i.toInt + (e.toInt - i.toInt) = e.toInt by omega]
    exact fun q => by exfalso; omega
  · replace c30 : ¬ n.toInt ≤ e.toInt := c30
    replace h := tx_iload_n (p' := 34) h em242_33 rfl rfl
    rcases tx_if (t := 50) (p' := 37) h em242_34 (by decide) rfl with ⟨c34, h⟩ | ⟨c34, h⟩
    · replace c34 : (1 : Int) = (0 : Int) := c34
      exfalso
      omega
    · replace c34 : ¬ (1 : Int) = (0 : Int) := c34
      replace h := tx_aload_n (p' := 38) h em242_37 rfl rfl
      replace h := tx_iload (p' := 40) h em242_38 rfl rfl
      obtain ⟨hb40, h⟩ := tx_bald (len := 2000) (p' := 41) h em242_40 rfl rfl
      replace hb40 : 0 ≤ e.toInt ∧ e.toInt < 2000 := hb40
      obtain ⟨r41, μ41, hE41, h⟩ := tx_invS (na := 1) (mn := 210) (as := [.inl (μ.1 1 e.toInt.toNat)]) (rest := []) (p' := 44) h em242_41 ((congrFun xo_8 30).trans rfl) xm_210 rfl rfl
      rcases ex_isLower hE41 with ⟨rfl, l41, hm⟩ | ⟨rfl, l41, hm⟩
      · rw [hm] at h
        replace h : eT xq_242 _ 44 [some (.inr (.inl (some 1))), some (.inl n), some (.inl i), some (.inl (1 : Int32)), some (.inl e)] [.inl (1 : Int32)] μ r μ' := h
        rcases tx_if (t := 66) (p' := 47) h em242_44 (by decide) rfl with ⟨c44, h⟩ | ⟨c44, h⟩
        · replace c44 : (1 : Int) = (0 : Int) := c44
          exfalso
          omega
        · replace c44 : ¬ (1 : Int) = (0 : Int) := c44
          replace h := tx_goto (t := 60) h em242_47 (by decide)
          replace h := tx_iinc (v := 1) (p' := 63) h em242_60 (by decide +kernel) rfl rfl
          replace h : eT xq_242 _ 63 [some (.inr (.inl (some 1))), some (.inl n), some (.inl i), some (.inl (1 : Int32)), some (.inl (e + 1))] [] μ r μ' := h
          obtain ⟨n2, hn2, h⟩ := tx_gotoS (t := 27) h em242_63 (by decide)
          have he1 : (e + 1).toInt = e.toInt + 1 := by rw [an_add (by rw [e1i]; omega) (by rw [e1i]; have := an_hi n; omega), e1i]
          refine ih n2 hn2 _ h (by rw [he1]; omega) (by rw [he1]; omega) (fun k k0 k1 => ?_)
          by_cases q : k = e.toInt
          · rw [q]; exact l41
          · exact hr k k0 (by rw [he1] at k1; omega)
      · rw [hm] at h
        replace h : eT xq_242 _ 44 [some (.inr (.inl (some 1))), some (.inl n), some (.inl i), some (.inl (1 : Int32)), some (.inl e)] [.inl (0 : Int32)] μ r μ' := h
        rcases tx_if (t := 66) (p' := 47) h em242_44 (by decide) rfl with ⟨c44_1, h⟩ | ⟨c44_1, h⟩
        · replace c44_1 : (0 : Int) = (0 : Int) := c44_1
          replace h := tx_iload (p' := 68) h em242_66 rfl rfl
          replace h := tx_iload_n (p' := 69) h em242_68 rfl rfl
          replace h := tx_isub (p' := 70) h em242_69 rfl
          obtain ⟨rfl, hμ⟩ := tx_ireturn h em242_70
          have hs1 : (e - i).toInt = e.toInt - i.toInt := an_sub (by omega) (by have := an_hi n; omega)
          refine ⟨_, rfl, ?_, hμ⟩
          rw [hs1]
          refine ⟨⟨by omega, by omega⟩, Or.inl ⟨hl, fun k k0 k1 => hr k k0 (by omega), ?_⟩⟩
          rw [show i.toInt + (e.toInt - i.toInt) = e.toInt by omega]
          exact fun q => l41
        · replace c44_1 : ¬ (0 : Int) = (0 : Int) := c44_1
          exfalso
          omega
set_option maxRecDepth 10000 in
set_option maxHeartbeats 4000000 in
theorem size_loop0 {n i : Int32} {μ μ' : xM} {r : Option zV} (hi0 : 0 ≤ i.toInt) (hl : tkDi (kB μ 1 i.toInt)) : ∀ (m : Nat) (e : Int32), eT xq_242 m 27 [some (.inr (.inl (some 1))), some (.inl n), some (.inl i), some (.inl (0 : Int32)), some (.inl e)] [] μ r μ' → i.toInt + 1 ≤ e.toInt → e.toInt ≤ n.toInt → (∀ k, i.toInt ≤ k → k < e.toInt → tkDi (kB μ 1 k)) → ∃ s : Int32, r = some (.inl s) ∧ tkSz (kB μ 1) n.toInt i.toInt s.toInt ∧ μ' = μ := by
  have e1i : (1 : Int32).toInt = 1 := by decide
  intro m
  induction m using Nat.strongRecOn with
  | ind m ih =>
  intro e h he0 he1' hr
  replace h := tx_iload (p' := 29) h em242_27 rfl rfl
  replace h := tx_iload_n (p' := 30) h em242_29 rfl rfl
  rcases tx_icmp (t := 66) (p' := 33) h em242_30 (by decide) rfl with ⟨c30, h⟩ | ⟨c30, h⟩
  · replace c30 : n.toInt ≤ e.toInt := c30
    replace h := tx_iload (p' := 68) h em242_66 rfl rfl
    replace h := tx_iload_n (p' := 69) h em242_68 rfl rfl
    replace h := tx_isub (p' := 70) h em242_69 rfl
    obtain ⟨rfl, hμ⟩ := tx_ireturn h em242_70
    have hs1 : (e - i).toInt = e.toInt - i.toInt := an_sub (by omega) (by have := an_hi n; omega)
    refine ⟨_, rfl, ?_, hμ⟩
    rw [hs1]
    refine ⟨⟨by omega, by omega⟩, Or.inr (Or.inl ⟨hl, fun k k0 k1 => hr k k0 (by omega), ?_⟩)⟩
    rw [show i.toInt + (e.toInt - i.toInt) = e.toInt by omega]
    exact fun q => by exfalso; omega
  · replace c30 : ¬ n.toInt ≤ e.toInt := c30
    replace h := tx_iload_n (p' := 34) h em242_33 rfl rfl
    rcases tx_if (t := 50) (p' := 37) h em242_34 (by decide) rfl with ⟨c34, h⟩ | ⟨c34, h⟩
    · replace c34 : (0 : Int) = (0 : Int) := c34
      replace h := tx_aload_n (p' := 51) h em242_50 rfl rfl
      replace h := tx_iload (p' := 53) h em242_51 rfl rfl
      obtain ⟨hb53, h⟩ := tx_bald (len := 2000) (p' := 54) h em242_53 rfl rfl
      replace hb53 : 0 ≤ e.toInt ∧ e.toInt < 2000 := hb53
      obtain ⟨r54, μ54, hE54, h⟩ := tx_invS (na := 1) (mn := 209) (as := [.inl (μ.1 1 e.toInt.toNat)]) (rest := []) (p' := 57) h em242_54 ((congrFun xo_8 33).trans rfl) xm_209 rfl rfl
      rcases ex_isDigit hE54 with ⟨rfl, d54, hm⟩ | ⟨rfl, d54, hm⟩
      · rw [hm] at h
        replace h : eT xq_242 _ 57 [some (.inr (.inl (some 1))), some (.inl n), some (.inl i), some (.inl (0 : Int32)), some (.inl e)] [.inl (1 : Int32)] μ r μ' := h
        rcases tx_if (t := 66) (p' := 60) h em242_57 (by decide) rfl with ⟨c57, h⟩ | ⟨c57, h⟩
        · replace c57 : (1 : Int) = (0 : Int) := c57
          exfalso
          omega
        · replace c57 : ¬ (1 : Int) = (0 : Int) := c57
          replace h := tx_iinc (v := 1) (p' := 63) h em242_60 (by decide +kernel) rfl rfl
          replace h : eT xq_242 _ 63 [some (.inr (.inl (some 1))), some (.inl n), some (.inl i), some (.inl (0 : Int32)), some (.inl (e + 1))] [] μ r μ' := h
          obtain ⟨n2, hn2, h⟩ := tx_gotoS (t := 27) h em242_63 (by decide)
          have he1 : (e + 1).toInt = e.toInt + 1 := by rw [an_add (by rw [e1i]; omega) (by rw [e1i]; have := an_hi n; omega), e1i]
          refine ih n2 hn2 _ h (by rw [he1]; omega) (by rw [he1]; omega) (fun k k0 k1 => ?_)
          by_cases q : k = e.toInt
          · rw [q]; exact d54
          · exact hr k k0 (by rw [he1] at k1; omega)
      · rw [hm] at h
        replace h : eT xq_242 _ 57 [some (.inr (.inl (some 1))), some (.inl n), some (.inl i), some (.inl (0 : Int32)), some (.inl e)] [.inl (0 : Int32)] μ r μ' := h
        rcases tx_if (t := 66) (p' := 60) h em242_57 (by decide) rfl with ⟨c57_1, h⟩ | ⟨c57_1, h⟩
        · replace c57_1 : (0 : Int) = (0 : Int) := c57_1
          replace h := tx_iload (p' := 68) h em242_66 rfl rfl
          replace h := tx_iload_n (p' := 69) h em242_68 rfl rfl
          replace h := tx_isub (p' := 70) h em242_69 rfl
          obtain ⟨rfl, hμ⟩ := tx_ireturn h em242_70
          have hs1 : (e - i).toInt = e.toInt - i.toInt := an_sub (by omega) (by have := an_hi n; omega)
          refine ⟨_, rfl, ?_, hμ⟩
          rw [hs1]
          refine ⟨⟨by omega, by omega⟩, Or.inr (Or.inl ⟨hl, fun k k0 k1 => hr k k0 (by omega), ?_⟩)⟩
          rw [show i.toInt + (e.toInt - i.toInt) = e.toInt by omega]
          exact fun q => d54
        · replace c57_1 : ¬ (0 : Int) = (0 : Int) := c57_1
          exfalso
          omega
    · replace c34 : ¬ (0 : Int) = (0 : Int) := c34
      exfalso
      omega
set_option maxRecDepth 10000 in
set_option maxHeartbeats 4000000 in
theorem ex_sizeAt {n i : Int32} {μ μ' : xM} {r : Option zV} (h0 : Ex gx xq_242 [.inr (.inl (some 1)), .inl n, .inl i] μ r μ') (hi0 : 0 ≤ i.toInt) (hi1 : i.toInt < n.toInt) : ∃ s : Int32, r = some (.inl s) ∧ tkSz (kB μ 1) n.toInt i.toInt s.toInt ∧ μ' = μ := by
  obtain ⟨n9, h⟩ := tx_in (L := [some (.inr (.inl (some 1))), some (.inl n), some (.inl i), none, none]) h0 rfl
  have e1i : (1 : Int32).toInt = 1 := by decide
  replace h := tx_aload_n (p' := 1) h em242_0 rfl rfl
  replace h := tx_iload_n (p' := 2) h em242_1 rfl rfl
  obtain ⟨hb2, h⟩ := tx_bald (len := 2000) (p' := 3) h em242_2 rfl rfl
  replace hb2 : 0 ≤ i.toInt ∧ i.toInt < 2000 := hb2
  obtain ⟨r3, μ3, hE3, h⟩ := tx_invS (na := 1) (mn := 210) (as := [.inl (μ.1 1 i.toInt.toNat)]) (rest := []) (p' := 6) h em242_3 ((congrFun xo_8 30).trans rfl) xm_210 rfl rfl
  rcases ex_isLower hE3 with ⟨rfl, l3, hm⟩ | ⟨rfl, l3, hm⟩
  · rw [hm] at h
    replace h : eT xq_242 _ 6 [some (.inr (.inl (some 1))), some (.inl n), some (.inl i), none, none] [.inl (1 : Int32)] μ r μ' := h
    replace h := tx_istore_n (p' := 7) h em242_6 rfl
    replace h : eT xq_242 _ 7 [some (.inr (.inl (some 1))), some (.inl n), some (.inl i), some (.inl (1 : Int32)), none] [] μ r μ' := h
    replace h := tx_iload_n (p' := 8) h em242_7 rfl rfl
    rcases tx_if (t := 22) (p' := 11) h em242_8 (by decide) rfl with ⟨c8, h⟩ | ⟨c8, h⟩
    · replace c8 : ¬ (1 : Int) = (0 : Int) := c8
      replace h := tx_iload_n (p' := 23) h em242_22 rfl rfl
      replace h := tx_iconst (v := 1) (p' := 24) h em242_23 (by decide +kernel) rfl
      replace h := tx_iadd (p' := 25) h em242_24 rfl
      replace h := tx_istore (p' := 27) h em242_25 rfl
      replace h : eT xq_242 _ 27 [some (.inr (.inl (some 1))), some (.inl n), some (.inl i), some (.inl (1 : Int32)), some (.inl (i + (1 : Int32)))] [] μ r μ' := h
      have he1 : (i + 1).toInt = i.toInt + 1 := by rw [an_add (by rw [e1i]; omega) (by rw [e1i]; have := an_hi n; omega), e1i]
      exact size_loop1 hi0 l3 _ _ h (by omega) (by omega) (fun k k0 k1 => by rw [show k = i.toInt by omega]; exact l3)
    · replace c8 : ¬ ¬ (1 : Int) = (0 : Int) := c8
      exfalso
      omega
  · rw [hm] at h
    replace h : eT xq_242 _ 6 [some (.inr (.inl (some 1))), some (.inl n), some (.inl i), none, none] [.inl (0 : Int32)] μ r μ' := h
    replace h := tx_istore_n (p' := 7) h em242_6 rfl
    replace h : eT xq_242 _ 7 [some (.inr (.inl (some 1))), some (.inl n), some (.inl i), some (.inl (0 : Int32)), none] [] μ r μ' := h
    replace h := tx_iload_n (p' := 8) h em242_7 rfl rfl
    rcases tx_if (t := 22) (p' := 11) h em242_8 (by decide) rfl with ⟨c8_1, h⟩ | ⟨c8_1, h⟩
    · replace c8_1 : ¬ (0 : Int) = (0 : Int) := c8_1
      exfalso
      omega
    · replace c8_1 : ¬ ¬ (0 : Int) = (0 : Int) := c8_1
      replace h := tx_aload_n (p' := 12) h em242_11 rfl rfl
      replace h := tx_iload_n (p' := 13) h em242_12 rfl rfl
      obtain ⟨hb13, h⟩ := tx_bald (len := 2000) (p' := 14) h em242_13 rfl rfl
      replace hb13 : 0 ≤ i.toInt ∧ i.toInt < 2000 := hb13
      obtain ⟨r14, μ14, hE14, h⟩ := tx_invS (na := 1) (mn := 209) (as := [.inl (μ.1 1 i.toInt.toNat)]) (rest := []) (p' := 17) h em242_14 ((congrFun xo_8 33).trans rfl) xm_209 rfl rfl
      rcases ex_isDigit hE14 with ⟨rfl, d14, hm⟩ | ⟨rfl, d14, hm⟩
      · rw [hm] at h
        replace h : eT xq_242 _ 17 [some (.inr (.inl (some 1))), some (.inl n), some (.inl i), some (.inl (0 : Int32)), none] [.inl (1 : Int32)] μ r μ' := h
        rcases tx_if (t := 22) (p' := 20) h em242_17 (by decide) rfl with ⟨c17, h⟩ | ⟨c17, h⟩
        · replace c17 : ¬ (1 : Int) = (0 : Int) := c17
          replace h := tx_iload_n (p' := 23) h em242_22 rfl rfl
          replace h := tx_iconst (v := 1) (p' := 24) h em242_23 (by decide +kernel) rfl
          replace h := tx_iadd (p' := 25) h em242_24 rfl
          replace h := tx_istore (p' := 27) h em242_25 rfl
          replace h : eT xq_242 _ 27 [some (.inr (.inl (some 1))), some (.inl n), some (.inl i), some (.inl (0 : Int32)), some (.inl (i + (1 : Int32)))] [] μ r μ' := h
          have he1 : (i + 1).toInt = i.toInt + 1 := by rw [an_add (by rw [e1i]; omega) (by rw [e1i]; have := an_hi n; omega), e1i]
          exact size_loop0 hi0 d14 _ _ h (by omega) (by omega) (fun k k0 k1 => by rw [show k = i.toInt by omega]; exact d14)
        · replace c17 : ¬ ¬ (1 : Int) = (0 : Int) := c17
          exfalso
          omega
      · rw [hm] at h
        replace h : eT xq_242 _ 17 [some (.inr (.inl (some 1))), some (.inl n), some (.inl i), some (.inl (0 : Int32)), none] [.inl (0 : Int32)] μ r μ' := h
        rcases tx_if (t := 22) (p' := 20) h em242_17 (by decide) rfl with ⟨c17_1, h⟩ | ⟨c17_1, h⟩
        · replace c17_1 : ¬ (0 : Int) = (0 : Int) := c17_1
          exfalso
          omega
        · replace c17_1 : ¬ ¬ (0 : Int) = (0 : Int) := c17_1
          replace h := tx_iconst (v := 1) (p' := 21) h em242_20 (by decide +kernel) rfl
          obtain ⟨rfl, hμ⟩ := tx_ireturn h em242_21
          refine ⟨_, rfl, ⟨⟨by decide, by show i.toInt + 1 ≤ n.toInt; omega⟩, Or.inr (Or.inr ⟨l3, d14, by decide⟩)⟩, hμ⟩
set_option maxRecDepth 10000 in
set_option maxHeartbeats 4000000 in
theorem word_loop {w i s : Int32} {μ μ' : xM} {r : Option zV} (hw0 : 0 ≤ w.toInt) (hi0 : 0 ≤ i.toInt) (hi1 : i.toInt ≤ 2000) : ∀ (m : Nat) (k : Int32) (o : Option zV), eT xq_241 m 3 [some (.inl w), some (.inr (.inl (some 1))), some (.inl i), some (.inl s), some (.inl k), o] [] μ r μ' → 0 ≤ k.toInt → k.toInt ≤ 8 → (∀ j : Nat, (j : Int) < k.toInt → (if (j : Int) < s.toInt then kB μ 1 (i.toInt + j) else 32) = tkW (8 * w.toInt.toNat + j)) → (r = some (.inl 1) ∧ tkWd (kB μ 1) i.toInt s.toInt w.toInt.toNat ∧ μ' = μ) ∨ (r = some (.inl 0) ∧ ¬ tkWd (kB μ 1) i.toInt s.toInt w.toInt.toNat ∧ μ' = μ) := by
  have e1i : (1 : Int32).toInt = 1 := by decide
  intro m
  induction m using Nat.strongRecOn with
  | ind m ih =>
  intro k o h hk0 hk8 hr
  replace h := tx_iload (p' := 5) h em241_3 rfl rfl
  replace h := tx_bipush (v := 8) (p' := 7) h em241_5 (by decide +kernel) rfl
  rcases tx_icmp (t := 54) (p' := 10) h em241_7 (by decide) rfl with ⟨c7, h⟩ | ⟨c7, h⟩
  · replace c7 : 8 ≤ k.toInt := c7
    replace h := tx_iconst (v := 1) (p' := 55) h em241_54 (by decide +kernel) rfl
    obtain ⟨rfl, hμ⟩ := tx_ireturn h em241_55
    refine Or.inl ⟨rfl, fun j hj => hr j (by omega), hμ⟩
  · replace c7 : ¬ 8 ≤ k.toInt := c7
    replace h := tx_iload (p' := 12) h em241_10 rfl rfl
    replace h := tx_iload_n (p' := 13) h em241_12 rfl rfl
    rcases tx_icmp (t := 25) (p' := 16) h em241_13 (by decide) rfl with ⟨c13, h⟩ | ⟨c13, h⟩
    · replace c13 : s.toInt ≤ k.toInt := c13
      replace h := tx_bipush (v := 32) (p' := 27) h em241_25 (by decide +kernel) rfl
      replace h := tx_istore (p' := 29) h em241_27 rfl
      replace h : eT xq_241 _ 29 [some (.inl w), some (.inr (.inl (some 1))), some (.inl i), some (.inl s), some (.inl k), some (.inl (32 : Int32))] [] μ r μ' := h
      obtain ⟨z, -, hz, h⟩ := tx_chat (w := w) (i := k) (p' := 41) h em241_29 rfl rfl (by rw [xo_8]; decide) rfl
      replace h := tx_iload (p' := 43) h em241_41 rfl rfl
      rcases tx_icmp (t := 48) (p' := 46) h em241_43 (by decide) rfl with ⟨c43, h⟩ | ⟨c43, h⟩
      · replace c43 : z.toInt = 32 := c43
        replace h := tx_iinc (v := 1) (p' := 51) h em241_48 (by decide +kernel) rfl rfl
        replace h : eT xq_241 _ 51 [some (.inl w), some (.inr (.inl (some 1))), some (.inl i), some (.inl s), some (.inl (k + 1)), some (.inl (32 : Int32))] [] μ r μ' := h
        obtain ⟨n2, hn2, h⟩ := tx_gotoS (t := 3) h em241_51 (by decide)
        have hzw : tkW (8 * w.toInt.toNat + k.toInt.toNat) = z.toInt := by
          unfold tkW
          rw [show 8 * w.toInt.toNat + k.toInt.toNat = (w.toInt * 8 + k.toInt).toNat by omega, List.getD_eq_getElem?_getD, hz]
          rfl
        have hbk : (if ((k.toInt.toNat : Nat) : Int) < s.toInt then kB μ 1 (i.toInt + (k.toInt.toNat : Nat)) else 32) = (32 : Int32).toInt := by
          rw [if_neg (by omega)]
          rfl
        have hk1 : (k + 1).toInt = k.toInt + 1 := by rw [an_add (by rw [e1i]; omega) (by rw [e1i]; omega), e1i]
        refine ih n2 hn2 _ _ h (by rw [hk1]; omega) (by rw [hk1]; omega) (fun j hj => ?_)
        by_cases q : j = k.toInt.toNat
        · rw [q, hbk, hzw]; omega
        · exact hr j (by rw [hk1] at hj; omega)
      · replace c43 : ¬ z.toInt = 32 := c43
        replace h := tx_iconst (v := 0) (p' := 47) h em241_46 (by decide +kernel) rfl
        obtain ⟨rfl, hμ⟩ := tx_ireturn h em241_47
        have hzw : tkW (8 * w.toInt.toNat + k.toInt.toNat) = z.toInt := by
          unfold tkW
          rw [show 8 * w.toInt.toNat + k.toInt.toNat = (w.toInt * 8 + k.toInt).toNat by omega, List.getD_eq_getElem?_getD, hz]
          rfl
        have hbk : (if ((k.toInt.toNat : Nat) : Int) < s.toInt then kB μ 1 (i.toInt + (k.toInt.toNat : Nat)) else 32) = (32 : Int32).toInt := by
          rw [if_neg (by omega)]
          rfl
        refine Or.inr ⟨rfl, fun q => ?_, hμ⟩
        have q1 := q k.toInt.toNat (by omega)
        rw [hbk, hzw] at q1
        omega
    · replace c13 : ¬ s.toInt ≤ k.toInt := c13
      replace h := tx_aload_n (p' := 17) h em241_16 rfl rfl
      replace h := tx_iload_n (p' := 18) h em241_17 rfl rfl
      replace h := tx_iload (p' := 20) h em241_18 rfl rfl
      replace h := tx_iadd (p' := 21) h em241_20 rfl
      obtain ⟨hb21, h⟩ := tx_bald (len := 2000) (p' := 22) h em241_21 rfl rfl
      replace hb21 : 0 ≤ (i + k).toInt ∧ (i + k).toInt < 2000 := hb21
      replace h := tx_goto (t := 27) h em241_22 (by decide)
      replace h := tx_istore (p' := 29) h em241_27 rfl
      replace h : eT xq_241 _ 29 [some (.inl w), some (.inr (.inl (some 1))), some (.inl i), some (.inl s), some (.inl k), some (.inl (μ.1 1 (i + k).toInt.toNat))] [] μ r μ' := h
      obtain ⟨z, -, hz, h⟩ := tx_chat (w := w) (i := k) (p' := 41) h em241_29 rfl rfl (by rw [xo_8]; decide) rfl
      replace h := tx_iload (p' := 43) h em241_41 rfl rfl
      rcases tx_icmp (t := 48) (p' := 46) h em241_43 (by decide) rfl with ⟨c43_1, h⟩ | ⟨c43_1, h⟩
      · replace c43_1 : z.toInt = (μ.1 1 (i + k).toInt.toNat).toInt := c43_1
        replace h := tx_iinc (v := 1) (p' := 51) h em241_48 (by decide +kernel) rfl rfl
        replace h : eT xq_241 _ 51 [some (.inl w), some (.inr (.inl (some 1))), some (.inl i), some (.inl s), some (.inl (k + 1)), some (.inl (μ.1 1 (i + k).toInt.toNat))] [] μ r μ' := h
        obtain ⟨n2, hn2, h⟩ := tx_gotoS (t := 3) h em241_51 (by decide)
        have hzw : tkW (8 * w.toInt.toNat + k.toInt.toNat) = z.toInt := by
          unfold tkW
          rw [show 8 * w.toInt.toNat + k.toInt.toNat = (w.toInt * 8 + k.toInt).toNat by omega, List.getD_eq_getElem?_getD, hz]
          rfl
        have hik : (i + k).toInt = i.toInt + k.toInt := by rw [an_add (by omega) (by omega)]
        have hbk : (if ((k.toInt.toNat : Nat) : Int) < s.toInt then kB μ 1 (i.toInt + (k.toInt.toNat : Nat)) else 32) = (μ.1 1 (i + k).toInt.toNat).toInt := by
          rw [if_pos (by omega), hik, show i.toInt + ((k.toInt.toNat : Nat) : Int) = i.toInt + k.toInt by omega]
          rfl
        have hk1 : (k + 1).toInt = k.toInt + 1 := by rw [an_add (by rw [e1i]; omega) (by rw [e1i]; omega), e1i]
        refine ih n2 hn2 _ _ h (by rw [hk1]; omega) (by rw [hk1]; omega) (fun j hj => ?_)
        by_cases q : j = k.toInt.toNat
        · rw [q, hbk, hzw]; omega
        · exact hr j (by rw [hk1] at hj; omega)
      · replace c43_1 : ¬ z.toInt = (μ.1 1 (i + k).toInt.toNat).toInt := c43_1
        replace h := tx_iconst (v := 0) (p' := 47) h em241_46 (by decide +kernel) rfl
        obtain ⟨rfl, hμ⟩ := tx_ireturn h em241_47
        have hzw : tkW (8 * w.toInt.toNat + k.toInt.toNat) = z.toInt := by
          unfold tkW
          rw [show 8 * w.toInt.toNat + k.toInt.toNat = (w.toInt * 8 + k.toInt).toNat by omega, List.getD_eq_getElem?_getD, hz]
          rfl
        have hik : (i + k).toInt = i.toInt + k.toInt := by rw [an_add (by omega) (by omega)]
        have hbk : (if ((k.toInt.toNat : Nat) : Int) < s.toInt then kB μ 1 (i.toInt + (k.toInt.toNat : Nat)) else 32) = (μ.1 1 (i + k).toInt.toNat).toInt := by
          rw [if_pos (by omega), hik, show i.toInt + ((k.toInt.toNat : Nat) : Int) = i.toInt + k.toInt by omega]
          rfl
        refine Or.inr ⟨rfl, fun q => ?_, hμ⟩
        have q1 := q k.toInt.toNat (by omega)
        rw [hbk, hzw] at q1
        omega
set_option maxRecDepth 10000 in
set_option maxHeartbeats 4000000 in
theorem ex_isWord {w i s : Int32} {μ μ' : xM} {r : Option zV} (h0 : Ex gx xq_241 [.inl w, .inr (.inl (some 1)), .inl i, .inl s] μ r μ') (hw0 : 0 ≤ w.toInt) (hi0 : 0 ≤ i.toInt) (hi1 : i.toInt ≤ 2000) : (r = some (.inl 1) ∧ tkWd (kB μ 1) i.toInt s.toInt w.toInt.toNat ∧ μ' = μ) ∨ (r = some (.inl 0) ∧ ¬ tkWd (kB μ 1) i.toInt s.toInt w.toInt.toNat ∧ μ' = μ) := by
  obtain ⟨n, h⟩ := tx_in (L := [some (.inl w), some (.inr (.inl (some 1))), some (.inl i), some (.inl s), none, none]) h0 rfl
  replace h := tx_iconst (v := 0) (p' := 1) h em241_0 (by decide +kernel) rfl
  replace h := tx_istore (p' := 3) h em241_1 rfl
  replace h : eT xq_241 _ 3 [some (.inl w), some (.inr (.inl (some 1))), some (.inl i), some (.inl s), some (.inl (0 : Int32)), none] [] μ r μ' := h
  exact word_loop hw0 hi0 hi1 _ _ _ h (by decide) (by decide) (fun j hj => by have hj : (j : Int) < 0 := hj; omega)
set_option maxRecDepth 10000 in
set_option maxHeartbeats 4000000 in
theorem name_loop {i s : Int32} {μ μ' : xM} {r : Option zV} (hi0 : 0 ≤ i.toInt) (hi1 : i.toInt ≤ 2000) : ∀ (m : Nat) (w : Int32), eT xq_240 m 2 [some (.inr (.inl (some 1))), some (.inl i), some (.inl s), some (.inl w)] [] μ r μ' → 0 ≤ w.toInt → w.toInt ≤ 21 → (∀ j : Nat, (j : Int) < w.toInt → ¬ tkWd (kB μ 1) i.toInt s.toInt j) → ∃ k : Int32, r = some (.inl k) ∧ ((∃ w : Nat, w < 21 ∧ tkWd (kB μ 1) i.toInt s.toInt w ∧ k.toInt = 128 + w) ∨ ((∀ w : Nat, w < 21 → ¬ tkWd (kB μ 1) i.toInt s.toInt w) ∧ k.toInt = 2)) ∧ μ' = μ := by
  have e1i : (1 : Int32).toInt = 1 := by decide
  intro m
  induction m using Nat.strongRecOn with
  | ind m ih =>
  intro w h hw0 hw21 hr
  replace h := tx_iload_n (p' := 3) h em240_2 rfl rfl
  replace h := tx_bipush (v := 21) (p' := 5) h em240_3 (by decide +kernel) rfl
  rcases tx_icmp (t := 30) (p' := 8) h em240_5 (by decide) rfl with ⟨c5, h⟩ | ⟨c5, h⟩
  · replace c5 : 21 ≤ w.toInt := c5
    replace h := tx_iconst (v := 2) (p' := 31) h em240_30 (by decide +kernel) rfl
    obtain ⟨rfl, hμ⟩ := tx_ireturn h em240_31
    exact ⟨_, rfl, Or.inr ⟨fun w2 h2 => hr w2 (by omega), by decide⟩, hμ⟩
  · replace c5 : ¬ 21 ≤ w.toInt := c5
    replace h := tx_iload_n (p' := 9) h em240_8 rfl rfl
    replace h := tx_aload_n (p' := 10) h em240_9 rfl rfl
    replace h := tx_iload_n (p' := 11) h em240_10 rfl rfl
    replace h := tx_iload_n (p' := 12) h em240_11 rfl rfl
    obtain ⟨r12, μ12, hE12, h⟩ := tx_invS (na := 4) (mn := 241) (as := [.inl w, .inr (.inl (some 1)), .inl i, .inl s]) (rest := []) (p' := 15) h em240_12 ((congrFun xo_8 47).trans rfl) xm_241 rfl rfl
    rcases ex_isWord hE12 (by omega) hi0 hi1 with ⟨rfl, hw, hm⟩ | ⟨rfl, hw, hm⟩
    · rw [hm] at h
      replace h : eT xq_240 _ 15 [some (.inr (.inl (some 1))), some (.inl i), some (.inl s), some (.inl w)] [.inl (1 : Int32)] μ r μ' := h
      rcases tx_if (t := 24) (p' := 18) h em240_15 (by decide) rfl with ⟨c15, h⟩ | ⟨c15, h⟩
      · replace c15 : (1 : Int) = (0 : Int) := c15
        exfalso
        omega
      · replace c15 : ¬ (1 : Int) = (0 : Int) := c15
        replace h := tx_sipush (v := 128) (p' := 21) h em240_18 (by decide +kernel) rfl
        replace h := tx_iload_n (p' := 22) h em240_21 rfl rfl
        replace h := tx_iadd (p' := 23) h em240_22 rfl
        obtain ⟨rfl, hμ⟩ := tx_ireturn h em240_23
        refine ⟨_, rfl, Or.inl ⟨w.toInt.toNat, by omega, hw, ?_⟩, hμ⟩
        have e128 : (128 : Int32).toInt = 128 := by decide
        rw [an_add (by rw [e128]; omega) (by rw [e128]; omega), e128]
        omega
    · rw [hm] at h
      replace h : eT xq_240 _ 15 [some (.inr (.inl (some 1))), some (.inl i), some (.inl s), some (.inl w)] [.inl (0 : Int32)] μ r μ' := h
      rcases tx_if (t := 24) (p' := 18) h em240_15 (by decide) rfl with ⟨c15_1, h⟩ | ⟨c15_1, h⟩
      · replace c15_1 : (0 : Int) = (0 : Int) := c15_1
        replace h := tx_iinc (v := 1) (p' := 27) h em240_24 (by decide +kernel) rfl rfl
        replace h : eT xq_240 _ 27 [some (.inr (.inl (some 1))), some (.inl i), some (.inl s), some (.inl (w + 1))] [] μ r μ' := h
        obtain ⟨n2, hn2, h⟩ := tx_gotoS (t := 2) h em240_27 (by decide)
        have hw1 : (w + 1).toInt = w.toInt + 1 := by rw [an_add (by rw [e1i]; omega) (by rw [e1i]; omega), e1i]
        refine ih n2 hn2 _ h (by rw [hw1]; omega) (by rw [hw1]; omega) (fun j hj => ?_)
        by_cases q : j = w.toInt.toNat
        · rw [q]; exact hw
        · exact hr j (by rw [hw1] at hj; omega)
      · replace c15_1 : ¬ (0 : Int) = (0 : Int) := c15_1
        exfalso
        omega
set_option maxRecDepth 10000 in
set_option maxHeartbeats 4000000 in
theorem ex_wordOrName {i s : Int32} {μ μ' : xM} {r : Option zV} (h0 : Ex gx xq_240 [.inr (.inl (some 1)), .inl i, .inl s] μ r μ') (hi0 : 0 ≤ i.toInt) (hi1 : i.toInt ≤ 2000) : ∃ k : Int32, r = some (.inl k) ∧ ((∃ w : Nat, w < 21 ∧ tkWd (kB μ 1) i.toInt s.toInt w ∧ k.toInt = 128 + w) ∨ ((∀ w : Nat, w < 21 → ¬ tkWd (kB μ 1) i.toInt s.toInt w) ∧ k.toInt = 2)) ∧ μ' = μ := by
  obtain ⟨n, h⟩ := tx_in (L := [some (.inr (.inl (some 1))), some (.inl i), some (.inl s), none]) h0 rfl
  replace h := tx_iconst (v := 0) (p' := 1) h em240_0 (by decide +kernel) rfl
  replace h := tx_istore_n (p' := 2) h em240_1 rfl
  replace h : eT xq_240 _ 2 [some (.inr (.inl (some 1))), some (.inl i), some (.inl s), some (.inl (0 : Int32))] [] μ r μ' := h
  exact name_loop hi0 hi1 _ _ h (by decide) (by decide) (fun j hj => by have hj : (j : Int) < 0 := hj; omega)
theorem tkSg_w {c : Int32} : c ∈ xW0 ↔ tkSg c.toInt := by
  unfold xW0 tkSg
  simp only [List.mem_cons, List.not_mem_nil, or_false]
  have e : ∀ k : Int32, c = k ↔ c.toInt = k.toInt := fun k => ⟨fun h => by rw [h], fun h => Int32.toInt_inj.mp h⟩
  rw [e 59, e 61, e 43, e 45, e 42, e 47, e 60, e 40, e 41]
  exact Iff.rfl
set_option maxRecDepth 10000 in
set_option maxHeartbeats 4000000 in
theorem ex_kindOf {i s : Int32} {μ μ' : xM} {r : Option zV} (h0 : Ex gx xq_239 [.inr (.inl (some 1)), .inl i, .inl s] μ r μ') (hi0 : 0 ≤ i.toInt) (hi1 : i.toInt ≤ 2000) : ∃ k : Int32, r = some (.inl k) ∧ tkKd (kB μ 1) i.toInt s.toInt k.toInt ∧ μ' = μ := by
  obtain ⟨n, h⟩ := tx_in (L := [some (.inr (.inl (some 1))), some (.inl i), some (.inl s), none]) h0 rfl
  replace h := tx_aload_n (p' := 1) h em239_0 rfl rfl
  replace h := tx_iload_n (p' := 2) h em239_1 rfl rfl
  obtain ⟨hb2, h⟩ := tx_bald (len := 2000) (p' := 3) h em239_2 rfl rfl
  replace hb2 : 0 ≤ i.toInt ∧ i.toInt < 2000 := hb2
  replace h := tx_istore_n (p' := 4) h em239_3 rfl
  replace h : eT xq_239 _ 4 [some (.inr (.inl (some 1))), some (.inl i), some (.inl s), some (.inl (μ.1 1 i.toInt.toNat))] [] μ r μ' := h
  replace h := tx_iload_n (p' := 5) h em239_4 rfl rfl
  obtain ⟨r5, μ5, hE5, h⟩ := tx_invS (na := 1) (mn := 210) (as := [.inl (μ.1 1 i.toInt.toNat)]) (rest := []) (p' := 8) h em239_5 ((congrFun xo_8 30).trans rfl) xm_210 rfl rfl
  rcases ex_isLower hE5 with ⟨rfl, l5, hm⟩ | ⟨rfl, l5, hm⟩
  · rw [hm] at h
    replace h : eT xq_239 _ 8 [some (.inr (.inl (some 1))), some (.inl i), some (.inl s), some (.inl (μ.1 1 i.toInt.toNat))] [.inl (1 : Int32)] μ r μ' := h
    rcases tx_if (t := 28) (p' := 11) h em239_8 (by decide) rfl with ⟨c8, h⟩ | ⟨c8, h⟩
    · replace c8 : (1 : Int) = (0 : Int) := c8
      exfalso
      omega
    · replace c8 : ¬ (1 : Int) = (0 : Int) := c8
      replace h := tx_iload_n (p' := 12) h em239_11 rfl rfl
      replace h := tx_bipush (v := 8) (p' := 14) h em239_12 (by decide +kernel) rfl
      rcases tx_icmp (t := 21) (p' := 17) h em239_14 (by decide) rfl with ⟨c14, h⟩ | ⟨c14, h⟩
      · replace c14 : s.toInt ≤ 8 := c14
        replace h := tx_aload_n (p' := 22) h em239_21 rfl rfl
        replace h := tx_iload_n (p' := 23) h em239_22 rfl rfl
        replace h := tx_iload_n (p' := 24) h em239_23 rfl rfl
        obtain ⟨r24, μ24, hE24, h⟩ := tx_invS (na := 3) (mn := 240) (as := [.inr (.inl (some 1)), .inl i, .inl s]) (rest := []) (p' := 27) h em239_24 ((congrFun xo_8 36).trans rfl) xm_240 rfl rfl
        obtain ⟨kv, rfl, hk, hm⟩ := ex_wordOrName hE24 hi0 hi1
        rw [hm] at h
        replace h : eT xq_239 _ 27 [some (.inr (.inl (some 1))), some (.inl i), some (.inl s), some (.inl (μ.1 1 i.toInt.toNat))] [.inl kv] μ r μ' := h
        obtain ⟨rfl, hμ⟩ := tx_ireturn h em239_27
        exact ⟨_, rfl, Or.inr (Or.inl ⟨l5, by have e8 : (8 : Int32).toInt = 8 := (by decide); omega, hk⟩), hμ⟩
      · replace c14 : ¬ s.toInt ≤ 8 := c14
        replace h := tx_iconst (v := 1) (p' := 18) h em239_17 (by decide +kernel) rfl
        replace h := tx_goto (t := 27) h em239_18 (by decide)
        obtain ⟨rfl, hμ⟩ := tx_ireturn h em239_27
        exact ⟨_, rfl, Or.inl ⟨l5, by omega, by decide⟩, hμ⟩
  · rw [hm] at h
    replace h : eT xq_239 _ 8 [some (.inr (.inl (some 1))), some (.inl i), some (.inl s), some (.inl (μ.1 1 i.toInt.toNat))] [.inl (0 : Int32)] μ r μ' := h
    rcases tx_if (t := 28) (p' := 11) h em239_8 (by decide) rfl with ⟨c8_1, h⟩ | ⟨c8_1, h⟩
    · replace c8_1 : (0 : Int) = (0 : Int) := c8_1
      replace h := tx_iload_n (p' := 29) h em239_28 rfl rfl
      obtain ⟨r29, μ29, hE29, h⟩ := tx_invS (na := 1) (mn := 209) (as := [.inl (μ.1 1 i.toInt.toNat)]) (rest := []) (p' := 32) h em239_29 ((congrFun xo_8 33).trans rfl) xm_209 rfl rfl
      rcases ex_isDigit hE29 with ⟨rfl, d29, hm⟩ | ⟨rfl, d29, hm⟩
      · rw [hm] at h
        replace h : eT xq_239 _ 32 [some (.inr (.inl (some 1))), some (.inl i), some (.inl s), some (.inl (μ.1 1 i.toInt.toNat))] [.inl (1 : Int32)] μ r μ' := h
        rcases tx_if (t := 46) (p' := 35) h em239_32 (by decide) rfl with ⟨c32, h⟩ | ⟨c32, h⟩
        · replace c32 : (1 : Int) = (0 : Int) := c32
          exfalso
          omega
        · replace c32 : ¬ (1 : Int) = (0 : Int) := c32
          replace h := tx_iload_n (p' := 36) h em239_35 rfl rfl
          replace h := tx_iconst (v := 4) (p' := 37) h em239_36 (by decide +kernel) rfl
          rcases tx_icmp (t := 44) (p' := 40) h em239_37 (by decide) rfl with ⟨c37, h⟩ | ⟨c37, h⟩
          · replace c37 : s.toInt ≤ 4 := c37
            replace h := tx_iconst (v := 3) (p' := 45) h em239_44 (by decide +kernel) rfl
            obtain ⟨rfl, hμ⟩ := tx_ireturn h em239_45
            exact ⟨_, rfl, Or.inr (Or.inr (Or.inr (Or.inl ⟨d29, by omega, by decide⟩))), hμ⟩
          · replace c37 : ¬ s.toInt ≤ 4 := c37
            replace h := tx_iconst (v := 1) (p' := 41) h em239_40 (by decide +kernel) rfl
            replace h := tx_goto (t := 45) h em239_41 (by decide)
            obtain ⟨rfl, hμ⟩ := tx_ireturn h em239_45
            exact ⟨_, rfl, Or.inr (Or.inr (Or.inl ⟨d29, by omega, by decide⟩)), hμ⟩
      · rw [hm] at h
        replace h : eT xq_239 _ 32 [some (.inr (.inl (some 1))), some (.inl i), some (.inl s), some (.inl (μ.1 1 i.toInt.toNat))] [.inl (0 : Int32)] μ r μ' := h
        rcases tx_if (t := 46) (p' := 35) h em239_32 (by decide) rfl with ⟨c32_1, h⟩ | ⟨c32_1, h⟩
        · replace c32_1 : (0 : Int) = (0 : Int) := c32_1
          replace h := tx_iload_n (p' := 47) h em239_46 rfl rfl
          rcases tx_if (t := 64) (p' := 50) h em239_47 (by decide) rfl with ⟨c47, h⟩ | ⟨c47, h⟩
          · replace c47 : (μ.1 1 i.toInt.toNat).toInt ≤ 0 := c47
            replace h := tx_iconst (v := 1) (p' := 65) h em239_64 (by decide +kernel) rfl
            obtain ⟨rfl, hμ⟩ := tx_ireturn h em239_65
            have l5 : ¬ tkLo (kB μ 1 i.toInt) := l5
            have d29 : ¬ tkDi (kB μ 1 i.toInt) := d29
            exact ⟨_, rfl, Or.inr (Or.inr (Or.inr (Or.inr ⟨l5, d29, Or.inr ⟨fun q => by unfold tkSg kB at q; omega, by decide⟩⟩))), hμ⟩
          · replace c47 : ¬ (μ.1 1 i.toInt.toNat).toInt ≤ 0 := c47
            obtain ⟨z, -, hz, h⟩ := tx_ixof (c := μ.1 1 i.toInt.toNat) (p' := 57) h em239_50 rfl (by rw [xo_8]; decide) rfl
            rcases tx_if (t := 64) (p' := 60) h em239_57 (by decide) rfl with ⟨c57, h⟩ | ⟨c57, h⟩
            · replace c57 : z.toInt < 0 := c57
              replace h := tx_iconst (v := 1) (p' := 65) h em239_64 (by decide +kernel) rfl
              obtain ⟨rfl, hμ⟩ := tx_ireturn h em239_65
              have l5 : ¬ tkLo (kB μ 1 i.toInt) := l5
              have d29 : ¬ tkDi (kB μ 1 i.toInt) := d29
              exact ⟨_, rfl, Or.inr (Or.inr (Or.inr (Or.inr ⟨l5, d29, Or.inr ⟨fun q => by have := hz.mpr (tkSg_w.mpr q); omega, by decide⟩⟩))), hμ⟩
            · replace c57 : ¬ z.toInt < 0 := c57
              replace h := tx_iload_n (p' := 61) h em239_60 rfl rfl
              replace h := tx_goto (t := 65) h em239_61 (by decide)
              obtain ⟨rfl, hμ⟩ := tx_ireturn h em239_65
              have l5 : ¬ tkLo (kB μ 1 i.toInt) := l5
              have d29 : ¬ tkDi (kB μ 1 i.toInt) := d29
              exact ⟨_, rfl, Or.inr (Or.inr (Or.inr (Or.inr ⟨l5, d29, Or.inl ⟨tkSg_w.mp (hz.mp (by omega)), rfl⟩⟩))), hμ⟩
        · replace c32_1 : ¬ (0 : Int) = (0 : Int) := c32_1
          exfalso
          omega
    · replace c8_1 : ¬ (0 : Int) = (0 : Int) := c8_1
      exfalso
      omega
/-- the tokens' rows alone are changed -/
def tkF (μ ν : xM) : Prop := (∀ k j, k ≠ 24 → k ≠ 25 → k ≠ 26 → ν.1 k j = μ.1 k j) ∧ ν.2 = μ.2
theorem tkF_c {μ ν : xM} {k j : Nat} {v : Int32} (h : tkF μ ν) (hk : k = 24 ∨ k = 25 ∨ k = 26) : tkF μ (xpi ν k j v) := ⟨fun c i a b d => (xpi_ne (fun q => by omega)).trans (h.1 c i a b d), h.2⟩
theorem tkF_B {μ ν : xM} (h : tkF μ ν) : kB ν 1 = kB μ 1 := by funext i; unfold kB; rw [h.1 1 _ (by decide) (by decide) (by decide)]
/-- three rows of a token are written -/
theorem tk_w {ω ω' : xM} {t p s k : Int32} (e : ω' = xpi (xpi (xpi ω 25 t.toInt.toNat p) 26 t.toInt.toNat s) 24 t.toInt.toNat k) (h0 : 0 ≤ t.toInt) : (∀ a, 0 ≤ a → a < t.toInt → cP ω' a = cP ω a ∧ cS ω' a = cS ω a ∧ cK ω' a = cK ω a) ∧ cP ω' t.toInt = p.toInt ∧ cS ω' t.toInt = s.toInt ∧ cK ω' t.toInt = k.toInt := by
  subst e
  have ne : ∀ a : Int, 0 ≤ a → a < t.toInt → ¬ a.toNat = t.toInt.toNat := fun a a0 a1 => by omega
  refine ⟨fun a a0 a1 => ⟨?_, ?_, ?_⟩, ?_, ?_, ?_⟩
  · unfold cP; rw [xpi_ne (fun q => absurd q.1 (by decide)), xpi_ne (fun q => absurd q.1 (by decide)), xpi_ne (fun q => ne a a0 a1 q.2)]
  · unfold cS; rw [xpi_ne (fun q => absurd q.1 (by decide)), xpi_ne (fun q => ne a a0 a1 q.2), xpi_ne (fun q => absurd q.1 (by decide))]
  · unfold cK; rw [xpi_ne (fun q => ne a a0 a1 q.2), xpi_ne (fun q => absurd q.1 (by decide)), xpi_ne (fun q => absurd q.1 (by decide))]
  · unfold cP; rw [xpi_ne (fun q => absurd q.1 (by decide)), xpi_ne (fun q => absurd q.1 (by decide)), xpi_at]
  · unfold cS; rw [xpi_ne (fun q => absurd q.1 (by decide)), xpi_at]
  · unfold cK; rw [xpi_at]
def tkQ (μ : xM) (n : Int) (r : Option zV) (μ' : xM) : Prop := r = none ∧ tkF μ μ' ∧ ∃ E, tkC (kB μ 1) n (cP μ') (cS μ') (cK μ') E ∧ (∀ a, 0 ≤ a → a < E → 2 ≤ cK μ' a) ∧ (E < 400 → cK μ' E ≤ 1)
theorem tkKd_0 {B : Int → Int} {i s k : Int} (h : tkKd B i s k) : ¬ k = 0 := by
  rcases h with ⟨-, -, h⟩ | ⟨-, -, ⟨w, -, -, h⟩ | ⟨-, h⟩⟩ | ⟨-, -, h⟩ | ⟨-, -, h⟩ | ⟨-, -, ⟨h1, h⟩ | ⟨-, h⟩⟩
  · omega
  · omega
  · omega
  · omega
  · omega
  · unfold tkSg at h1; omega
  · omega
theorem tkKd_p {B : Int → Int} {i s k : Int} (h : tkKd B i s k) : 0 ≤ k := by
  rcases h with ⟨-, -, h⟩ | ⟨-, -, ⟨w, -, -, h⟩ | ⟨-, h⟩⟩ | ⟨-, -, h⟩ | ⟨-, -, h⟩ | ⟨-, -, ⟨h1, h⟩ | ⟨-, h⟩⟩
  · omega
  · omega
  · omega
  · omega
  · omega
  · unfold tkSg at h1; omega
  · omega
set_option maxRecDepth 10000 in
set_option maxHeartbeats 4000000 in
theorem scan_33 {n : Int32} {μ μ' : xM} {r : Option zV} (hn0 : 0 ≤ n.toInt) (hn1 : n.toInt ≤ 2000) {m : Nat} (ih : ∀ m2, m2 < m → ∀ (i t : Int32) (ω : xM), eT xq_48 m2 5 [some (.inr (.inl (some 23))), some (.inr (.inl (some 1))), some (.inl n), some (.inl i), some (.inl t)] [] ω r μ' → tkF μ ω → 0 ≤ t.toInt → t.toInt ≤ 401 → tkIn (kB μ 1) n.toInt (cP ω) (cS ω) (cK ω) t.toInt i.toInt → (∀ a, 0 ≤ a → a < t.toInt → 2 ≤ cK ω a) → tkQ μ n.toInt r μ') {i t : Int32} {ω : xM} {e : Int} (h : eT xq_48 m 33 [some (.inr (.inl (some 23))), some (.inr (.inl (some 1))), some (.inl n), some (.inl i), some (.inl t)] [] ω r μ') (hF : tkF μ ω) (ht0 : 0 ≤ t.toInt) (ht4 : t.toInt ≤ 400) (hI : tkIn (kB μ 1) n.toInt (cP ω) (cS ω) (cK ω) t.toInt e) (hsk : tkSk (kB μ 1) n.toInt e i.toInt) (h2 : ∀ a, 0 ≤ a → a < t.toInt → 2 ≤ cK ω a) (hin : 0 ≤ i.toInt) : tkQ μ n.toInt r μ' := by
  have e1i : (1 : Int32).toInt = 1 := by decide
  have hB := tkF_B hF
  replace h := tx_aload_n (p' := 34) h em48_33 rfl rfl
  replace h := tx_getc (c := 7) (j := 1) (p' := 37) h em48_34 ((congrFun xo_8 13).trans rfl) rfl rfl rfl
  replace h := tx_iload (p' := 39) h em48_37 rfl rfl
  replace h := tx_iload_n (p' := 40) h em48_39 rfl rfl
  obtain ⟨hb40, h⟩ := tx_iast (len := 401) (p' := 41) h em48_40 rfl rfl
  replace hb40 : 0 ≤ t.toInt ∧ t.toInt < 401 := hb40
  replace h := tx_aload_n (p' := 42) h em48_41 rfl rfl
  replace h := tx_getc (c := 7) (j := 2) (p' := 45) h em48_42 ((congrFun xo_8 16).trans rfl) rfl rfl rfl
  replace h := tx_iload (p' := 47) h em48_45 rfl rfl
  replace h := tx_iload_n (p' := 48) h em48_47 rfl rfl
  replace h := tx_iload_n (p' := 49) h em48_48 rfl rfl
  rcases tx_icmp (t := 61) (p' := 52) h em48_49 (by decide) rfl with ⟨c49, h⟩ | ⟨c49, h⟩
  · replace c49 : n.toInt ≤ i.toInt := c49
    replace h := tx_iconst (v := 0) (p' := 62) h em48_61 (by decide +kernel) rfl
    obtain ⟨hb62, h⟩ := tx_iast (len := 401) (p' := 63) h em48_62 rfl rfl
    replace hb62 : 0 ≤ t.toInt ∧ t.toInt < 401 := hb62
    replace h := tx_aload_n (p' := 64) h em48_63 rfl rfl
    replace h := tx_getc (c := 7) (j := 0) (p' := 67) h em48_64 ((congrFun xo_8 9).trans rfl) rfl rfl rfl
    replace h := tx_iload (p' := 69) h em48_67 rfl rfl
    replace h := tx_iload_n (p' := 70) h em48_69 rfl rfl
    replace h := tx_iload_n (p' := 71) h em48_70 rfl rfl
    rcases tx_icmp (t := 89) (p' := 74) h em48_71 (by decide) rfl with ⟨c71, h⟩ | ⟨c71, h⟩
    · replace c71 : n.toInt ≤ i.toInt := c71
      replace h := tx_iconst (v := 0) (p' := 90) h em48_89 (by decide +kernel) rfl
      obtain ⟨hb90, h⟩ := tx_iast (len := 401) (p' := 91) h em48_90 rfl rfl
      replace hb90 : 0 ≤ t.toInt ∧ t.toInt < 401 := hb90
      replace h := tx_aload_n (p' := 92) h em48_91 rfl rfl
      replace h := tx_getc (c := 7) (j := 0) (p' := 95) h em48_92 ((congrFun xo_8 9).trans rfl) rfl rfl rfl
      replace h := tx_iload (p' := 97) h em48_95 rfl rfl
      obtain ⟨hb97, h⟩ := tx_iald (len := 401) (p' := 98) h em48_97 rfl rfl
      replace hb97 : 0 ≤ t.toInt ∧ t.toInt < 401 := hb97
      rcases tx_if (t := 112) (p' := 101) h em48_98 (by decide) rfl with ⟨c98, h⟩ | ⟨c98, h⟩
      · replace c98 : ((xpi (xpi (xpi ω 25 t.toInt.toNat i) 26 t.toInt.toNat (0 : Int32)) 24 t.toInt.toNat (0 : Int32)).1 24 t.toInt.toNat).toInt = 0 := c98
        obtain ⟨rfl, hμ⟩ := tx_return h em48_112
        have hw := tk_w (ω := ω) (ω' := (xpi (xpi (xpi ω 25 t.toInt.toNat i) 26 t.toInt.toNat (0 : Int32)) 24 t.toInt.toNat (0 : Int32))) (p := i) (s := (0 : Int32)) (k := (0 : Int32)) rfl ht0
        have hF3 : tkF μ (xpi (xpi (xpi ω 25 t.toInt.toNat i) 26 t.toInt.toNat (0 : Int32)) 24 t.toInt.toNat (0 : Int32)) := tkF_c (tkF_c (tkF_c hF (by omega)) (by omega)) (by omega)
        rw [hμ]
        have hpn : i.toInt = n.toInt := by have := hsk.1; omega
        refine ⟨rfl, hF3, t.toInt, tkIn_e hI (by omega) (by have hsk2 := hsk; rw [hpn] at hsk2; exact hsk2) hw.1 ⟨hw.2.1.trans hpn, hw.2.2.2⟩, fun a a0 a1 => ?_, fun _ => by rw [hw.2.2.2]; decide⟩
        rw [(hw.1 a a0 a1).2.2]
        exact h2 a a0 a1
      · replace c98 : ¬ ((xpi (xpi (xpi ω 25 t.toInt.toNat i) 26 t.toInt.toNat (0 : Int32)) 24 t.toInt.toNat (0 : Int32)).1 24 t.toInt.toNat).toInt = 0 := c98
        replace h := tx_aload_n (p' := 102) h em48_101 rfl rfl
        replace h := tx_getc (c := 7) (j := 0) (p' := 105) h em48_102 ((congrFun xo_8 9).trans rfl) rfl rfl rfl
        replace h := tx_iload (p' := 107) h em48_105 rfl rfl
        obtain ⟨hb107, h⟩ := tx_iald (len := 401) (p' := 108) h em48_107 rfl rfl
        replace hb107 : 0 ≤ t.toInt ∧ t.toInt < 401 := hb107
        replace h := tx_iconst (v := 1) (p' := 109) h em48_108 (by decide +kernel) rfl
        rcases tx_icmp (t := 113) (p' := 112) h em48_109 (by decide) rfl with ⟨c109, h⟩ | ⟨c109, h⟩
        · replace c109 : ¬ ((xpi (xpi (xpi ω 25 t.toInt.toNat i) 26 t.toInt.toNat (0 : Int32)) 24 t.toInt.toNat (0 : Int32)).1 24 t.toInt.toNat).toInt = 1 := c109
          replace h := tx_iload_n (p' := 114) h em48_113 rfl rfl
          replace h := tx_aload_n (p' := 115) h em48_114 rfl rfl
          replace h := tx_getc (c := 7) (j := 2) (p' := 118) h em48_115 ((congrFun xo_8 16).trans rfl) rfl rfl rfl
          replace h := tx_iload (p' := 120) h em48_118 rfl rfl
          obtain ⟨hb120, h⟩ := tx_iald (len := 401) (p' := 121) h em48_120 rfl rfl
          replace hb120 : 0 ≤ t.toInt ∧ t.toInt < 401 := hb120
          replace h := tx_iadd (p' := 122) h em48_121 rfl
          replace h := tx_istore_n (p' := 123) h em48_122 rfl
          replace h : eT xq_48 _ 123 [some (.inr (.inl (some 23))), some (.inr (.inl (some 1))), some (.inl n), some (.inl (i + ((xpi (xpi (xpi ω 25 t.toInt.toNat i) 26 t.toInt.toNat (0 : Int32)) 24 t.toInt.toNat (0 : Int32)).1 26 t.toInt.toNat))), some (.inl t)] [] (xpi (xpi (xpi ω 25 t.toInt.toNat i) 26 t.toInt.toNat (0 : Int32)) 24 t.toInt.toNat (0 : Int32)) r μ' := h
          replace h := tx_iinc (v := 1) (p' := 126) h em48_123 (by decide +kernel) rfl rfl
          replace h : eT xq_48 _ 126 [some (.inr (.inl (some 23))), some (.inr (.inl (some 1))), some (.inl n), some (.inl (i + ((xpi (xpi (xpi ω 25 t.toInt.toNat i) 26 t.toInt.toNat (0 : Int32)) 24 t.toInt.toNat (0 : Int32)).1 26 t.toInt.toNat))), some (.inl (t + 1))] [] (xpi (xpi (xpi ω 25 t.toInt.toNat i) 26 t.toInt.toNat (0 : Int32)) 24 t.toInt.toNat (0 : Int32)) r μ' := h
          obtain ⟨n2, hn2, h⟩ := tx_gotoS (t := 5) h em48_126 (by decide)
          have hw := tk_w (ω := ω) (ω' := (xpi (xpi (xpi ω 25 t.toInt.toNat i) 26 t.toInt.toNat (0 : Int32)) 24 t.toInt.toNat (0 : Int32))) (p := i) (s := (0 : Int32)) (k := (0 : Int32)) rfl ht0
          have hF3 : tkF μ (xpi (xpi (xpi ω 25 t.toInt.toNat i) 26 t.toInt.toNat (0 : Int32)) 24 t.toInt.toNat (0 : Int32)) := tkF_c (tkF_c (tkF_c hF (by omega)) (by omega)) (by omega)
          exfalso
          have := hw.2.2.2
          unfold cK at this
          have e0 : (0 : Int32).toInt = 0 := by decide
          omega
        · replace c109 : ¬ ¬ ((xpi (xpi (xpi ω 25 t.toInt.toNat i) 26 t.toInt.toNat (0 : Int32)) 24 t.toInt.toNat (0 : Int32)).1 24 t.toInt.toNat).toInt = 1 := c109
          obtain ⟨rfl, hμ⟩ := tx_return h em48_112
          have hw := tk_w (ω := ω) (ω' := (xpi (xpi (xpi ω 25 t.toInt.toNat i) 26 t.toInt.toNat (0 : Int32)) 24 t.toInt.toNat (0 : Int32))) (p := i) (s := (0 : Int32)) (k := (0 : Int32)) rfl ht0
          have hF3 : tkF μ (xpi (xpi (xpi ω 25 t.toInt.toNat i) 26 t.toInt.toNat (0 : Int32)) 24 t.toInt.toNat (0 : Int32)) := tkF_c (tkF_c (tkF_c hF (by omega)) (by omega)) (by omega)
          exfalso
          have := hw.2.2.2
          unfold cK at this
          have e0 : (0 : Int32).toInt = 0 := by decide
          omega
    · replace c71 : ¬ n.toInt ≤ i.toInt := c71
      exfalso
      omega
  · replace c49 : ¬ n.toInt ≤ i.toInt := c49
    replace h := tx_aload_n (p' := 53) h em48_52 rfl rfl
    replace h := tx_iload_n (p' := 54) h em48_53 rfl rfl
    replace h := tx_iload_n (p' := 55) h em48_54 rfl rfl
    obtain ⟨r55, μ55, hE55, h⟩ := tx_invS (na := 3) (mn := 242) (as := [.inr (.inl (some 1)), .inl n, .inl i]) (rest := [.inl t, .inr (.inl (some 26))]) (p' := 58) h em48_55 ((congrFun xo_8 23).trans rfl) xm_242 rfl rfl
    obtain ⟨sv, rfl, hsv, hm55⟩ := ex_sizeAt hE55 (by omega) (by omega)
    rw [hm55] at h
    have eB1 : kB (xpi ω 25 t.toInt.toNat i) 1 = kB ω 1 := rfl
    rw [eB1, hB] at hsv
    replace h : eT xq_48 _ 58 [some (.inr (.inl (some 23))), some (.inr (.inl (some 1))), some (.inl n), some (.inl i), some (.inl t)] [.inl sv, .inl t, .inr (.inl (some 26))] (xpi ω 25 t.toInt.toNat i) r μ' := h
    replace h := tx_goto (t := 62) h em48_58 (by decide)
    obtain ⟨hb62_1, h⟩ := tx_iast (len := 401) (p' := 63) h em48_62 rfl rfl
    replace hb62_1 : 0 ≤ t.toInt ∧ t.toInt < 401 := hb62_1
    replace h := tx_aload_n (p' := 64) h em48_63 rfl rfl
    replace h := tx_getc (c := 7) (j := 0) (p' := 67) h em48_64 ((congrFun xo_8 9).trans rfl) rfl rfl rfl
    replace h := tx_iload (p' := 69) h em48_67 rfl rfl
    replace h := tx_iload_n (p' := 70) h em48_69 rfl rfl
    replace h := tx_iload_n (p' := 71) h em48_70 rfl rfl
    rcases tx_icmp (t := 89) (p' := 74) h em48_71 (by decide) rfl with ⟨c71_1, h⟩ | ⟨c71_1, h⟩
    · replace c71_1 : n.toInt ≤ i.toInt := c71_1
      exfalso
      omega
    · replace c71_1 : ¬ n.toInt ≤ i.toInt := c71_1
      replace h := tx_aload_n (p' := 75) h em48_74 rfl rfl
      replace h := tx_iload_n (p' := 76) h em48_75 rfl rfl
      replace h := tx_aload_n (p' := 77) h em48_76 rfl rfl
      replace h := tx_getc (c := 7) (j := 2) (p' := 80) h em48_77 ((congrFun xo_8 16).trans rfl) rfl rfl rfl
      replace h := tx_iload (p' := 82) h em48_80 rfl rfl
      obtain ⟨hb82, h⟩ := tx_iald (len := 401) (p' := 83) h em48_82 rfl rfl
      replace hb82 : 0 ≤ t.toInt ∧ t.toInt < 401 := hb82
      obtain ⟨r83, μ83, hE83, h⟩ := tx_invS (na := 3) (mn := 239) (as := [.inr (.inl (some 1)), .inl i, .inl ((xpi (xpi ω 25 t.toInt.toNat i) 26 t.toInt.toNat sv).1 26 t.toInt.toNat)]) (rest := [.inl t, .inr (.inl (some 24))]) (p' := 86) h em48_83 ((congrFun xo_8 27).trans rfl) xm_239 rfl rfl
      obtain ⟨kv, rfl, hkv, hm83⟩ := ex_kindOf hE83 (by omega) (by omega)
      rw [hm83] at h
      have eB2 : kB (xpi (xpi ω 25 t.toInt.toNat i) 26 t.toInt.toNat sv) 1 = kB ω 1 := rfl
      have eS2 : (((xpi (xpi ω 25 t.toInt.toNat i) 26 t.toInt.toNat sv).1 26 t.toInt.toNat)).toInt = sv.toInt := by rw [xpi_at]
      rw [eB2, hB, eS2] at hkv
      replace h : eT xq_48 _ 86 [some (.inr (.inl (some 23))), some (.inr (.inl (some 1))), some (.inl n), some (.inl i), some (.inl t)] [.inl kv, .inl t, .inr (.inl (some 24))] (xpi (xpi ω 25 t.toInt.toNat i) 26 t.toInt.toNat sv) r μ' := h
      replace h := tx_goto (t := 90) h em48_86 (by decide)
      obtain ⟨hb90_1, h⟩ := tx_iast (len := 401) (p' := 91) h em48_90 rfl rfl
      replace hb90_1 : 0 ≤ t.toInt ∧ t.toInt < 401 := hb90_1
      replace h := tx_aload_n (p' := 92) h em48_91 rfl rfl
      replace h := tx_getc (c := 7) (j := 0) (p' := 95) h em48_92 ((congrFun xo_8 9).trans rfl) rfl rfl rfl
      replace h := tx_iload (p' := 97) h em48_95 rfl rfl
      obtain ⟨hb97_1, h⟩ := tx_iald (len := 401) (p' := 98) h em48_97 rfl rfl
      replace hb97_1 : 0 ≤ t.toInt ∧ t.toInt < 401 := hb97_1
      rcases tx_if (t := 112) (p' := 101) h em48_98 (by decide) rfl with ⟨c98_1, h⟩ | ⟨c98_1, h⟩
      · replace c98_1 : ((xpi (xpi (xpi ω 25 t.toInt.toNat i) 26 t.toInt.toNat sv) 24 t.toInt.toNat kv).1 24 t.toInt.toNat).toInt = 0 := c98_1
        obtain ⟨rfl, hμ⟩ := tx_return h em48_112
        have hk0 : ¬ kv.toInt = 0 := tkKd_0 hkv
        have hw := tk_w (ω := ω) (ω' := (xpi (xpi (xpi ω 25 t.toInt.toNat i) 26 t.toInt.toNat sv) 24 t.toInt.toNat kv)) (p := i) (s := sv) (k := kv) rfl ht0
        have hF3 : tkF μ (xpi (xpi (xpi ω 25 t.toInt.toNat i) 26 t.toInt.toNat sv) 24 t.toInt.toNat kv) := tkF_c (tkF_c (tkF_c hF (by omega)) (by omega)) (by omega)
        exfalso
        apply hk0
        have := hw.2.2.2
        unfold cK at this
        omega
      · replace c98_1 : ¬ ((xpi (xpi (xpi ω 25 t.toInt.toNat i) 26 t.toInt.toNat sv) 24 t.toInt.toNat kv).1 24 t.toInt.toNat).toInt = 0 := c98_1
        replace h := tx_aload_n (p' := 102) h em48_101 rfl rfl
        replace h := tx_getc (c := 7) (j := 0) (p' := 105) h em48_102 ((congrFun xo_8 9).trans rfl) rfl rfl rfl
        replace h := tx_iload (p' := 107) h em48_105 rfl rfl
        obtain ⟨hb107_1, h⟩ := tx_iald (len := 401) (p' := 108) h em48_107 rfl rfl
        replace hb107_1 : 0 ≤ t.toInt ∧ t.toInt < 401 := hb107_1
        replace h := tx_iconst (v := 1) (p' := 109) h em48_108 (by decide +kernel) rfl
        rcases tx_icmp (t := 113) (p' := 112) h em48_109 (by decide) rfl with ⟨c109_1, h⟩ | ⟨c109_1, h⟩
        · replace c109_1 : ¬ ((xpi (xpi (xpi ω 25 t.toInt.toNat i) 26 t.toInt.toNat sv) 24 t.toInt.toNat kv).1 24 t.toInt.toNat).toInt = 1 := c109_1
          replace h := tx_iload_n (p' := 114) h em48_113 rfl rfl
          replace h := tx_aload_n (p' := 115) h em48_114 rfl rfl
          replace h := tx_getc (c := 7) (j := 2) (p' := 118) h em48_115 ((congrFun xo_8 16).trans rfl) rfl rfl rfl
          replace h := tx_iload (p' := 120) h em48_118 rfl rfl
          obtain ⟨hb120_1, h⟩ := tx_iald (len := 401) (p' := 121) h em48_120 rfl rfl
          replace hb120_1 : 0 ≤ t.toInt ∧ t.toInt < 401 := hb120_1
          replace h := tx_iadd (p' := 122) h em48_121 rfl
          replace h := tx_istore_n (p' := 123) h em48_122 rfl
          replace h : eT xq_48 _ 123 [some (.inr (.inl (some 23))), some (.inr (.inl (some 1))), some (.inl n), some (.inl (i + ((xpi (xpi (xpi ω 25 t.toInt.toNat i) 26 t.toInt.toNat sv) 24 t.toInt.toNat kv).1 26 t.toInt.toNat))), some (.inl t)] [] (xpi (xpi (xpi ω 25 t.toInt.toNat i) 26 t.toInt.toNat sv) 24 t.toInt.toNat kv) r μ' := h
          replace h := tx_iinc (v := 1) (p' := 126) h em48_123 (by decide +kernel) rfl rfl
          replace h : eT xq_48 _ 126 [some (.inr (.inl (some 23))), some (.inr (.inl (some 1))), some (.inl n), some (.inl (i + ((xpi (xpi (xpi ω 25 t.toInt.toNat i) 26 t.toInt.toNat sv) 24 t.toInt.toNat kv).1 26 t.toInt.toNat))), some (.inl (t + 1))] [] (xpi (xpi (xpi ω 25 t.toInt.toNat i) 26 t.toInt.toNat sv) 24 t.toInt.toNat kv) r μ' := h
          obtain ⟨n2, hn2, h⟩ := tx_gotoS (t := 5) h em48_126 (by decide)
          have hk0 : ¬ kv.toInt = 0 := tkKd_0 hkv
          have hw := tk_w (ω := ω) (ω' := (xpi (xpi (xpi ω 25 t.toInt.toNat i) 26 t.toInt.toNat sv) 24 t.toInt.toNat kv)) (p := i) (s := sv) (k := kv) rfl ht0
          have hF3 : tkF μ (xpi (xpi (xpi ω 25 t.toInt.toNat i) 26 t.toInt.toNat sv) 24 t.toInt.toNat kv) := tkF_c (tkF_c (tkF_c hF (by omega)) (by omega)) (by omega)
          have hk1 : 2 ≤ kv.toInt := by have := hw.2.2.2; have := tkKd_p hkv; unfold cK at *; omega
          have hs1 := hsv.1
          have hes : cS (xpi (xpi (xpi ω 25 t.toInt.toNat i) 26 t.toInt.toNat sv) 24 t.toInt.toNat kv) t.toInt = sv.toInt := hw.2.2.1
          have hnew := tkIn_s hI hsk (by omega) hsv hkv hk0 hw.1 ⟨hw.2.1, hw.2.2.1, hw.2.2.2⟩
          have hat : (i + (xpi (xpi (xpi ω 25 t.toInt.toNat i) 26 t.toInt.toNat sv) 24 t.toInt.toNat kv).1 26 t.toInt.toNat).toInt = i.toInt + sv.toInt := by unfold cS at hes; rw [an_add (by rw [hes]; omega) (by rw [hes]; omega), hes]
          have ht1 : (t + 1).toInt = t.toInt + 1 := by rw [an_add (by rw [e1i]; omega) (by rw [e1i]; omega), e1i]
          refine ih n2 hn2 _ _ _ h hF3 (by omega) (by omega) (by rw [hat, ht1]; exact hnew) (fun a a0 a1 => ?_)
          by_cases q : a = t.toInt
          · rw [q, hw.2.2.2]; exact hk1
          · rw [(hw.1 a a0 (by omega)).2.2]; exact h2 a a0 (by omega)
        · replace c109_1 : ¬ ¬ ((xpi (xpi (xpi ω 25 t.toInt.toNat i) 26 t.toInt.toNat sv) 24 t.toInt.toNat kv).1 24 t.toInt.toNat).toInt = 1 := c109_1
          obtain ⟨rfl, hμ⟩ := tx_return h em48_112
          have hk0 : ¬ kv.toInt = 0 := tkKd_0 hkv
          have hw := tk_w (ω := ω) (ω' := (xpi (xpi (xpi ω 25 t.toInt.toNat i) 26 t.toInt.toNat sv) 24 t.toInt.toNat kv)) (p := i) (s := sv) (k := kv) rfl ht0
          have hF3 : tkF μ (xpi (xpi (xpi ω 25 t.toInt.toNat i) 26 t.toInt.toNat sv) 24 t.toInt.toNat kv) := tkF_c (tkF_c (tkF_c hF (by omega)) (by omega)) (by omega)
          rw [hμ]
          have hk1 : kv.toInt = 1 := by have := hw.2.2.2; unfold cK at this; omega
          refine ⟨rfl, hF3, t.toInt, tkIn_l (tkIn_s hI hsk (by omega) hsv hkv hk0 hw.1 ⟨hw.2.1, hw.2.2.1, hw.2.2.2⟩) ⟨ht0, by omega⟩, fun a a0 a1 => ?_, fun _ => by rw [hw.2.2.2]; omega⟩
          rw [(hw.1 a a0 a1).2.2]
          exact h2 a a0 a1
set_option maxRecDepth 10000 in
set_option maxHeartbeats 4000000 in
theorem scan_13 {n t : Int32} {μ ω μ' : xM} {r : Option zV} {e : Int} (hn0 : 0 ≤ n.toInt) (hn1 : n.toInt ≤ 2000) (hF : tkF μ ω) (ht0 : 0 ≤ t.toInt) (ht4 : t.toInt ≤ 400) (hI : tkIn (kB μ 1) n.toInt (cP ω) (cS ω) (cK ω) t.toInt e) (h2 : ∀ a, 0 ≤ a → a < t.toInt → 2 ≤ cK ω a) : ∀ (m : Nat) (i : Int32), (∀ m2, m2 < m → ∀ (i t : Int32) (ω : xM), eT xq_48 m2 5 [some (.inr (.inl (some 23))), some (.inr (.inl (some 1))), some (.inl n), some (.inl i), some (.inl t)] [] ω r μ' → tkF μ ω → 0 ≤ t.toInt → t.toInt ≤ 401 → tkIn (kB μ 1) n.toInt (cP ω) (cS ω) (cK ω) t.toInt i.toInt → (∀ a, 0 ≤ a → a < t.toInt → 2 ≤ cK ω a) → tkQ μ n.toInt r μ') → eT xq_48 m 13 [some (.inr (.inl (some 23))), some (.inr (.inl (some 1))), some (.inl n), some (.inl i), some (.inl t)] [] ω r μ' → e ≤ i.toInt → i.toInt ≤ n.toInt → (∀ k, e ≤ k → k < i.toInt → tkBl (kB μ 1 k)) → tkQ μ n.toInt r μ' := by
  have e1i : (1 : Int32).toInt = 1 := by decide
  have hB := tkF_B hF
  intro m
  induction m using Nat.strongRecOn with
  | ind m jh =>
  intro i ih h hei hin' hbl
  replace h := tx_iload_n (p' := 14) h em48_13 rfl rfl
  replace h := tx_iload_n (p' := 15) h em48_14 rfl rfl
  rcases tx_icmp (t := 33) (p' := 18) h em48_15 (by decide) rfl with ⟨c15, h⟩ | ⟨c15, h⟩
  · replace c15 : n.toInt ≤ i.toInt := c15
    exact scan_33 hn0 hn1 ih h hF ht0 ht4 hI ⟨⟨by omega, by omega⟩, hbl, by rw [← hB]; exact fun q => by omega⟩ h2 (by have := hI.2.2.2.2.2.1; omega)
  · replace c15 : ¬ n.toInt ≤ i.toInt := c15
    replace h := tx_aload_n (p' := 19) h em48_18 rfl rfl
    replace h := tx_iload_n (p' := 20) h em48_19 rfl rfl
    obtain ⟨hb20, h⟩ := tx_bald (len := 2000) (p' := 21) h em48_20 rfl rfl
    replace hb20 : 0 ≤ i.toInt ∧ i.toInt < 2000 := hb20
    obtain ⟨r21, μ21, hE21, h⟩ := tx_invS (na := 1) (mn := 208) (as := [.inl (ω.1 1 i.toInt.toNat)]) (rest := []) (p' := 24) h em48_21 ((congrFun xo_8 19).trans rfl) xm_208 rfl rfl
    rcases ex_isBlank hE21 with ⟨rfl, b21, hm⟩ | ⟨rfl, b21, hm⟩
    · rw [hm] at h
      replace h : eT xq_48 _ 24 [some (.inr (.inl (some 23))), some (.inr (.inl (some 1))), some (.inl n), some (.inl i), some (.inl t)] [.inl (1 : Int32)] ω r μ' := h
      rcases tx_if (t := 33) (p' := 27) h em48_24 (by decide) rfl with ⟨c24, h⟩ | ⟨c24, h⟩
      · replace c24 : (1 : Int) = (0 : Int) := c24
        exfalso
        omega
      · replace c24 : ¬ (1 : Int) = (0 : Int) := c24
        replace h := tx_iinc (v := 1) (p' := 30) h em48_27 (by decide +kernel) rfl rfl
        replace h : eT xq_48 _ 30 [some (.inr (.inl (some 23))), some (.inr (.inl (some 1))), some (.inl n), some (.inl (i + 1)), some (.inl t)] [] ω r μ' := h
        obtain ⟨n2, hn2, h⟩ := tx_gotoS (t := 13) h em48_30 (by decide)
        have hi1 : (i + 1).toInt = i.toInt + 1 := by rw [an_add (by rw [e1i]; have := hI.2.2.2.2.2.1; omega) (by rw [e1i]; omega), e1i]
        refine jh n2 hn2 _ (fun m2 h2 => ih m2 (by omega)) h (by rw [hi1]; omega) (by rw [hi1]; omega) (fun k k0 k1 => ?_)
        by_cases q : k = i.toInt
        · rw [q, ← hB]; exact b21
        · exact hbl k k0 (by rw [hi1] at k1; omega)
    · rw [hm] at h
      replace h : eT xq_48 _ 24 [some (.inr (.inl (some 23))), some (.inr (.inl (some 1))), some (.inl n), some (.inl i), some (.inl t)] [.inl (0 : Int32)] ω r μ' := h
      rcases tx_if (t := 33) (p' := 27) h em48_24 (by decide) rfl with ⟨c24_1, h⟩ | ⟨c24_1, h⟩
      · replace c24_1 : (0 : Int) = (0 : Int) := c24_1
        exact scan_33 hn0 hn1 ih h hF ht0 ht4 hI ⟨⟨by omega, by omega⟩, hbl, by rw [← hB]; exact fun q => b21⟩ h2 (by have := hI.2.2.2.2.2.1; omega)
      · replace c24_1 : ¬ (0 : Int) = (0 : Int) := c24_1
        exfalso
        omega
set_option maxRecDepth 10000 in
set_option maxHeartbeats 4000000 in
theorem scan_5 {n : Int32} {μ μ' : xM} {r : Option zV} (hn0 : 0 ≤ n.toInt) (hn1 : n.toInt ≤ 2000) : ∀ (m : Nat), ∀ (i t : Int32) (ω : xM), eT xq_48 m 5 [some (.inr (.inl (some 23))), some (.inr (.inl (some 1))), some (.inl n), some (.inl i), some (.inl t)] [] ω r μ' → tkF μ ω → 0 ≤ t.toInt → t.toInt ≤ 401 → tkIn (kB μ 1) n.toInt (cP ω) (cS ω) (cK ω) t.toInt i.toInt → (∀ a, 0 ≤ a → a < t.toInt → 2 ≤ cK ω a) → tkQ μ n.toInt r μ' := by
  intro m
  induction m using Nat.strongRecOn with
  | ind m ih =>
  intro i t ω h hF ht0 ht1 hI h2
  replace h := tx_iload (p' := 7) h em48_5 rfl rfl
  replace h := tx_sipush (v := 400) (p' := 10) h em48_7 (by decide +kernel) rfl
  rcases tx_icmp (t := 129) (p' := 13) h em48_10 (by decide) rfl with ⟨c10, h⟩ | ⟨c10, h⟩
  · replace c10 : 400 < t.toInt := c10
    obtain ⟨rfl, hμ⟩ := tx_return h em48_129
    rw [hμ]
    have ht : t.toInt = 400 + 1 := by omega
    rw [ht] at hI
    exact ⟨rfl, hF, 400, tkIn_l hI ⟨by omega, by omega⟩, fun a a0 a1 => h2 a a0 (by omega), fun q => by omega⟩
  · replace c10 : ¬ 400 < t.toInt := c10
    exact scan_13 hn0 hn1 hF ht0 (by omega) hI h2 _ _ ih h (Int.le_refl _) hI.2.2.2.2.2.2 (fun k k0 k1 => by omega)
set_option maxRecDepth 10000 in
set_option maxHeartbeats 4000000 in
theorem ex_scan {n : Int32} {μ μ' : xM} {r : Option zV} (h0 : Ex gx xq_48 [.inr (.inl (some 23)), .inr (.inl (some 1)), .inl n] μ r μ') (hn0 : 0 ≤ n.toInt) (hn1 : n.toInt ≤ 2000) : tkQ μ n.toInt r μ' := by
  obtain ⟨n9, h⟩ := tx_in (L := [some (.inr (.inl (some 23))), some (.inr (.inl (some 1))), some (.inl n), none, none]) h0 rfl
  replace h := tx_iconst (v := 0) (p' := 1) h em48_0 (by decide +kernel) rfl
  replace h := tx_istore_n (p' := 2) h em48_1 rfl
  replace h : eT xq_48 _ 2 [some (.inr (.inl (some 23))), some (.inr (.inl (some 1))), some (.inl n), some (.inl (0 : Int32)), none] [] μ r μ' := h
  replace h := tx_iconst (v := 0) (p' := 3) h em48_2 (by decide +kernel) rfl
  replace h := tx_istore (p' := 5) h em48_3 rfl
  replace h : eT xq_48 _ 5 [some (.inr (.inl (some 23))), some (.inr (.inl (some 1))), some (.inl n), some (.inl (0 : Int32)), some (.inl (0 : Int32))] [] μ r μ' := h
  exact scan_5 hn0 hn1 _ _ _ _ h ⟨fun _ _ _ _ _ => rfl, rfl⟩ (by decide) (by decide) (tkIn_0 hn0) (fun a a0 a1 => by have a1 : a < 0 := a1; omega)
