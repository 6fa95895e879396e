/-! ===== THE REFERENCE'S TOKENS ===== -/
theorem an_255 (x : Int32) : (x &&& 255).toInt = x.toInt % 256 := by
  have h1 : (x &&& 255).toBitVec.toNat = x.toBitVec.toNat % 256 := by
    rw [Int32.toBitVec_and, BitVec.toNat_and]
    show x.toBitVec.toNat &&& 255 = x.toBitVec.toNat % 256
    exact Nat.and_two_pow_sub_one_eq_mod _ 8
  have h2 : (x &&& 255).toInt = ((x &&& 255).toBitVec.toNat : Int) := an_ofnat (by omega)
  have h3 : x.toInt = if 2 * x.toBitVec.toNat < 2 ^ 32 then (x.toBitVec.toNat : Int) else (x.toBitVec.toNat : Int) - ((2 ^ 32 : Nat) : Int) := BitVec.toInt_eq_toNat_cond x.toBitVec
  have h4 : ((2 ^ 32 : Nat) : Int) = 4294967296 := by decide
  rw [h2, h1, h3, h4]
  split <;> omega
/-- the bytes, as the reference takes them -/
def rBy (B : Int → Int) (n i : Int) : Int := if i < n then B i % 256 else 0
def rBR (B : Int → Int) (n : Int) : Prop := ∀ i, 0 ≤ i → i < n → -128 ≤ B i ∧ B i ≤ 127
theorem rBy_lo {B : Int → Int} {n i : Int} (h : rBR B n) (h0 : 0 ≤ i) : tkLo (rBy B n i) ↔ (i < n ∧ tkLo (B i)) := by
  unfold rBy tkLo
  split
  · have := h i h0 (by omega)
    omega
  · omega
theorem rBy_di {B : Int → Int} {n i : Int} (h : rBR B n) (h0 : 0 ≤ i) : tkDi (rBy B n i) ↔ (i < n ∧ tkDi (B i)) := by
  unfold rBy tkDi
  split
  · have := h i h0 (by omega)
    omega
  · omega
theorem rBy_bl {B : Int → Int} {n i : Int} (h : rBR B n) (h0 : 0 ≤ i) (h1 : i < n) : tkBl (rBy B n i) ↔ tkBl (B i) := by
  have := h i h0 h1
  unfold rBy tkBl
  rw [if_pos h1]
  omega
theorem rBy_sg {B : Int → Int} {n i : Int} (h : rBR B n) (h0 : 0 ≤ i) (h1 : i < n) : (tkSg (rBy B n i) ↔ tkSg (B i)) ∧ (tkSg (B i) → rBy B n i = B i) := by
  have := h i h0 h1
  unfold rBy tkSg
  rw [if_pos h1]
  omega
theorem rBy_v {B : Int → Int} {n i : Int} (h1 : i < n) (h : 0 ≤ B i ∧ B i ≤ 127) : rBy B n i = B i := by
  unfold rBy
  rw [if_pos h1]
  omega
def rN (μ : xM) : Int := (μ.1 75 18).toInt
/-- letters' numbers, the last one first -/
def tkEs (B : Int → Int) (i : Int) : Nat → List Int
  | 0 => []
  | k + 1 => (B (i + k) - 96) :: tkEs B i k
theorem tkEs_len {B : Int → Int} {i : Int} : ∀ {s : Nat}, (tkEs B i s).length = s
  | 0 => rfl
  | s + 1 => by show (tkEs B i s).length + 1 = s + 1; rw [tkEs_len]
theorem tkEs_d {B : Int → Int} {i : Int} : ∀ {s : Nat}, (∀ k : Nat, k < s → tkLo (B (i + k))) → ∀ d, d ∈ tkEs B i s → 1 ≤ d ∧ d ≤ 26
  | 0, _, d, hd => by cases hd
  | s + 1, h, d, hd => by
    rcases List.mem_cons.mp hd with rfl | hd
    · have := h s (by omega)
      unfold tkLo at this
      omega
    · exact tkEs_d (fun k hk => h k (by omega)) d hd
theorem tkEs_eq {B C : Int → Int} {i j : Int} : ∀ {s t : Nat}, tkEs B i s = tkEs C j t → s = t ∧ ∀ k : Nat, k < s → B (i + k) = C (j + k)
  | 0, 0, _ => ⟨rfl, fun k hk => by omega⟩
  | 0, t + 1, h => by cases h
  | s + 1, 0, h => by cases h
  | s + 1, t + 1, h => by
    have h1 : B (i + s) - 96 = C (j + t) - 96 ∧ tkEs B i s = tkEs C j t := ⟨(List.cons.inj h).1, (List.cons.inj h).2⟩
    obtain ⟨e, h2⟩ := tkEs_eq h1.2
    subst e
    refine ⟨rfl, fun k hk => ?_⟩
    by_cases q : k = s
    · subst q; omega
    · exact h2 k (by omega)
theorem tkEs_cg {B C : Int → Int} {i j : Int} : ∀ {s : Nat}, (∀ k : Nat, k < s → B (i + k) = C (j + k)) → tkEs B i s = tkEs C j s
  | 0, _ => rfl
  | s + 1, h => by
    show (B (i + s) - 96) :: tkEs B i s = (C (j + s) - 96) :: tkEs C j s
    rw [h s (by omega), tkEs_cg (fun k hk => h k (by omega))]
/-- digits' number -/
def dgv (B : Int → Int) (i : Int) : Nat → Int
  | 0 => 0
  | k + 1 => dgv B i k * 10 + (B (i + k) - 48)
theorem dgv_b {B : Int → Int} {i : Int} : ∀ {k : Nat}, (∀ j : Nat, j < k → tkDi (B (i + j))) → 0 ≤ dgv B i k ∧ dgv B i k < 10 ^ k
  | 0, _ => by unfold dgv; omega
  | k + 1, h => by
    have h1 := dgv_b (k := k) (fun j hj => h j (by omega))
    have h2 := h k (by omega)
    unfold tkDi at h2
    unfold dgv
    rw [Int.pow_succ]
    omega
def wB (i : Int) : Int := tkW i.toNat
def wLen (w : Nat) : Nat := (List.range 8).countP (fun k => tkW (8 * w + k) != 32)
/-- the words' numbers -/
def wKey (w : Nat) : Int := qzR (tkEs wB (8 * w) (wLen w))
set_option maxRecDepth 100000 in
theorem wLen_8 : ∀ w, w < 21 → wLen w ≤ 8 := by decide +kernel
set_option maxRecDepth 100000 in
theorem wLen_k : ∀ w, w < 21 → ∀ k, k < 8 → (k < wLen w → 97 ≤ tkW (8 * w + k) ∧ tkW (8 * w + k) ≤ 122) ∧ (¬ k < wLen w → tkW (8 * w + k) = 32) := by decide +kernel
theorem wB_at {w k : Nat} : wB ((8 * w : Nat) + (k : Nat)) = tkW (8 * w + k) := by unfold wB; rw [show (((8 * w : Nat) : Int) + (k : Nat)).toNat = 8 * w + k by omega]
theorem word_iff {B : Int → Int} {i : Int} {s w : Nat} (hw : w < 21) (hs : s ≤ 8) (hB : ∀ k : Nat, k < s → tkLo (B (i + k))) : qzR (tkEs B i s) = wKey w ↔ tkWd B i s w := by
  have h8 := wLen_8 w hw
  have hk := wLen_k w hw
  constructor
  · intro h
    have e := qzR_inj (tkEs_d hB) (tkEs_d (B := wB) (i := (8 * w : Nat)) (s := wLen w) (fun k hk2 => by rw [wB_at]; exact (hk k (by omega)).1 hk2)) h
    obtain ⟨e1, e2⟩ := tkEs_eq e
    intro k h3
    by_cases q : k < s
    · rw [if_pos (by omega), e2 k q, wB_at]
    · rw [if_neg (by omega), (hk k h3).2 (by omega)]
  · intro h
    have e1 : s = wLen w := by
      rcases Nat.lt_trichotomy s (wLen w) with q | q | q
      · have h1 := h s (by omega)
        rw [if_neg (by omega)] at h1
        have := (hk s (by omega)).1 q
        omega
      · exact q
      · have h1 := h (wLen w) (by omega)
        rw [if_pos (by omega), (hk (wLen w) (by omega)).2 (by omega)] at h1
        have := hB (wLen w) q
        unfold tkLo at this
        omega
    unfold wKey
    rw [← e1]
    congr 1
    refine tkEs_cg (fun k h2 => ?_)
    have h1 := h k (by omega)
    rw [if_pos (by omega)] at h1
    rw [show 8 * (w : Int) + (k : Int) = ((8 * w : Nat) : Int) + (k : Nat) by omega, wB_at]
    exact h1
abbrev xq_211 : xP := (⟨"CapitalCaseModel", "byteAt", "(I)I"⟩, prog_14_method_6_code, 2, (some .int))
abbrev xq_217 : xP := (⟨"CapitalCaseModel", "appends", "(JI)J"⟩, prog_14_method_9_code, 3, (some .long))
abbrev xq_215 : xP := (⟨"CapitalCaseModel", "token", "(IIIJ)V"⟩, prog_14_method_11_code, 6, none)
abbrev xq_216 : xP := (⟨"CapitalCaseModel", "sign", "(III)I"⟩, prog_14_method_13_code, 5, (some .int))
abbrev xq_214 : xP := (⟨"CapitalCaseModel", "cut", "()V"⟩, prog_14_method_12_code, 8, none)
abbrev xq_213 : xP := (⟨"CapitalCaseModel", "isLetter", "(I)Z"⟩, prog_14_method_8_code, 1, (some .boolean))
abbrev xq_212 : xP := (⟨"CapitalCaseModel", "isDigit", "(I)Z"⟩, prog_14_method_7_code, 1, (some .boolean))
set_option maxRecDepth 10000 in
set_option maxHeartbeats 4000000 in
theorem ex_isLetter {x : Int32} {μ μ' : xM} {r : Option zV} (h0 : Ex gx xq_213 [.inl x] μ r μ') : (r = some (.inl 1) ∧ tkLo x.toInt ∧ μ' = μ) ∨ (r = some (.inl 0) ∧ ¬ tkLo x.toInt ∧ μ' = μ) := by
  obtain ⟨n, h⟩ := tx_in (L := [some (.inl x)]) h0 rfl
  replace h := tx_iload_n (p' := 1) h em213_0 rfl rfl
  replace h := tx_bipush (v := 97) (p' := 3) h em213_1 (by decide +kernel) rfl
  rcases tx_icmp (t := 16) (p' := 6) h em213_3 (by decide) rfl with ⟨c3, h⟩ | ⟨c3, h⟩
  · replace c3 : x.toInt < 97 := c3
    replace h := tx_iconst (v := 0) (p' := 17) h em213_16 (by decide +kernel) rfl
    obtain ⟨rfl, hμ⟩ := tx_ireturn h em213_17
    subst hμ
    exact Or.inr ⟨rfl, by unfold tkLo; omega, rfl⟩
  · replace c3 : ¬ x.toInt < 97 := c3
    replace h := tx_iload_n (p' := 7) h em213_6 rfl rfl
    replace h := tx_bipush (v := 122) (p' := 9) h em213_7 (by decide +kernel) rfl
    rcases tx_icmp (t := 16) (p' := 12) h em213_9 (by decide) rfl with ⟨c9, h⟩ | ⟨c9, h⟩
    · replace c9 : 122 < x.toInt := c9
      replace h := tx_iconst (v := 0) (p' := 17) h em213_16 (by decide +kernel) rfl
      obtain ⟨rfl, hμ⟩ := tx_ireturn h em213_17
      subst hμ
      exact Or.inr ⟨rfl, by unfold tkLo; omega, rfl⟩
    · replace c9 : ¬ 122 < x.toInt := c9
      replace h := tx_iconst (v := 1) (p' := 13) h em213_12 (by decide +kernel) rfl
      replace h := tx_goto (t := 17) h em213_13 (by decide)
      obtain ⟨rfl, hμ⟩ := tx_ireturn h em213_17
      subst hμ
      exact Or.inl ⟨rfl, by unfold tkLo; omega, rfl⟩
set_option maxRecDepth 10000 in
set_option maxHeartbeats 4000000 in
theorem ex_risDigit {x : Int32} {μ μ' : xM} {r : Option zV} (h0 : Ex gx xq_212 [.inl x] μ r μ') : (r = some (.inl 1) ∧ tkDi x.toInt ∧ μ' = μ) ∨ (r = some (.inl 0) ∧ ¬ tkDi x.toInt ∧ μ' = μ) := by
  obtain ⟨n, h⟩ := tx_in (L := [some (.inl x)]) h0 rfl
  replace h := tx_iload_n (p' := 1) h em212_0 rfl rfl
  replace h := tx_bipush (v := 48) (p' := 3) h em212_1 (by decide +kernel) rfl
  rcases tx_icmp (t := 16) (p' := 6) h em212_3 (by decide) rfl with ⟨c3, h⟩ | ⟨c3, h⟩
  · replace c3 : x.toInt < 48 := c3
    replace h := tx_iconst (v := 0) (p' := 17) h em212_16 (by decide +kernel) rfl
    obtain ⟨rfl, hμ⟩ := tx_ireturn h em212_17
    subst hμ
    exact Or.inr ⟨rfl, by unfold tkDi; omega, rfl⟩
  · replace c3 : ¬ x.toInt < 48 := c3
    replace h := tx_iload_n (p' := 7) h em212_6 rfl rfl
    replace h := tx_bipush (v := 57) (p' := 9) h em212_7 (by decide +kernel) rfl
    rcases tx_icmp (t := 16) (p' := 12) h em212_9 (by decide) rfl with ⟨c9, h⟩ | ⟨c9, h⟩
    · replace c9 : 57 < x.toInt := c9
      replace h := tx_iconst (v := 0) (p' := 17) h em212_16 (by decide +kernel) rfl
      obtain ⟨rfl, hμ⟩ := tx_ireturn h em212_17
      subst hμ
      exact Or.inr ⟨rfl, by unfold tkDi; omega, rfl⟩
    · replace c9 : ¬ 57 < x.toInt := c9
      replace h := tx_iconst (v := 1) (p' := 13) h em212_12 (by decide +kernel) rfl
      replace h := tx_goto (t := 17) h em212_13 (by decide)
      obtain ⟨rfl, hμ⟩ := tx_ireturn h em212_17
      subst hμ
      exact Or.inl ⟨rfl, by unfold tkDi; omega, rfl⟩
set_option maxRecDepth 10000 in
set_option maxHeartbeats 4000000 in
theorem ex_byteAt {i : Int32} {μ μ' : xM} {r : Option zV} (h0 : Ex gx xq_211 [.inr (.inl (some 75)), .inl i] μ r μ') : ∃ x : Int32, r = some (.inl x) ∧ x.toInt = rBy (kB μ 77) (rN μ) i.toInt ∧ μ' = μ := by
  obtain ⟨n, h⟩ := tx_in (L := [some (.inr (.inl (some 75))), some (.inl i)]) h0 rfl
  replace h := tx_iload_n (p' := 1) h em211_0 rfl rfl
  replace h := tx_aload_n (p' := 2) h em211_1 rfl rfl
  replace h := tx_getf (c := 12) (j := 18) (p' := 5) h em211_2 ((congrFun xo_12 169).trans rfl) rfl rfl (by decide) rfl
  rcases tx_icmp (t := 21) (p' := 8) h em211_5 (by decide) rfl with ⟨c5, h⟩ | ⟨c5, h⟩
  · replace c5 : (μ.1 75 18).toInt ≤ i.toInt := c5
    replace h := tx_iconst (v := 0) (p' := 22) h em211_21 (by decide +kernel) rfl
    obtain ⟨rfl, hμ⟩ := tx_ireturn h em211_22
    refine ⟨_, rfl, ?_, hμ⟩
    unfold rBy rN
    rw [if_neg (by omega)]
    rfl
  · replace c5 : ¬ (μ.1 75 18).toInt ≤ i.toInt := c5
    replace h := tx_aload_n (p' := 9) h em211_8 rfl rfl
    replace h := tx_getc (c := 12) (j := 17) (p' := 12) h em211_9 ((congrFun xo_12 17).trans rfl) rfl rfl rfl
    replace h := tx_iload_n (p' := 13) h em211_12 rfl rfl
    obtain ⟨hb13, h⟩ := tx_bald (len := 2000) (p' := 14) h em211_13 rfl rfl
    replace hb13 : 0 ≤ i.toInt ∧ i.toInt < 2000 := hb13
    replace h := tx_sipush (v := 255) (p' := 17) h em211_14 (by decide +kernel) rfl
    replace h := tx_iand (p' := 18) h em211_17 rfl
    replace h := tx_goto (t := 22) h em211_18 (by decide)
    obtain ⟨rfl, hμ⟩ := tx_ireturn h em211_22
    refine ⟨_, rfl, ?_, hμ⟩
    unfold rBy rN
    rw [if_pos (by omega), an_255]
    rfl
set_option maxRecDepth 10000 in
set_option maxHeartbeats 4000000 in
theorem ex_appends {v : Int64} {c : Int32} {μ μ' : xM} {r : Option zV} (h0 : Ex gx xq_217 [.inr (.inr v), .inl c] μ r μ') (hc : tkLo c.toInt) (hv0 : 0 ≤ v.toInt) (hv1 : v.toInt ≤ 10460353203) : ∃ y : Int64, r = some (.inr (.inr y)) ∧ y.toInt = 27 * v.toInt + (c.toInt - 96) ∧ μ' = μ := by
  obtain ⟨n, h⟩ := tx_in (L := [some (.inr (.inr v)), none, some (.inl c)]) h0 rfl
  unfold tkLo at hc
  replace h := tx_iload_n (p' := 1) h em217_0 rfl rfl
  rcases tx_if (t := 8) (p' := 4) h em217_1 (by decide) rfl with ⟨c1, h⟩ | ⟨c1, h⟩
  · replace c1 : ¬ c.toInt = 0 := c1
    replace h := tx_ldc2 (v := 27) (p' := 11) h em217_8 ((congrFun xo_12 172).trans (by decide +kernel)) rfl
    replace h := tx_lload_n (p' := 12) h em217_11 rfl rfl
    replace h := tx_lmul (p' := 13) h em217_12 rfl
    replace h := tx_iload_n (p' := 14) h em217_13 rfl rfl
    replace h := tx_bipush (v := 97) (p' := 16) h em217_14 (by decide +kernel) rfl
    replace h := tx_isub (p' := 17) h em217_16 rfl
    replace h := tx_iconst (v := 1) (p' := 18) h em217_17 (by decide +kernel) rfl
    replace h := tx_iadd (p' := 19) h em217_18 rfl
    replace h := tx_i2l (p' := 20) h em217_19 rfl
    replace h := tx_ladd (p' := 21) h em217_20 rfl
    obtain ⟨rfl, hμ⟩ := tx_lreturn h em217_21
    have e97 : (97 : Int32).toInt = 97 := by decide
    have e1i : (1 : Int32).toInt = 1 := by decide
    have h2 : (c - (97 : Int32)).toInt = c.toInt - 97 := by rw [an_sub (by rw [e97]; omega) (by rw [e97]; omega), e97]
    have h3 : ((c - (97 : Int32)) + (1 : Int32)).toInt = c.toInt - 96 := by rw [an_add (by rw [h2, e1i]; omega) (by rw [h2, e1i]; omega), h2, e1i]; omega
    have h4 := al_mul (x := v) hv0 (by omega)
    refine ⟨_, rfl, ?_, hμ⟩
    rw [al_add (by rw [h4, al_i2l, h3]; omega) (by rw [h4, al_i2l, h3]; omega), h4, al_i2l, h3]
  · replace c1 : ¬ ¬ c.toInt = 0 := c1
    replace h := tx_lload_n (p' := 5) h em217_4 rfl rfl
    replace h := tx_goto (t := 21) h em217_5 (by decide)
    obtain ⟨rfl, hμ⟩ := tx_lreturn h em217_21
    exfalso
    omega
/-- a token more -/
def tokM (μ : xM) (k p v : Int32) (nm : Int64) : xM := xpi (xpl (xpi (xpi (xpi μ 78 (μ.1 75 24).toInt.toNat k) 79 (μ.1 75 24).toInt.toNat p) 80 (μ.1 75 24).toInt.toNat v) 81 (μ.1 75 24).toInt.toNat nm) 75 24 (μ.1 75 24 + 1)
def rkF (μ ν : xM) : Prop := (∀ k j, k ≠ 75 → k ≠ 78 → k ≠ 79 → k ≠ 80 → ν.1 k j = μ.1 k j) ∧ (∀ j, j ≠ 24 → ν.1 75 j = μ.1 75 j) ∧ (∀ k j, k ≠ 81 → ν.2.1 k j = μ.2.1 k j) ∧ ν.2.2 = μ.2.2
theorem rkF_tr {μ ν ω : xM} (h1 : rkF μ ν) (h2 : rkF ν ω) : rkF μ ω := ⟨fun k j a b c d => (h2.1 k j a b c d).trans (h1.1 k j a b c d), fun j a => (h2.2.1 j a).trans (h1.2.1 j a), fun k j a => (h2.2.2.1 k j a).trans (h1.2.2.1 k j a), h2.2.2.2.trans h1.2.2.2⟩
theorem rkF_B {μ ν : xM} (h : rkF μ ν) : kB ν 77 = kB μ 77 ∧ rN ν = rN μ := ⟨by funext i; unfold kB; rw [h.1 77 _ (by decide) (by decide) (by decide) (by decide)], by unfold rN; rw [h.2.1 18 (by decide)]⟩
theorem rk_w {ω ω' : xM} {t : Int} {k p v : Int32} {nm : Int64} (e : ω' = tokM ω k p v nm) (ht : (ω.1 75 24).toInt = t) (h0 : 0 ≤ t ∧ t ≤ 401) : (∀ a, 0 ≤ a → a < t → rP ω' a = rP ω a ∧ rK ω' a = rK ω a ∧ rVl ω' a = rVl ω a ∧ rNm ω' a = rNm ω a) ∧ (rP ω' t = p.toInt ∧ rK ω' t = kmp k.toInt ∧ rVl ω' t = v.toInt ∧ rNm ω' t = nm.toInt) ∧ (ω'.1 75 24).toInt = t + 1 ∧ rkF ω ω' := by
  subst e
  have ne : ∀ a : Int, 0 ≤ a → a < t → ¬ a.toNat = (ω.1 75 24).toInt.toNat := fun a a0 a1 => by omega
  have et : t.toNat = (ω.1 75 24).toInt.toNat := by rw [ht]
  have e1i : (1 : Int32).toInt = 1 := by decide
  have hl : ∀ c j, c ≠ 81 → (tokM ω k p v nm).2.1 c j = ω.2.1 c j := fun c j hc => by
    show (if c = 81 ∧ j = _ then nm else ω.2.1 c j) = _
    rw [if_neg (fun q => hc q.1)]
  have hi : ∀ c j, (tokM ω k p v nm).1 c j = (xpi (xpi (xpi (xpi ω 78 (ω.1 75 24).toInt.toNat k) 79 (ω.1 75 24).toInt.toNat p) 80 (ω.1 75 24).toInt.toNat v) 75 24 (ω.1 75 24 + 1)).1 c j := fun c j => rfl
  refine ⟨fun a a0 a1 => ⟨?_, ?_, ?_, ?_⟩, ⟨?_, ?_, ?_, ?_⟩, ?_, fun c j h1 h2 h3 h4 => ?_, fun j hj => ?_, hl, rfl⟩
  · unfold rP; rw [hi, xpi_ne (fun q => absurd q.1 (by decide)), xpi_ne (fun q => absurd q.1 (by decide)), xpi_ne (fun q => ne a a0 a1 q.2), xpi_ne (fun q => absurd q.1 (by decide))]
  · unfold rK; rw [hi, xpi_ne (fun q => absurd q.1 (by decide)), xpi_ne (fun q => absurd q.1 (by decide)), xpi_ne (fun q => absurd q.1 (by decide)), xpi_ne (fun q => ne a a0 a1 q.2)]
  · unfold rVl; rw [hi, xpi_ne (fun q => absurd q.1 (by decide)), xpi_ne (fun q => ne a a0 a1 q.2), xpi_ne (fun q => absurd q.1 (by decide)), xpi_ne (fun q => absurd q.1 (by decide))]
  · unfold rNm
    show (if 81 = 81 ∧ a.toNat = _ then nm else ω.2.1 81 a.toNat).toInt = _
    rw [if_neg (fun q => ne a a0 a1 q.2)]
  · unfold rP; rw [hi, et, xpi_ne (fun q => absurd q.1 (by decide)), xpi_ne (fun q => absurd q.1 (by decide)), xpi_at]
  · unfold rK; rw [hi, et, xpi_ne (fun q => absurd q.1 (by decide)), xpi_ne (fun q => absurd q.1 (by decide)), xpi_ne (fun q => absurd q.1 (by decide)), xpi_at]
  · unfold rVl; rw [hi, et, xpi_ne (fun q => absurd q.1 (by decide)), xpi_at]
  · unfold rNm
    show (if 81 = 81 ∧ t.toNat = _ then nm else ω.2.1 81 t.toNat).toInt = _
    rw [if_pos ⟨rfl, et⟩]
  · rw [hi, xpi_at, an_add (by rw [e1i]; omega) (by rw [e1i]; omega), e1i, ht]
  · rw [hi, xpi_ne (fun q => h1 q.1), xpi_ne (fun q => h4 q.1), xpi_ne (fun q => h3 q.1), xpi_ne (fun q => h2 q.1)]
  · rw [hi, xpi_ne (fun q => hj q.2), xpi_ne (fun q => absurd q.1 (by decide)), xpi_ne (fun q => absurd q.1 (by decide)), xpi_ne (fun q => absurd q.1 (by decide))]
set_option maxRecDepth 10000 in
set_option maxHeartbeats 4000000 in
theorem ex_token {k p v : Int32} {nm : Int64} {μ μ' : xM} {r : Option zV} (h0 : Ex gx xq_215 [.inr (.inl (some 75)), .inl k, .inl p, .inl v, .inr (.inr nm)] μ r μ') : r = none ∧ μ' = tokM μ k p v nm := by
  obtain ⟨n, h⟩ := tx_in (L := [some (.inr (.inl (some 75))), some (.inl k), some (.inl p), some (.inl v), some (.inr (.inr nm)), none]) h0 rfl
  replace h := tx_aload_n (p' := 1) h em215_0 rfl rfl
  replace h := tx_getc (c := 12) (j := 19) (p' := 4) h em215_1 ((congrFun xo_12 20).trans rfl) rfl rfl rfl
  replace h := tx_aload_n (p' := 5) h em215_4 rfl rfl
  replace h := tx_getf (c := 12) (j := 24) (p' := 8) h em215_5 ((congrFun xo_12 178).trans rfl) rfl rfl (by decide) rfl
  replace h := tx_iload_n (p' := 9) h em215_8 rfl rfl
  obtain ⟨hb9, h⟩ := tx_iast (len := 403) (p' := 10) h em215_9 rfl rfl
  replace hb9 : 0 ≤ (μ.1 75 24).toInt ∧ (μ.1 75 24).toInt < 403 := hb9
  replace h := tx_aload_n (p' := 11) h em215_10 rfl rfl
  replace h := tx_getc (c := 12) (j := 20) (p' := 14) h em215_11 ((congrFun xo_12 24).trans rfl) rfl rfl rfl
  replace h := tx_aload_n (p' := 15) h em215_14 rfl rfl
  replace h := tx_getf (c := 12) (j := 24) (p' := 18) h em215_15 ((congrFun xo_12 178).trans rfl) rfl rfl (by decide) rfl
  replace h : eT xq_215 _ 18 [some (.inr (.inl (some 75))), some (.inl k), some (.inl p), some (.inl v), some (.inr (.inr nm)), none] [.inl (μ.1 75 24), .inr (.inl (some 79))] (xpi μ 78 (μ.1 75 24).toInt.toNat k) r μ' := h
  replace h := tx_iload_n (p' := 19) h em215_18 rfl rfl
  obtain ⟨hb19, h⟩ := tx_iast (len := 403) (p' := 20) h em215_19 rfl rfl
  replace hb19 : 0 ≤ (μ.1 75 24).toInt ∧ (μ.1 75 24).toInt < 403 := hb19
  replace h := tx_aload_n (p' := 21) h em215_20 rfl rfl
  replace h := tx_getc (c := 12) (j := 21) (p' := 24) h em215_21 ((congrFun xo_12 27).trans rfl) rfl rfl rfl
  replace h := tx_aload_n (p' := 25) h em215_24 rfl rfl
  replace h := tx_getf (c := 12) (j := 24) (p' := 28) h em215_25 ((congrFun xo_12 178).trans rfl) rfl rfl (by decide) rfl
  replace h : eT xq_215 _ 28 [some (.inr (.inl (some 75))), some (.inl k), some (.inl p), some (.inl v), some (.inr (.inr nm)), none] [.inl (μ.1 75 24), .inr (.inl (some 80))] (xpi (xpi μ 78 (μ.1 75 24).toInt.toNat k) 79 (μ.1 75 24).toInt.toNat p) r μ' := h
  replace h := tx_iload_n (p' := 29) h em215_28 rfl rfl
  obtain ⟨hb29, h⟩ := tx_iast (len := 403) (p' := 30) h em215_29 rfl rfl
  replace hb29 : 0 ≤ (μ.1 75 24).toInt ∧ (μ.1 75 24).toInt < 403 := hb29
  replace h := tx_aload_n (p' := 31) h em215_30 rfl rfl
  replace h := tx_getc (c := 12) (j := 22) (p' := 34) h em215_31 ((congrFun xo_12 30).trans rfl) rfl rfl rfl
  replace h := tx_aload_n (p' := 35) h em215_34 rfl rfl
  replace h := tx_getf (c := 12) (j := 24) (p' := 38) h em215_35 ((congrFun xo_12 178).trans rfl) rfl rfl (by decide) rfl
  replace h : eT xq_215 _ 38 [some (.inr (.inl (some 75))), some (.inl k), some (.inl p), some (.inl v), some (.inr (.inr nm)), none] [.inl (μ.1 75 24), .inr (.inl (some 81))] (xpi (xpi (xpi μ 78 (μ.1 75 24).toInt.toNat k) 79 (μ.1 75 24).toInt.toNat p) 80 (μ.1 75 24).toInt.toNat v) r μ' := h
  replace h := tx_lload (p' := 40) h em215_38 rfl rfl
  obtain ⟨hb40, h⟩ := tx_last (len := 403) (p' := 41) h em215_40 rfl rfl
  replace hb40 : 0 ≤ (μ.1 75 24).toInt ∧ (μ.1 75 24).toInt < 403 := hb40
  replace h := tx_aload_n (p' := 42) h em215_41 rfl rfl
  replace h := tx_dup (p' := 43) h em215_42 rfl
  replace h := tx_getf (c := 12) (j := 24) (p' := 46) h em215_43 ((congrFun xo_12 178).trans rfl) rfl rfl (by decide) rfl
  replace h : eT xq_215 _ 46 [some (.inr (.inl (some 75))), some (.inl k), some (.inl p), some (.inl v), some (.inr (.inr nm)), none] [.inl (μ.1 75 24), .inr (.inl (some 75))] (xpl (xpi (xpi (xpi μ 78 (μ.1 75 24).toInt.toNat k) 79 (μ.1 75 24).toInt.toNat p) 80 (μ.1 75 24).toInt.toNat v) 81 (μ.1 75 24).toInt.toNat nm) r μ' := h
  replace h := tx_iconst (v := 1) (p' := 47) h em215_46 (by decide +kernel) rfl
  replace h := tx_iadd (p' := 48) h em215_47 rfl
  replace h := tx_putf (a := 75) (c := 12) (j := 24) (p' := 51) h em215_48 ((congrFun xo_12 178).trans rfl) rfl
  obtain ⟨rfl, hμ⟩ := tx_return h em215_51
  exact ⟨rfl, hμ⟩
theorem sgk {c k0 k : Int} (h0 : (c = 59 ∧ k0 = 4) ∨ (c = 61 ∧ k0 = 5) ∨ (c = 40 ∧ k0 = 6) ∨ (c = 41 ∧ k0 = 7) ∨ ((¬ c = 59 ∧ ¬ c = 61 ∧ ¬ c = 40 ∧ ¬ c = 41) ∧ k0 = 3)) (hk : (c = 60 ∧ k = 13) ∨ (c = 47 ∧ k = 15) ∨ (c = 42 ∧ k = 10) ∨ (c = 45 ∧ k = 9) ∨ (c = 43 ∧ k = 8) ∨ ((¬ c = 60 ∧ ¬ c = 47 ∧ ¬ c = 42 ∧ ¬ c = 45 ∧ ¬ c = 43) ∧ k = k0)) : (tkSg c ∧ kmp k = c) ∨ (¬ tkSg c ∧ kmp k = 1) := by
  unfold tkSg
  rcases hk with ⟨rfl, rfl⟩ | ⟨rfl, rfl⟩ | ⟨rfl, rfl⟩ | ⟨rfl, rfl⟩ | ⟨rfl, rfl⟩ | ⟨h1, rfl⟩
  · exact Or.inl ⟨by omega, by decide⟩
  · exact Or.inl ⟨by omega, by decide⟩
  · exact Or.inl ⟨by omega, by decide⟩
  · exact Or.inl ⟨by omega, by decide⟩
  · exact Or.inl ⟨by omega, by decide⟩
  · rcases h0 with ⟨rfl, rfl⟩ | ⟨rfl, rfl⟩ | ⟨rfl, rfl⟩ | ⟨rfl, rfl⟩ | ⟨h2, rfl⟩
    · exact Or.inl ⟨by omega, by decide⟩
    · exact Or.inl ⟨by omega, by decide⟩
    · exact Or.inl ⟨by omega, by decide⟩
    · exact Or.inl ⟨by omega, by decide⟩
    · exact Or.inr ⟨by omega, by decide⟩
set_option maxRecDepth 10000 in
set_option maxHeartbeats 4000000 in
theorem ex_sign {i c d : Int32} {μ μ' : xM} {r : Option zV} (h0 : Ex gx xq_216 [.inr (.inl (some 75)), .inl i, .inl c, .inl d] μ r μ') : ∃ k9 : Int32, r = some (.inl 1) ∧ μ' = tokM μ k9 i 0 0 ∧ ((tkSg c.toInt ∧ kmp k9.toInt = c.toInt) ∨ (¬ tkSg c.toInt ∧ kmp k9.toInt = 1)) := by
  obtain ⟨n, h⟩ := tx_in (L := [some (.inr (.inl (some 75))), some (.inl i), some (.inl c), some (.inl d), none]) h0 rfl
  have h95 : ∀ n (k : Int32), eT xq_216 n 95 [some (.inr (.inl (some 75))), some (.inl i), some (.inl c), some (.inl d), some (.inl k)] [] μ r μ' → ∃ k9 : Int32, r = some (.inl 1) ∧ μ' = tokM μ k9 i 0 0 ∧ k9.toInt = k.toInt := by
    intro n k h
    replace h := tx_aload_n (p' := 96) h em216_95 rfl rfl
    replace h := tx_iload (p' := 98) h em216_96 rfl rfl
    replace h := tx_iload_n (p' := 99) h em216_98 rfl rfl
    replace h := tx_iconst (v := 0) (p' := 100) h em216_99 (by decide +kernel) rfl
    replace h := tx_lconst (v := 0) (p' := 101) h em216_100 (by decide +kernel) rfl
    obtain ⟨r101, μ101, hE101, h⟩ := tx_invV (na := 5) (mn := 215) (as := [.inr (.inl (some 75)), .inl k, .inl i, .inl (0 : Int32), .inr (.inr (0 : Int64))]) (rest := []) (p' := 104) h em216_101 ((congrFun xo_12 185).trans rfl) xm_215 rfl rfl
    obtain ⟨rfl, hm101⟩ := ex_token hE101
    replace h : eT xq_216 _ 104 [some (.inr (.inl (some 75))), some (.inl i), some (.inl c), some (.inl d), some (.inl k)] [] μ101 r μ' := h
    replace h := tx_iconst (v := 1) (p' := 105) h em216_104 (by decide +kernel) rfl
    obtain ⟨rfl, hμ⟩ := tx_ireturn h em216_105
    exact ⟨k, rfl, hμ.trans hm101, rfl⟩
  have h85 : ∀ n (k : Int32), eT xq_216 n 85 [some (.inr (.inl (some 75))), some (.inl i), some (.inl c), some (.inl d), some (.inl k)] [] μ r μ' → ∃ k9 : Int32, r = some (.inl 1) ∧ μ' = tokM μ k9 i 0 0 ∧ k9.toInt = (if c.toInt = 60 then 13 else k.toInt) := by
    intro n k h
    replace h := tx_iload_n (p' := 86) h em216_85 rfl rfl
    replace h := tx_bipush (v := 60) (p' := 88) h em216_86 (by decide +kernel) rfl
    rcases tx_icmp (t := 95) (p' := 91) h em216_88 (by decide) rfl with ⟨c88, h⟩ | ⟨c88, h⟩
    · replace c88 : ¬ c.toInt = 60 := c88
      obtain ⟨k9, g1, g2, g3⟩ := h95 _ _ h
      refine ⟨k9, g1, g2, ?_⟩
      rw [g3]
      repeat' split
      all_goals omega
    · replace c88 : ¬ ¬ c.toInt = 60 := c88
      replace h := tx_bipush (v := 13) (p' := 93) h em216_91 (by decide +kernel) rfl
      replace h := tx_istore (p' := 95) h em216_93 rfl
      replace h : eT xq_216 _ 95 [some (.inr (.inl (some 75))), some (.inl i), some (.inl c), some (.inl d), some (.inl (13 : Int32))] [] μ r μ' := h
      obtain ⟨k9, g1, g2, g3⟩ := h95 _ _ h
      refine ⟨k9, g1, g2, ?_⟩
      rw [g3]
      have e9 : (13 : Int32).toInt = 13 := by decide
      repeat' split
      all_goals omega
  have h75 : ∀ n (k : Int32), eT xq_216 n 75 [some (.inr (.inl (some 75))), some (.inl i), some (.inl c), some (.inl d), some (.inl k)] [] μ r μ' → ∃ k9 : Int32, r = some (.inl 1) ∧ μ' = tokM μ k9 i 0 0 ∧ k9.toInt = (if c.toInt = 60 then 13 else (if c.toInt = 47 then 15 else k.toInt)) := by
    intro n k h
    replace h := tx_iload_n (p' := 76) h em216_75 rfl rfl
    replace h := tx_bipush (v := 47) (p' := 78) h em216_76 (by decide +kernel) rfl
    rcases tx_icmp (t := 85) (p' := 81) h em216_78 (by decide) rfl with ⟨c78, h⟩ | ⟨c78, h⟩
    · replace c78 : ¬ c.toInt = 47 := c78
      obtain ⟨k9, g1, g2, g3⟩ := h85 _ _ h
      refine ⟨k9, g1, g2, ?_⟩
      rw [g3]
      repeat' split
      all_goals omega
    · replace c78 : ¬ ¬ c.toInt = 47 := c78
      replace h := tx_bipush (v := 15) (p' := 83) h em216_81 (by decide +kernel) rfl
      replace h := tx_istore (p' := 85) h em216_83 rfl
      replace h : eT xq_216 _ 85 [some (.inr (.inl (some 75))), some (.inl i), some (.inl c), some (.inl d), some (.inl (15 : Int32))] [] μ r μ' := h
      obtain ⟨k9, g1, g2, g3⟩ := h85 _ _ h
      refine ⟨k9, g1, g2, ?_⟩
      rw [g3]
      have e9 : (15 : Int32).toInt = 15 := by decide
      repeat' split
      all_goals omega
  have h65 : ∀ n (k : Int32), eT xq_216 n 65 [some (.inr (.inl (some 75))), some (.inl i), some (.inl c), some (.inl d), some (.inl k)] [] μ r μ' → ∃ k9 : Int32, r = some (.inl 1) ∧ μ' = tokM μ k9 i 0 0 ∧ k9.toInt = (if c.toInt = 60 then 13 else (if c.toInt = 47 then 15 else (if c.toInt = 42 then 10 else k.toInt))) := by
    intro n k h
    replace h := tx_iload_n (p' := 66) h em216_65 rfl rfl
    replace h := tx_bipush (v := 42) (p' := 68) h em216_66 (by decide +kernel) rfl
    rcases tx_icmp (t := 75) (p' := 71) h em216_68 (by decide) rfl with ⟨c68, h⟩ | ⟨c68, h⟩
    · replace c68 : ¬ c.toInt = 42 := c68
      obtain ⟨k9, g1, g2, g3⟩ := h75 _ _ h
      refine ⟨k9, g1, g2, ?_⟩
      rw [g3]
      repeat' split
      all_goals omega
    · replace c68 : ¬ ¬ c.toInt = 42 := c68
      replace h := tx_bipush (v := 10) (p' := 73) h em216_71 (by decide +kernel) rfl
      replace h := tx_istore (p' := 75) h em216_73 rfl
      replace h : eT xq_216 _ 75 [some (.inr (.inl (some 75))), some (.inl i), some (.inl c), some (.inl d), some (.inl (10 : Int32))] [] μ r μ' := h
      obtain ⟨k9, g1, g2, g3⟩ := h75 _ _ h
      refine ⟨k9, g1, g2, ?_⟩
      rw [g3]
      have e9 : (10 : Int32).toInt = 10 := by decide
      repeat' split
      all_goals omega
  have h55 : ∀ n (k : Int32), eT xq_216 n 55 [some (.inr (.inl (some 75))), some (.inl i), some (.inl c), some (.inl d), some (.inl k)] [] μ r μ' → ∃ k9 : Int32, r = some (.inl 1) ∧ μ' = tokM μ k9 i 0 0 ∧ k9.toInt = (if c.toInt = 60 then 13 else (if c.toInt = 47 then 15 else (if c.toInt = 42 then 10 else (if c.toInt = 45 then 9 else k.toInt)))) := by
    intro n k h
    replace h := tx_iload_n (p' := 56) h em216_55 rfl rfl
    replace h := tx_bipush (v := 45) (p' := 58) h em216_56 (by decide +kernel) rfl
    rcases tx_icmp (t := 65) (p' := 61) h em216_58 (by decide) rfl with ⟨c58, h⟩ | ⟨c58, h⟩
    · replace c58 : ¬ c.toInt = 45 := c58
      obtain ⟨k9, g1, g2, g3⟩ := h65 _ _ h
      refine ⟨k9, g1, g2, ?_⟩
      rw [g3]
      repeat' split
      all_goals omega
    · replace c58 : ¬ ¬ c.toInt = 45 := c58
      replace h := tx_bipush (v := 9) (p' := 63) h em216_61 (by decide +kernel) rfl
      replace h := tx_istore (p' := 65) h em216_63 rfl
      replace h : eT xq_216 _ 65 [some (.inr (.inl (some 75))), some (.inl i), some (.inl c), some (.inl d), some (.inl (9 : Int32))] [] μ r μ' := h
      obtain ⟨k9, g1, g2, g3⟩ := h65 _ _ h
      refine ⟨k9, g1, g2, ?_⟩
      rw [g3]
      have e9 : (9 : Int32).toInt = 9 := by decide
      repeat' split
      all_goals omega
  have h45 : ∀ n (k : Int32), eT xq_216 n 45 [some (.inr (.inl (some 75))), some (.inl i), some (.inl c), some (.inl d), some (.inl k)] [] μ r μ' → ∃ k9 : Int32, r = some (.inl 1) ∧ μ' = tokM μ k9 i 0 0 ∧ k9.toInt = (if c.toInt = 60 then 13 else (if c.toInt = 47 then 15 else (if c.toInt = 42 then 10 else (if c.toInt = 45 then 9 else (if c.toInt = 43 then 8 else k.toInt))))) := by
    intro n k h
    replace h := tx_iload_n (p' := 46) h em216_45 rfl rfl
    replace h := tx_bipush (v := 43) (p' := 48) h em216_46 (by decide +kernel) rfl
    rcases tx_icmp (t := 55) (p' := 51) h em216_48 (by decide) rfl with ⟨c48, h⟩ | ⟨c48, h⟩
    · replace c48 : ¬ c.toInt = 43 := c48
      obtain ⟨k9, g1, g2, g3⟩ := h55 _ _ h
      refine ⟨k9, g1, g2, ?_⟩
      rw [g3]
      repeat' split
      all_goals omega
    · replace c48 : ¬ ¬ c.toInt = 43 := c48
      replace h := tx_bipush (v := 8) (p' := 53) h em216_51 (by decide +kernel) rfl
      replace h := tx_istore (p' := 55) h em216_53 rfl
      replace h : eT xq_216 _ 55 [some (.inr (.inl (some 75))), some (.inl i), some (.inl c), some (.inl d), some (.inl (8 : Int32))] [] μ r μ' := h
      obtain ⟨k9, g1, g2, g3⟩ := h55 _ _ h
      refine ⟨k9, g1, g2, ?_⟩
      rw [g3]
      have e9 : (8 : Int32).toInt = 8 := by decide
      repeat' split
      all_goals omega
  replace h := tx_iload_n (p' := 1) h em216_0 rfl rfl
  replace h := tx_bipush (v := 59) (p' := 3) h em216_1 (by decide +kernel) rfl
  rcases tx_icmp (t := 10) (p' := 6) h em216_3 (by decide) rfl with ⟨c3, h⟩ | ⟨c3, h⟩
  · replace c3 : ¬ c.toInt = 59 := c3
    replace h := tx_iload_n (p' := 11) h em216_10 rfl rfl
    replace h := tx_bipush (v := 61) (p' := 13) h em216_11 (by decide +kernel) rfl
    rcases tx_icmp (t := 20) (p' := 16) h em216_13 (by decide) rfl with ⟨c13, h⟩ | ⟨c13, h⟩
    · replace c13 : ¬ c.toInt = 61 := c13
      replace h := tx_iload_n (p' := 21) h em216_20 rfl rfl
      replace h := tx_bipush (v := 40) (p' := 23) h em216_21 (by decide +kernel) rfl
      rcases tx_icmp (t := 31) (p' := 26) h em216_23 (by decide) rfl with ⟨c23, h⟩ | ⟨c23, h⟩
      · replace c23 : ¬ c.toInt = 40 := c23
        replace h := tx_iload_n (p' := 32) h em216_31 rfl rfl
        replace h := tx_bipush (v := 41) (p' := 34) h em216_32 (by decide +kernel) rfl
        rcases tx_icmp (t := 42) (p' := 37) h em216_34 (by decide) rfl with ⟨c34, h⟩ | ⟨c34, h⟩
        · replace c34 : ¬ c.toInt = 41 := c34
          replace h := tx_iconst (v := 3) (p' := 43) h em216_42 (by decide +kernel) rfl
          replace h := tx_istore (p' := 45) h em216_43 rfl
          replace h : eT xq_216 _ 45 [some (.inr (.inl (some 75))), some (.inl i), some (.inl c), some (.inl d), some (.inl (3 : Int32))] [] μ r μ' := h
          obtain ⟨k9, g1, g2, g3⟩ := h45 _ _ h
          refine ⟨k9, g1, g2, sgk (k0 := ((3 : Int32)).toInt) ?_ ?_⟩
          · have e0 : ((3 : Int32)).toInt = 3 := by decide
            omega
          · rw [g3]
            repeat' split
            all_goals omega
        · replace c34 : ¬ ¬ c.toInt = 41 := c34
          replace h := tx_bipush (v := 7) (p' := 39) h em216_37 (by decide +kernel) rfl
          replace h := tx_goto (t := 43) h em216_39 (by decide)
          replace h := tx_istore (p' := 45) h em216_43 rfl
          replace h : eT xq_216 _ 45 [some (.inr (.inl (some 75))), some (.inl i), some (.inl c), some (.inl d), some (.inl (7 : Int32))] [] μ r μ' := h
          obtain ⟨k9, g1, g2, g3⟩ := h45 _ _ h
          refine ⟨k9, g1, g2, sgk (k0 := ((7 : Int32)).toInt) ?_ ?_⟩
          · have e0 : ((7 : Int32)).toInt = 7 := by decide
            omega
          · rw [g3]
            repeat' split
            all_goals omega
      · replace c23 : ¬ ¬ c.toInt = 40 := c23
        replace h := tx_bipush (v := 6) (p' := 28) h em216_26 (by decide +kernel) rfl
        replace h := tx_goto (t := 43) h em216_28 (by decide)
        replace h := tx_istore (p' := 45) h em216_43 rfl
        replace h : eT xq_216 _ 45 [some (.inr (.inl (some 75))), some (.inl i), some (.inl c), some (.inl d), some (.inl (6 : Int32))] [] μ r μ' := h
        obtain ⟨k9, g1, g2, g3⟩ := h45 _ _ h
        refine ⟨k9, g1, g2, sgk (k0 := ((6 : Int32)).toInt) ?_ ?_⟩
        · have e0 : ((6 : Int32)).toInt = 6 := by decide
          omega
        · rw [g3]
          repeat' split
          all_goals omega
    · replace c13 : ¬ ¬ c.toInt = 61 := c13
      replace h := tx_iconst (v := 5) (p' := 17) h em216_16 (by decide +kernel) rfl
      replace h := tx_goto (t := 43) h em216_17 (by decide)
      replace h := tx_istore (p' := 45) h em216_43 rfl
      replace h : eT xq_216 _ 45 [some (.inr (.inl (some 75))), some (.inl i), some (.inl c), some (.inl d), some (.inl (5 : Int32))] [] μ r μ' := h
      obtain ⟨k9, g1, g2, g3⟩ := h45 _ _ h
      refine ⟨k9, g1, g2, sgk (k0 := ((5 : Int32)).toInt) ?_ ?_⟩
      · have e0 : ((5 : Int32)).toInt = 5 := by decide
        omega
      · rw [g3]
        repeat' split
        all_goals omega
  · replace c3 : ¬ ¬ c.toInt = 59 := c3
    replace h := tx_iconst (v := 4) (p' := 7) h em216_6 (by decide +kernel) rfl
    replace h := tx_goto (t := 43) h em216_7 (by decide)
    replace h := tx_istore (p' := 45) h em216_43 rfl
    replace h : eT xq_216 _ 45 [some (.inr (.inl (some 75))), some (.inl i), some (.inl c), some (.inl d), some (.inl (4 : Int32))] [] μ r μ' := h
    obtain ⟨k9, g1, g2, g3⟩ := h45 _ _ h
    refine ⟨k9, g1, g2, sgk (k0 := ((4 : Int32)).toInt) ?_ ?_⟩
    · have e0 : ((4 : Int32)).toInt = 4 := by decide
      omega
    · rw [g3]
      repeat' split
      all_goals omega
/-- what is known of the values of tokens below t -/
def rkV (B : Int → Int) (S : Int → Int) (ω : xM) (t : Int) : Prop := ∀ a, 0 ≤ a → a < t → (rK ω a = 3 → rVl ω a = dgv B (rP ω a) (S a).toNat) ∧ (¬ rK ω a = 0 → tkLo (B (rP ω a)) → S a ≤ 8 → rNm ω a = qzR (tkEs B (rP ω a) (S a).toNat))
def rkQ (μ : xM) (r : Option zV) (μ' : xM) : Prop := r = none ∧ rkF μ μ' ∧ ∃ (m : Int) (S : Int → Int), tkC (kB μ 77) (rN μ) (rP μ') S (rK μ') m ∧ (m < 400 → rK μ' m = 0) ∧ rkV (kB μ 77) S μ' (m + 1)
/-- the loop between tokens -/
def rkL (μ : xM) (ω : xM) (i : Int) : Prop := rkF μ ω ∧ ∃ (t e : Int) (S : Int → Int), (ω.1 75 24).toInt = t ∧ t ≤ 401 ∧ tkIn (kB μ 77) (rN μ) (rP ω) S (rK ω) t e ∧ (e ≤ i ∧ i ≤ rN μ) ∧ (∀ k, e ≤ k → k < i → tkBl (kB μ 77 k)) ∧ rkV (kB μ 77) S ω t
theorem rk_step {μ ω ω' : xM} {i : Int} {k p v : Int32} {nm : Int64} {s κ : Int} (h : rkL μ ω i) (h4 : (ω.1 75 24).toInt ≤ 400) (e : ω' = tokM ω k p v nm) (hp : p.toInt = i) (hi : i < rN μ) (hnb : ¬ tkBl (kB μ 77 i)) (hs : tkSz (kB μ 77) (rN μ) i s) (hk : kmp k.toInt = κ) (hd : tkKd (kB μ 77) i s κ) (hv : (κ = 3 → v.toInt = dgv (kB μ 77) i s.toNat) ∧ (tkLo (kB μ 77 i) → s ≤ 8 → nm.toInt = qzR (tkEs (kB μ 77) i s.toNat))) : rkL μ ω' (i + s) := by
  obtain ⟨hF, t, e0, S, h1, h2, h3, h5, h6, h7⟩ := h
  obtain ⟨w1, ⟨w2, w3, w4, w5⟩, w6, w7⟩ := rk_w e h1 ⟨h3.2.2.2.2.1, by omega⟩
  have hsk : tkSk (kB μ 77) (rN μ) e0 i := ⟨h5, h6, fun _ => hnb⟩
  have hs1 := hs.1
  refine ⟨rkF_tr hF w7, t + 1, i + s, fun a => if a = t then s else S a, w6, by omega, tkIn_s h3 hsk hi hs (by rw [← hk] at hd; exact hd) (by rw [hk]; exact tkKd_0 hd) (fun a a0 a1 => ⟨(w1 a a0 a1).1, if_neg (by omega), (w1 a a0 a1).2.1⟩) ⟨w2.trans hp, if_pos rfl, w3⟩, ⟨Int.le_refl _, by omega⟩, fun k k0 k1 => by omega, fun a a0 a1 => ?_⟩
  by_cases q : a = t
  · subst q
    show (_ → _ = dgv _ _ (if a = a then s else S a).toNat) ∧ (_ → _ → (if a = a then s else S a) ≤ 8 → _ = qzR (tkEs _ _ (if a = a then s else S a).toNat))
    rw [if_pos rfl, w2, w3, w4, w5, hp, hk]
    exact ⟨hv.1, fun _ => hv.2⟩
  · obtain ⟨g1, g2, g3, g4⟩ := w1 a a0 (by omega)
    show (_ → _ = dgv _ _ (if a = t then s else S a).toNat) ∧ (_ → _ → (if a = t then s else S a) ≤ 8 → _ = qzR (tkEs _ _ (if a = t then s else S a).toNat))
    rw [if_neg q, g1, g2, g3, g4]
    exact h7 a a0 (by omega)
set_option maxRecDepth 10000 in
set_option maxHeartbeats 4000000 in
theorem cut_sign {μ μ' : xM} {r : Option zV} (hn : rN μ ≤ 2000) (hR : rBR (kB μ 77) (rN μ)) (hKey : ∀ j : Nat, j < 21 → (μ.2.1 82 j).toInt = wKey j) {n : Nat} (ih : ∀ n2, n2 < n → ∀ (i : Int32) (ω : xM) (o2 o3 o4 o5 o6 o7 : Option zV), eT xq_214 n2 7 [some (.inr (.inl (some 75))), some (.inl i), o2, o3, o4, o5, o6, o7] [] ω r μ' → 0 ≤ i.toInt → rkL μ ω i.toInt → rkQ μ r μ') {i : Int32} {ω : xM} {c : Int32} (hL : rkL μ ω i.toInt) (hi0 : 0 ≤ i.toInt) (hiN : i.toInt < rN μ) (h4 : (ω.1 75 24).toInt ≤ 400) (hnb : ¬ tkBl (kB μ 77 i.toInt)) (hcv : c.toInt = rBy (kB μ 77) (rN μ) i.toInt) (hlo : ¬ tkLo (kB μ 77 i.toInt)) (hdi : ¬ tkDi (kB μ 77 i.toInt)) {o3 o4 o5 o6 o7 : Option zV} (h : eT xq_214 n 275 [some (.inr (.inl (some 75))), some (.inl i), some (.inl c), o3, o4, o5, o6, o7] [] ω r μ') : rkQ μ r μ' := by
  have e1i : (1 : Int32).toInt = 1 := by decide
  replace h := tx_iload_n (p' := 276) h em214_275 rfl rfl
  replace h := tx_aload_n (p' := 277) h em214_276 rfl rfl
  replace h := tx_iload_n (p' := 278) h em214_277 rfl rfl
  replace h := tx_iload_n (p' := 279) h em214_278 rfl rfl
  replace h := tx_aload_n (p' := 280) h em214_279 rfl rfl
  replace h := tx_iload_n (p' := 281) h em214_280 rfl rfl
  replace h := tx_iconst (v := 1) (p' := 282) h em214_281 (by decide +kernel) rfl
  replace h := tx_iadd (p' := 283) h em214_282 rfl
  obtain ⟨r283, μ283, hE283, h⟩ := tx_invV (na := 2) (mn := 211) (as := [.inr (.inl (some 75)), .inl (i + (1 : Int32))]) (rest := [.inl c, .inl i, .inr (.inl (some 75)), .inl i]) (p' := 286) h em214_283 ((congrFun xo_12 181).trans rfl) xm_211 rfl rfl
  obtain ⟨b283, rfl, hb283v, hm283⟩ := ex_byteAt hE283
  rw [hm283] at h
  rw [(rkF_B hL.1).1, (rkF_B hL.1).2] at hb283v
  replace h : eT xq_214 _ 286 [some (.inr (.inl (some 75))), some (.inl i), some (.inl c), o3, o4, o5, o6, o7] [.inl b283, .inl c, .inl i, .inr (.inl (some 75)), .inl i] ω r μ' := h
  obtain ⟨r286, μ286, hE286, h⟩ := tx_invV (na := 4) (mn := 216) (as := [.inr (.inl (some 75)), .inl i, .inl c, .inl b283]) (rest := [.inl i]) (p' := 289) h em214_286 ((congrFun xo_12 196).trans rfl) xm_216 rfl rfl
  obtain ⟨k9, rfl, hk9, hsg⟩ := ex_sign hE286
  replace h : eT xq_214 _ 289 [some (.inr (.inl (some 75))), some (.inl i), some (.inl c), o3, o4, o5, o6, o7] [.inl (1 : Int32), .inl i] μ286 r μ' := h
  replace h := tx_iadd (p' := 290) h em214_289 rfl
  replace h := tx_istore_n (p' := 291) h em214_290 rfl
  replace h : eT xq_214 _ 291 [some (.inr (.inl (some 75))), some (.inl (i + (1 : Int32))), some (.inl c), o3, o4, o5, o6, o7] [] μ286 r μ' := h
  obtain ⟨n2, hn2, h⟩ := tx_gotoS (t := 7) h em214_291 (by decide)
  have hbr := hR i.toInt hi0 hiN
  have hc2 := rBy_sg hR hi0 hiN
  have hi1 : (i + (1 : Int32)).toInt = i.toInt + 1 := by rw [an_add (by rw [e1i]; omega) (by rw [e1i]; omega), e1i]
  have hst := rk_step (s := 1) (κ := kmp k9.toInt) hL h4 hk9 rfl hiN hnb ⟨⟨by omega, by omega⟩, Or.inr (Or.inr ⟨hlo, hdi, rfl⟩)⟩ rfl (Or.inr (Or.inr (Or.inr (Or.inr ⟨hlo, hdi, ?_⟩)))) ⟨fun q => ?_, fun q => absurd q hlo⟩
  · rw [← hi1] at hst
    exact ih n2 hn2 _ _ _ _ _ _ _ _ h (by omega) hst
  · rcases hsg with ⟨g1, g2⟩ | ⟨g1, g2⟩
    · rw [hcv] at g1 g2
      have g3 := hc2.1.mp g1
      exact Or.inl ⟨g3, by rw [g2, hc2.2 g3]⟩
    · rw [hcv] at g1
      exact Or.inr ⟨fun g3 => g1 (hc2.1.mpr g3), g2⟩
  · exfalso
    rcases hsg with ⟨g1, g2⟩ | ⟨g1, g2⟩
    · unfold tkSg at g1; omega
    · omega
set_option maxRecDepth 10000 in
set_option maxHeartbeats 4000000 in
theorem cut_digits {μ μ' : xM} {r : Option zV} (hn : rN μ ≤ 2000) (hR : rBR (kB μ 77) (rN μ)) {i c : Int32} {ω : xM} (hL : rkL μ ω i.toInt) (hi0 : 0 ≤ i.toInt) (hiN : i.toInt < rN μ) (h4 : (ω.1 75 24).toInt ≤ 400) (hnb : ¬ tkBl (kB μ 77 i.toInt)) (hdi : tkDi (kB μ 77 i.toInt)) {o5 o6 o7 : Option zV} : ∀ (n : Nat) (m v : Int32), (∀ n2, n2 < n → ∀ (i : Int32) (ω : xM) (o2 o3 o4 o5 o6 o7 : Option zV), eT xq_214 n2 7 [some (.inr (.inl (some 75))), some (.inl i), o2, o3, o4, o5, o6, o7] [] ω r μ' → 0 ≤ i.toInt → rkL μ ω i.toInt → rkQ μ r μ') → eT xq_214 n 208 [some (.inr (.inl (some 75))), some (.inl i), some (.inl c), some (.inl m), some (.inl v), o5, o6, o7] [] ω r μ' → 0 ≤ m.toInt → i.toInt + m.toInt ≤ rN μ → (∀ k, i.toInt ≤ k → k < i.toInt + m.toInt → tkDi (kB μ 77 k)) → (m.toInt ≤ 4 → v.toInt = dgv (kB μ 77) i.toInt m.toInt.toNat) → rkQ μ r μ' := by
  have e1i : (1 : Int32).toInt = 1 := by decide
  intro n
  induction n using Nat.strongRecOn with
  | ind n jh =>
  intro m v ih h hm0 hmN hrn hv
  replace h := tx_aload_n (p' := 209) h em214_208 rfl rfl
  replace h := tx_iload_n (p' := 210) h em214_209 rfl rfl
  replace h := tx_iload_n (p' := 211) h em214_210 rfl rfl
  replace h := tx_iadd (p' := 212) h em214_211 rfl
  obtain ⟨r212, μ212, hE212, h⟩ := tx_invV (na := 2) (mn := 211) (as := [.inr (.inl (some 75)), .inl (i + m)]) (rest := []) (p' := 215) h em214_212 ((congrFun xo_12 181).trans rfl) xm_211 rfl rfl
  obtain ⟨b212, rfl, hb212v, hm212⟩ := ex_byteAt hE212
  rw [hm212] at h
  rw [(rkF_B hL.1).1, (rkF_B hL.1).2] at hb212v
  replace h : eT xq_214 _ 215 [some (.inr (.inl (some 75))), some (.inl i), some (.inl c), some (.inl m), some (.inl v), o5, o6, o7] [.inl b212] ω r μ' := h
  obtain ⟨r215, μ215, hE215, h⟩ := tx_invS (na := 1) (mn := 212) (as := [.inl b212]) (rest := []) (p' := 218) h em214_215 ((congrFun xo_12 193).trans rfl) xm_212 rfl rfl
  rcases ex_risDigit hE215 with ⟨rfl, d215, hm215⟩ | ⟨rfl, d215, hm215⟩
  · rw [hm215] at h
    replace h : eT xq_214 _ 218 [some (.inr (.inl (some 75))), some (.inl i), some (.inl c), some (.inl m), some (.inl v), o5, o6, o7] [.inl (1 : Int32)] ω r μ' := h
    rcases tx_if (t := 250) (p' := 221) h em214_218 (by decide) rfl with ⟨c218, h⟩ | ⟨c218, h⟩
    · replace c218 : (1 : Int) = (0 : Int) := c218
      exfalso
      omega
    · replace c218 : ¬ (1 : Int) = (0 : Int) := c218
      replace h := tx_iload_n (p' := 222) h em214_221 rfl rfl
      replace h := tx_iconst (v := 4) (p' := 223) h em214_222 (by decide +kernel) rfl
      rcases tx_icmp (t := 244) (p' := 226) h em214_223 (by decide) rfl with ⟨c223, h⟩ | ⟨c223, h⟩
      · replace c223 : 4 ≤ m.toInt := c223
        replace h := tx_iinc (v := 1) (p' := 247) h em214_244 (by decide +kernel) rfl rfl
        replace h : eT xq_214 _ 247 [some (.inr (.inl (some 75))), some (.inl i), some (.inl c), some (.inl (m + 1)), some (.inl v), o5, o6, o7] [] ω r μ' := h
        obtain ⟨n2, hn2, h⟩ := tx_gotoS (t := 208) h em214_247 (by decide)
        have hm1 : (m + 1).toInt = m.toInt + 1 := by rw [an_add (by rw [e1i]; omega) (by rw [e1i]; omega), e1i]
        have him : (i + m).toInt = i.toInt + m.toInt := by rw [an_add (by omega) (by omega)]
        rw [him] at hb212v
        rw [hb212v, rBy_di hR (by omega)] at d215
        have hrn2 : ∀ k, i.toInt ≤ k → k < i.toInt + (m.toInt + 1) → tkDi (kB μ 77 k) := fun k k0 k1 => by
          by_cases q : k = i.toInt + m.toInt
          · rw [q]; exact d215.2
          · exact hrn k k0 (by omega)
        refine jh n2 hn2 _ _ (fun n3 h3 => ih n3 (by omega)) h (by omega) (by rw [hm1]; omega) (by rw [hm1]; exact hrn2) ?_
        rw [hm1]
        exact fun q => by omega
      · replace c223 : ¬ 4 ≤ m.toInt := c223
        replace h := tx_bipush (v := 10) (p' := 228) h em214_226 (by decide +kernel) rfl
        replace h := tx_iload (p' := 230) h em214_228 rfl rfl
        replace h := tx_imul (p' := 231) h em214_230 rfl
        replace h := tx_aload_n (p' := 232) h em214_231 rfl rfl
        replace h := tx_iload_n (p' := 233) h em214_232 rfl rfl
        replace h := tx_iload_n (p' := 234) h em214_233 rfl rfl
        replace h := tx_iadd (p' := 235) h em214_234 rfl
        obtain ⟨r235, μ235, hE235, h⟩ := tx_invV (na := 2) (mn := 211) (as := [.inr (.inl (some 75)), .inl (i + m)]) (rest := [.inl ((10 : Int32) * v)]) (p' := 238) h em214_235 ((congrFun xo_12 181).trans rfl) xm_211 rfl rfl
        obtain ⟨b235, rfl, hb235v, hm235⟩ := ex_byteAt hE235
        rw [hm235] at h
        rw [(rkF_B hL.1).1, (rkF_B hL.1).2] at hb235v
        replace h : eT xq_214 _ 238 [some (.inr (.inl (some 75))), some (.inl i), some (.inl c), some (.inl m), some (.inl v), o5, o6, o7] [.inl b235, .inl ((10 : Int32) * v)] ω r μ' := h
        replace h := tx_iadd (p' := 239) h em214_238 rfl
        replace h := tx_bipush (v := 48) (p' := 241) h em214_239 (by decide +kernel) rfl
        replace h := tx_isub (p' := 242) h em214_241 rfl
        replace h := tx_istore (p' := 244) h em214_242 rfl
        replace h : eT xq_214 _ 244 [some (.inr (.inl (some 75))), some (.inl i), some (.inl c), some (.inl m), some (.inl ((((10 : Int32) * v) + b235) - (48 : Int32))), o5, o6, o7] [] ω r μ' := h
        replace h := tx_iinc (v := 1) (p' := 247) h em214_244 (by decide +kernel) rfl rfl
        replace h : eT xq_214 _ 247 [some (.inr (.inl (some 75))), some (.inl i), some (.inl c), some (.inl (m + 1)), some (.inl ((((10 : Int32) * v) + b235) - (48 : Int32))), o5, o6, o7] [] ω r μ' := h
        obtain ⟨n2, hn2, h⟩ := tx_gotoS (t := 208) h em214_247 (by decide)
        have hm1 : (m + 1).toInt = m.toInt + 1 := by rw [an_add (by rw [e1i]; omega) (by rw [e1i]; omega), e1i]
        have him : (i + m).toInt = i.toInt + m.toInt := by rw [an_add (by omega) (by omega)]
        rw [him] at hb212v
        rw [hb212v, rBy_di hR (by omega)] at d215
        have hrn2 : ∀ k, i.toInt ≤ k → k < i.toInt + (m.toInt + 1) → tkDi (kB μ 77 k) := fun k k0 k1 => by
          by_cases q : k = i.toInt + m.toInt
          · rw [q]; exact d215.2
          · exact hrn k k0 (by omega)
        have e4 : (4 : Int32).toInt = 4 := by decide
        have e10 : (10 : Int32).toInt = 10 := by decide
        have e48 : (48 : Int32).toInt = 48 := by decide
        have hm4 : m.toInt < 4 := by omega
        have hdg := dgv_b (B := kB μ 77) (i := i.toInt) (k := m.toInt.toNat) (fun j hj => hrn _ (by omega) (by omega))
        have hp4 : (10 : Int) ^ m.toInt.toNat ≤ 1000 := by
          have : m.toInt.toNat = 0 ∨ m.toInt.toNat = 1 ∨ m.toInt.toNat = 2 ∨ m.toInt.toNat = 3 := by omega
          rcases this with e | e | e | e <;> rw [e] <;> decide
        have hv0 := hv (by omega)
        have hd2 := d215.2
        unfold tkDi at hd2
        rw [him, rBy_v d215.1 (by omega)] at hb235v
        have h1 : ((10 : Int32) * v).toInt = 10 * v.toInt := by rw [an_mul (by rw [e10]; omega) (by rw [e10]; omega), e10]
        have h2 : ((10 : Int32) * v + b235).toInt = 10 * v.toInt + b235.toInt := by rw [an_add (by rw [h1]; omega) (by rw [h1]; omega), h1]
        have h3 : ((10 : Int32) * v + b235 - (48 : Int32)).toInt = 10 * v.toInt + b235.toInt - 48 := by rw [an_sub (by rw [h2, e48]; omega) (by rw [h2, e48]; omega), h2, e48]
        refine jh n2 hn2 _ _ (fun n3 h3 => ih n3 (by omega)) h (by omega) (by rw [hm1]; omega) (by rw [hm1]; exact hrn2) ?_
        rw [hm1, h3, hb235v]
        intro q
        rw [show (m.toInt + 1).toNat = m.toInt.toNat + 1 by omega]
        show _ = dgv (kB μ 77) i.toInt m.toInt.toNat * 10 + (kB μ 77 (i.toInt + (m.toInt.toNat : Nat)) - 48)
        rw [← hv0, show i.toInt + ((m.toInt.toNat : Nat) : Int) = i.toInt + m.toInt by omega]
        omega
  · rw [hm215] at h
    replace h : eT xq_214 _ 218 [some (.inr (.inl (some 75))), some (.inl i), some (.inl c), some (.inl m), some (.inl v), o5, o6, o7] [.inl (0 : Int32)] ω r μ' := h
    rcases tx_if (t := 250) (p' := 221) h em214_218 (by decide) rfl with ⟨c218_1, h⟩ | ⟨c218_1, h⟩
    · replace c218_1 : (0 : Int) = (0 : Int) := c218_1
      replace h := tx_aload_n (p' := 251) h em214_250 rfl rfl
      replace h := tx_iload_n (p' := 252) h em214_251 rfl rfl
      replace h := tx_iconst (v := 4) (p' := 253) h em214_252 (by decide +kernel) rfl
      rcases tx_icmp (t := 260) (p' := 256) h em214_253 (by decide) rfl with ⟨c253, h⟩ | ⟨c253, h⟩
      · replace c253 : m.toInt ≤ 4 := c253
        replace h := tx_iconst (v := 2) (p' := 261) h em214_260 (by decide +kernel) rfl
        replace h := tx_iload_n (p' := 262) h em214_261 rfl rfl
        replace h := tx_iload (p' := 264) h em214_262 rfl rfl
        replace h := tx_lconst (v := 0) (p' := 265) h em214_264 (by decide +kernel) rfl
        obtain ⟨r265, μ265, hE265, h⟩ := tx_invV (na := 5) (mn := 215) (as := [.inr (.inl (some 75)), .inl (2 : Int32), .inl i, .inl v, .inr (.inr (0 : Int64))]) (rest := []) (p' := 268) h em214_265 ((congrFun xo_12 185).trans rfl) xm_215 rfl rfl
        obtain ⟨rfl, hm265⟩ := ex_token hE265
        replace h : eT xq_214 _ 268 [some (.inr (.inl (some 75))), some (.inl i), some (.inl c), some (.inl m), some (.inl v), o5, o6, o7] [] μ265 r μ' := h
        replace h := tx_iload_n (p' := 269) h em214_268 rfl rfl
        replace h := tx_iload_n (p' := 270) h em214_269 rfl rfl
        replace h := tx_iadd (p' := 271) h em214_270 rfl
        replace h := tx_istore_n (p' := 272) h em214_271 rfl
        replace h : eT xq_214 _ 272 [some (.inr (.inl (some 75))), some (.inl (i + m)), some (.inl c), some (.inl m), some (.inl v), o5, o6, o7] [] μ265 r μ' := h
        replace h := tx_goto (t := 291) h em214_272 (by decide)
        obtain ⟨n2, hn2, h⟩ := tx_gotoS (t := 7) h em214_291 (by decide)
        have him : (i + m).toInt = i.toInt + m.toInt := by rw [an_add (by omega) (by omega)]
        have e4 : (4 : Int32).toInt = 4 := by decide
        rw [him] at hb212v
        rw [hb212v, rBy_di hR (by omega)] at d215
        have hm1 : 1 ≤ m.toInt := by
          by_cases q : m.toInt = 0
          · exfalso
            apply d215
            rw [q, Int.add_zero]
            exact ⟨hiN, hdi⟩
          · omega
        have hlo : ¬ tkLo (kB μ 77 i.toInt) := fun q => by unfold tkLo at q; unfold tkDi at hdi; omega
        have hst := rk_step (s := m.toInt) (κ := 3) hL h4 hm265 rfl hiN hnb ⟨⟨hm1, by omega⟩, Or.inr (Or.inl ⟨hdi, hrn, fun q q2 => d215 ⟨q, q2⟩⟩)⟩ (by decide) (Or.inr (Or.inr (Or.inr (Or.inl ⟨hdi, by omega, rfl⟩)))) ⟨fun _ => hv (by omega), fun q => absurd q hlo⟩
        rw [← him] at hst
        exact ih n2 hn2 _ _ _ _ _ _ _ _ h (by omega) hst
      · replace c253 : ¬ m.toInt ≤ 4 := c253
        replace h := tx_iconst (v := 3) (p' := 257) h em214_256 (by decide +kernel) rfl
        replace h := tx_goto (t := 261) h em214_257 (by decide)
        replace h := tx_iload_n (p' := 262) h em214_261 rfl rfl
        replace h := tx_iload (p' := 264) h em214_262 rfl rfl
        replace h := tx_lconst (v := 0) (p' := 265) h em214_264 (by decide +kernel) rfl
        obtain ⟨r265_1, μ265_1, hE265_1, h⟩ := tx_invV (na := 5) (mn := 215) (as := [.inr (.inl (some 75)), .inl (3 : Int32), .inl i, .inl v, .inr (.inr (0 : Int64))]) (rest := []) (p' := 268) h em214_265 ((congrFun xo_12 185).trans rfl) xm_215 rfl rfl
        obtain ⟨rfl, hm265⟩ := ex_token hE265_1
        replace h : eT xq_214 _ 268 [some (.inr (.inl (some 75))), some (.inl i), some (.inl c), some (.inl m), some (.inl v), o5, o6, o7] [] μ265_1 r μ' := h
        replace h := tx_iload_n (p' := 269) h em214_268 rfl rfl
        replace h := tx_iload_n (p' := 270) h em214_269 rfl rfl
        replace h := tx_iadd (p' := 271) h em214_270 rfl
        replace h := tx_istore_n (p' := 272) h em214_271 rfl
        replace h : eT xq_214 _ 272 [some (.inr (.inl (some 75))), some (.inl (i + m)), some (.inl c), some (.inl m), some (.inl v), o5, o6, o7] [] μ265_1 r μ' := h
        replace h := tx_goto (t := 291) h em214_272 (by decide)
        obtain ⟨n2, hn2, h⟩ := tx_gotoS (t := 7) h em214_291 (by decide)
        have him : (i + m).toInt = i.toInt + m.toInt := by rw [an_add (by omega) (by omega)]
        have e4 : (4 : Int32).toInt = 4 := by decide
        rw [him] at hb212v
        rw [hb212v, rBy_di hR (by omega)] at d215
        have hm1 : 1 ≤ m.toInt := by
          by_cases q : m.toInt = 0
          · exfalso
            apply d215
            rw [q, Int.add_zero]
            exact ⟨hiN, hdi⟩
          · omega
        have hlo : ¬ tkLo (kB μ 77 i.toInt) := fun q => by unfold tkLo at q; unfold tkDi at hdi; omega
        have hst := rk_step (s := m.toInt) (κ := 1) hL h4 hm265 rfl hiN hnb ⟨⟨hm1, by omega⟩, Or.inr (Or.inl ⟨hdi, hrn, fun q q2 => d215 ⟨q, q2⟩⟩)⟩ (by decide) (Or.inr (Or.inr (Or.inl ⟨hdi, by omega, rfl⟩))) ⟨fun q => absurd q (by decide), fun q => absurd q hlo⟩
        rw [← him] at hst
        exact ih n2 hn2 _ _ _ _ _ _ _ _ h (by omega) hst
    · replace c218_1 : ¬ (0 : Int) = (0 : Int) := c218_1
      exfalso
      omega
set_option maxRecDepth 10000 in
set_option maxHeartbeats 4000000 in
theorem cut_179 {μ μ' : xM} {r : Option zV} (hn : rN μ ≤ 2000) (hR : rBR (kB μ 77) (rN μ)) (hKey : ∀ j : Nat, j < 21 → (μ.2.1 82 j).toInt = wKey j) {n : Nat} (ih : ∀ n2, n2 < n → ∀ (i : Int32) (ω : xM) (o2 o3 o4 o5 o6 o7 : Option zV), eT xq_214 n2 7 [some (.inr (.inl (some 75))), some (.inl i), o2, o3, o4, o5, o6, o7] [] ω r μ' → 0 ≤ i.toInt → rkL μ ω i.toInt → rkQ μ r μ') {i : Int32} {ω : xM} {c m kd : Int32} {nm : Int64} (hL : rkL μ ω i.toInt) (hi0 : 0 ≤ i.toInt) (hiN : i.toInt < rN μ) (h4 : (ω.1 75 24).toInt ≤ 400) (hnb : ¬ tkBl (kB μ 77 i.toInt)) (hlo : tkLo (kB μ 77 i.toInt)) (hm1 : 1 ≤ m.toInt) (hmN : i.toInt + m.toInt ≤ rN μ) (hrn : tkRn (kB μ 77) (rN μ) i.toInt m.toInt tkLo) (hnm : m.toInt ≤ 8 → nm.toInt = qzR (tkEs (kB μ 77) i.toInt m.toInt.toNat)) (hkd : tkKd (kB μ 77) i.toInt m.toInt (kmp kd.toInt)) {o7 : Option zV} (h : eT xq_214 n 179 [some (.inr (.inl (some 75))), some (.inl i), some (.inl c), some (.inl m), some (.inr (.inr nm)), none, some (.inl kd), o7] [] ω r μ') : rkQ μ r μ' := by
  replace h := tx_aload_n (p' := 180) h em214_179 rfl rfl
  replace h := tx_iload (p' := 182) h em214_180 rfl rfl
  replace h := tx_iload_n (p' := 183) h em214_182 rfl rfl
  replace h := tx_iconst (v := 0) (p' := 184) h em214_183 (by decide +kernel) rfl
  replace h := tx_lload (p' := 186) h em214_184 rfl rfl
  obtain ⟨r186, μ186, hE186, h⟩ := tx_invV (na := 5) (mn := 215) (as := [.inr (.inl (some 75)), .inl kd, .inl i, .inl (0 : Int32), .inr (.inr nm)]) (rest := []) (p' := 189) h em214_186 ((congrFun xo_12 185).trans rfl) xm_215 rfl rfl
  obtain ⟨rfl, hm186⟩ := ex_token hE186
  replace h : eT xq_214 _ 189 [some (.inr (.inl (some 75))), some (.inl i), some (.inl c), some (.inl m), some (.inr (.inr nm)), none, some (.inl kd), o7] [] μ186 r μ' := h
  replace h := tx_iload_n (p' := 190) h em214_189 rfl rfl
  replace h := tx_iload_n (p' := 191) h em214_190 rfl rfl
  replace h := tx_iadd (p' := 192) h em214_191 rfl
  replace h := tx_istore_n (p' := 193) h em214_192 rfl
  replace h : eT xq_214 _ 193 [some (.inr (.inl (some 75))), some (.inl (i + m)), some (.inl c), some (.inl m), some (.inr (.inr nm)), none, some (.inl kd), o7] [] μ186 r μ' := h
  replace h := tx_goto (t := 291) h em214_193 (by decide)
  obtain ⟨n2, hn2, h⟩ := tx_gotoS (t := 7) h em214_291 (by decide)
  have him : (i + m).toInt = i.toInt + m.toInt := by rw [an_add (by omega) (by omega)]
  have hdi : ¬ tkDi (kB μ 77 i.toInt) := fun q => by unfold tkDi at q; unfold tkLo at hlo; omega
  have hst := rk_step (s := m.toInt) (κ := kmp kd.toInt) hL h4 hm186 rfl hiN hnb ⟨⟨hm1, hmN⟩, Or.inl ⟨hlo, hrn⟩⟩ rfl hkd ⟨fun q => ?_, fun _ q => hnm q⟩
  · rw [← him] at hst
    exact ih n2 hn2 _ _ _ _ _ _ _ _ h (by omega) hst
  · exfalso
    rcases hkd with ⟨-, -, g⟩ | ⟨-, -, ⟨w, -, -, g⟩ | ⟨-, g⟩⟩ | ⟨g, -⟩ | ⟨g, -⟩ | ⟨g, -⟩
    · omega
    · omega
    · omega
    · exact hdi g
    · exact hdi g
    · exact g hlo
set_option maxRecDepth 10000 in
set_option maxHeartbeats 4000000 in
theorem cut_146 {μ μ' : xM} {r : Option zV} (hn : rN μ ≤ 2000) (hR : rBR (kB μ 77) (rN μ)) (hKey : ∀ j : Nat, j < 21 → (μ.2.1 82 j).toInt = wKey j) {i c m : Int32} {nm : Int64} {ω : xM} (hL : rkL μ ω i.toInt) (hi0 : 0 ≤ i.toInt) (hiN : i.toInt < rN μ) (h4 : (ω.1 75 24).toInt ≤ 400) (hnb : ¬ tkBl (kB μ 77 i.toInt)) (hlo : tkLo (kB μ 77 i.toInt)) (hm1 : 1 ≤ m.toInt) (hmN : i.toInt + m.toInt ≤ rN μ) (hrn : tkRn (kB μ 77) (rN μ) i.toInt m.toInt tkLo) (hnm : m.toInt ≤ 8 → nm.toInt = qzR (tkEs (kB μ 77) i.toInt m.toInt.toNat)) (hm8 : m.toInt ≤ 8) : ∀ (n : Nat) (k kd : Int32), (∀ n2, n2 < n → ∀ (i : Int32) (ω : xM) (o2 o3 o4 o5 o6 o7 : Option zV), eT xq_214 n2 7 [some (.inr (.inl (some 75))), some (.inl i), o2, o3, o4, o5, o6, o7] [] ω r μ' → 0 ≤ i.toInt → rkL μ ω i.toInt → rkQ μ r μ') → eT xq_214 n 146 [some (.inr (.inl (some 75))), some (.inl i), some (.inl c), some (.inl m), some (.inr (.inr nm)), none, some (.inl kd), some (.inl k)] [] ω r μ' → 0 ≤ k.toInt → k.toInt ≤ 21 → ((kd.toInt = 1 ∧ ∀ w : Nat, (w : Int) < k.toInt → ¬ nm.toInt = wKey w) ∨ (∃ w : Nat, (w : Int) < k.toInt ∧ nm.toInt = wKey w ∧ kd.toInt = 20 + w)) → rkQ μ r μ' := by
  have e1i : (1 : Int32).toInt = 1 := by decide
  intro n
  induction n using Nat.strongRecOn with
  | ind n jh =>
  intro k kd ih h hk0 hk21 hkd
  replace h := tx_iload (p' := 148) h em214_146 rfl rfl
  replace h := tx_bipush (v := 21) (p' := 150) h em214_148 (by decide +kernel) rfl
  rcases tx_icmp (t := 179) (p' := 153) h em214_150 (by decide) rfl with ⟨c150, h⟩ | ⟨c150, h⟩
  · replace c150 : 21 ≤ k.toInt := c150
    refine cut_179 hn hR hKey ih hL hi0 hiN h4 hnb hlo hm1 hmN hrn hnm ?_ h
    have hB8 : ∀ j : Nat, j < m.toInt.toNat → tkLo (kB μ 77 (i.toInt + j)) := fun j hj => hrn.1 _ (by omega) (by omega)
    refine Or.inr (Or.inl ⟨hlo, hm8, ?_⟩)
    rw [hnm hm8] at hkd
    rcases hkd with ⟨g1, g2⟩ | ⟨w, g1, g2, g3⟩
    · refine Or.inr ⟨fun w hw q => g2 w (by omega) ?_, by rw [g1]; decide⟩
      refine (word_iff hw (by omega) hB8).mpr ?_
      rw [show ((m.toInt.toNat : Nat) : Int) = m.toInt by omega]
      exact q
    · refine Or.inl ⟨w, by omega, ?_, by rw [g3, kmp_l ⟨by omega, by omega⟩]; omega⟩
      have q := (word_iff (by omega) (by omega) hB8).mp g2
      rw [show ((m.toInt.toNat : Nat) : Int) = m.toInt by omega] at q
      exact q
  · replace c150 : ¬ 21 ≤ k.toInt := c150
    replace h := tx_aload_n (p' := 154) h em214_153 rfl rfl
    replace h := tx_getc (c := 12) (j := 23) (p' := 157) h em214_154 ((congrFun xo_12 34).trans rfl) rfl rfl rfl
    replace h := tx_iload (p' := 159) h em214_157 rfl rfl
    obtain ⟨hb159, h⟩ := tx_lald (len := 21) (p' := 160) h em214_159 rfl rfl
    replace hb159 : 0 ≤ k.toInt ∧ k.toInt < 21 := hb159
    replace h := tx_lload (p' := 162) h em214_160 rfl rfl
    replace h := tx_lcmp (p' := 163) h em214_162 rfl
    rcases tx_if (t := 173) (p' := 166) h em214_163 (by decide) rfl with ⟨c163, h⟩ | ⟨c163, h⟩
    · replace c163 : ¬ (lg_cmp (ω.2.1 82 k.toInt.toNat) nm).toInt = 0 := c163
      replace h := tx_iinc (v := 1) (p' := 176) h em214_173 (by decide +kernel) rfl rfl
      replace h : eT xq_214 _ 176 [some (.inr (.inl (some 75))), some (.inl i), some (.inl c), some (.inl m), some (.inr (.inr nm)), none, some (.inl kd), some (.inl (k + 1))] [] ω r μ' := h
      obtain ⟨n2, hn2, h⟩ := tx_gotoS (t := 146) h em214_176 (by decide)
      have hk1 : (k + 1).toInt = k.toInt + 1 := by rw [an_add (by rw [e1i]; omega) (by rw [e1i]; omega), e1i]
      have hkey : (ω.2.1 82 k.toInt.toNat).toInt = wKey k.toInt.toNat := by rw [hL.1.2.2.1 82 _ (by decide)]; exact hKey _ (by omega)
      have hne : ¬ nm.toInt = wKey k.toInt.toNat := fun q => c163 (lg2.mpr (by rw [hkey, q]))
      refine jh n2 hn2 _ _ (fun n3 h3 => ih n3 (by omega)) h (by rw [hk1]; omega) (by rw [hk1]; omega) ?_
      rw [hk1]
      rcases hkd with ⟨g1, g2⟩ | ⟨w, g1, g2, g3⟩
      · refine Or.inl ⟨g1, fun w hw => ?_⟩
        by_cases q : w = k.toInt.toNat
        · rw [q]; exact hne
        · exact g2 w (by omega)
      · exact Or.inr ⟨w, by omega, g2, g3⟩
    · replace c163 : ¬ ¬ (lg_cmp (ω.2.1 82 k.toInt.toNat) nm).toInt = 0 := c163
      replace h := tx_bipush (v := 20) (p' := 168) h em214_166 (by decide +kernel) rfl
      replace h := tx_iload (p' := 170) h em214_168 rfl rfl
      replace h := tx_iadd (p' := 171) h em214_170 rfl
      replace h := tx_istore (p' := 173) h em214_171 rfl
      replace h : eT xq_214 _ 173 [some (.inr (.inl (some 75))), some (.inl i), some (.inl c), some (.inl m), some (.inr (.inr nm)), none, some (.inl ((20 : Int32) + k)), some (.inl k)] [] ω r μ' := h
      replace h := tx_iinc (v := 1) (p' := 176) h em214_173 (by decide +kernel) rfl rfl
      replace h : eT xq_214 _ 176 [some (.inr (.inl (some 75))), some (.inl i), some (.inl c), some (.inl m), some (.inr (.inr nm)), none, some (.inl ((20 : Int32) + k)), some (.inl (k + 1))] [] ω r μ' := h
      obtain ⟨n2, hn2, h⟩ := tx_gotoS (t := 146) h em214_176 (by decide)
      have hk1 : (k + 1).toInt = k.toInt + 1 := by rw [an_add (by rw [e1i]; omega) (by rw [e1i]; omega), e1i]
      have hkey : (ω.2.1 82 k.toInt.toNat).toInt = wKey k.toInt.toNat := by rw [hL.1.2.2.1 82 _ (by decide)]; exact hKey _ (by omega)
      have heq : nm.toInt = wKey k.toInt.toNat := by rw [← hkey]; exact (lg2.mp (by omega)).symm
      have e20 : (20 : Int32).toInt = 20 := by decide
      have hkk : ((20 : Int32) + k).toInt = 20 + k.toInt := by rw [an_add (by rw [e20]; omega) (by rw [e20]; omega), e20]
      refine jh n2 hn2 _ _ (fun n3 h3 => ih n3 (by omega)) h (by rw [hk1]; omega) (by rw [hk1]; omega) ?_
      rw [hk1]
      exact Or.inr ⟨k.toInt.toNat, by omega, heq, by rw [hkk]; omega⟩
set_option maxRecDepth 10000 in
set_option maxHeartbeats 4000000 in
theorem cut_85 {μ μ' : xM} {r : Option zV} (hn : rN μ ≤ 2000) (hR : rBR (kB μ 77) (rN μ)) (hKey : ∀ j : Nat, j < 21 → (μ.2.1 82 j).toInt = wKey j) {i c : Int32} {ω : xM} (hL : rkL μ ω i.toInt) (hi0 : 0 ≤ i.toInt) (hiN : i.toInt < rN μ) (h4 : (ω.1 75 24).toInt ≤ 400) (hnb : ¬ tkBl (kB μ 77 i.toInt)) (hlo : tkLo (kB μ 77 i.toInt)) {o6 o7 : Option zV} : ∀ (n : Nat) (m : Int32) (nm : Int64), (∀ n2, n2 < n → ∀ (i : Int32) (ω : xM) (o2 o3 o4 o5 o6 o7 : Option zV), eT xq_214 n2 7 [some (.inr (.inl (some 75))), some (.inl i), o2, o3, o4, o5, o6, o7] [] ω r μ' → 0 ≤ i.toInt → rkL μ ω i.toInt → rkQ μ r μ') → eT xq_214 n 85 [some (.inr (.inl (some 75))), some (.inl i), some (.inl c), some (.inl m), some (.inr (.inr nm)), none, o6, o7] [] ω r μ' → 0 ≤ m.toInt → i.toInt + m.toInt ≤ rN μ → (∀ k, i.toInt ≤ k → k < i.toInt + m.toInt → tkLo (kB μ 77 k)) → (m.toInt ≤ 8 → nm.toInt = qzR (tkEs (kB μ 77) i.toInt m.toInt.toNat)) → rkQ μ r μ' := by
  have e1i : (1 : Int32).toInt = 1 := by decide
  intro n
  induction n using Nat.strongRecOn with
  | ind n jh =>
  intro m nm ih h hm0 hmN hrn hnm
  replace h := tx_aload_n (p' := 86) h em214_85 rfl rfl
  replace h := tx_iload_n (p' := 87) h em214_86 rfl rfl
  replace h := tx_iload_n (p' := 88) h em214_87 rfl rfl
  replace h := tx_iadd (p' := 89) h em214_88 rfl
  obtain ⟨r89, μ89, hE89, h⟩ := tx_invV (na := 2) (mn := 211) (as := [.inr (.inl (some 75)), .inl (i + m)]) (rest := []) (p' := 92) h em214_89 ((congrFun xo_12 181).trans rfl) xm_211 rfl rfl
  obtain ⟨b89, rfl, hb89v, hm89⟩ := ex_byteAt hE89
  rw [hm89] at h
  rw [(rkF_B hL.1).1, (rkF_B hL.1).2] at hb89v
  replace h : eT xq_214 _ 92 [some (.inr (.inl (some 75))), some (.inl i), some (.inl c), some (.inl m), some (.inr (.inr nm)), none, o6, o7] [.inl b89] ω r μ' := h
  obtain ⟨r92, μ92, hE92, h⟩ := tx_invS (na := 1) (mn := 213) (as := [.inl b89]) (rest := []) (p' := 95) h em214_92 ((congrFun xo_12 189).trans rfl) xm_213 rfl rfl
  rcases ex_isLetter hE92 with ⟨rfl, l92, hm92⟩ | ⟨rfl, l92, hm92⟩
  · rw [hm92] at h
    replace h : eT xq_214 _ 95 [some (.inr (.inl (some 75))), some (.inl i), some (.inl c), some (.inl m), some (.inr (.inr nm)), none, o6, o7] [.inl (1 : Int32)] ω r μ' := h
    rcases tx_if (t := 124) (p' := 98) h em214_95 (by decide) rfl with ⟨c95, h⟩ | ⟨c95, h⟩
    · replace c95 : (1 : Int) = (0 : Int) := c95
      exfalso
      omega
    · replace c95 : ¬ (1 : Int) = (0 : Int) := c95
      replace h := tx_iload_n (p' := 99) h em214_98 rfl rfl
      replace h := tx_bipush (v := 8) (p' := 101) h em214_99 (by decide +kernel) rfl
      rcases tx_icmp (t := 118) (p' := 104) h em214_101 (by decide) rfl with ⟨c101, h⟩ | ⟨c101, h⟩
      · replace c101 : 8 ≤ m.toInt := c101
        replace h := tx_iinc (v := 1) (p' := 121) h em214_118 (by decide +kernel) rfl rfl
        replace h : eT xq_214 _ 121 [some (.inr (.inl (some 75))), some (.inl i), some (.inl c), some (.inl (m + 1)), some (.inr (.inr nm)), none, o6, o7] [] ω r μ' := h
        obtain ⟨n2, hn2, h⟩ := tx_gotoS (t := 85) h em214_121 (by decide)
        have hm1 : (m + 1).toInt = m.toInt + 1 := by rw [an_add (by rw [e1i]; omega) (by rw [e1i]; omega), e1i]
        have him : (i + m).toInt = i.toInt + m.toInt := by rw [an_add (by omega) (by omega)]
        rw [him] at hb89v
        rw [hb89v, rBy_lo hR (by omega)] at l92
        have hrn2 : ∀ k, i.toInt ≤ k → k < i.toInt + (m.toInt + 1) → tkLo (kB μ 77 k) := fun k k0 k1 => by
          by_cases q : k = i.toInt + m.toInt
          · rw [q]; exact l92.2
          · exact hrn k k0 (by omega)
        refine jh n2 hn2 _ _ (fun n3 h3 => ih n3 (by omega)) h (by omega) (by rw [hm1]; omega) (by rw [hm1]; exact hrn2) ?_
        rw [hm1]
        exact fun q => by omega
      · replace c101 : ¬ 8 ≤ m.toInt := c101
        replace h := tx_lload (p' := 106) h em214_104 rfl rfl
        replace h := tx_aload_n (p' := 107) h em214_106 rfl rfl
        replace h := tx_iload_n (p' := 108) h em214_107 rfl rfl
        replace h := tx_iload_n (p' := 109) h em214_108 rfl rfl
        replace h := tx_iadd (p' := 110) h em214_109 rfl
        obtain ⟨r110, μ110, hE110, h⟩ := tx_invV (na := 2) (mn := 211) (as := [.inr (.inl (some 75)), .inl (i + m)]) (rest := [.inr (.inr nm)]) (p' := 113) h em214_110 ((congrFun xo_12 181).trans rfl) xm_211 rfl rfl
        obtain ⟨b110, rfl, hb110v, hm110⟩ := ex_byteAt hE110
        rw [hm110] at h
        rw [(rkF_B hL.1).1, (rkF_B hL.1).2] at hb110v
        replace h : eT xq_214 _ 113 [some (.inr (.inl (some 75))), some (.inl i), some (.inl c), some (.inl m), some (.inr (.inr nm)), none, o6, o7] [.inl b110, .inr (.inr nm)] ω r μ' := h
        obtain ⟨r113, μ113, hE113, h⟩ := tx_invS (na := 2) (mn := 217) (as := [.inr (.inr nm), .inl b110]) (rest := []) (p' := 116) h em214_113 ((congrFun xo_12 174).trans rfl) xm_217 rfl rfl
        have him9 : (i + m).toInt = i.toInt + m.toInt := by rw [an_add (by omega) (by omega)]
        have hl9 := l92
        rw [hb89v, him9, rBy_lo hR (by omega)] at hl9
        have hlw := hl9.2
        unfold tkLo at hlw
        have hbv2 : b110.toInt = kB μ 77 (i.toInt + m.toInt) := by rw [hb110v, him9, rBy_v hl9.1 (by omega)]
        have hm8 : m.toInt < 8 := by have e8 : (8 : Int32).toInt = 8 := (by decide); omega
        have hnv := hnm (by omega)
        have hdd := tkEs_d (B := kB μ 77) (i := i.toInt) (s := m.toInt.toNat) (fun j hj => hrn _ (by omega) (by omega))
        have hq := qzR_nn hdd
        rw [tkEs_len] at hq
        have hp7 : (27 : Int) ^ m.toInt.toNat ≤ 10460353203 := by
          have : m.toInt.toNat = 0 ∨ m.toInt.toNat = 1 ∨ m.toInt.toNat = 2 ∨ m.toInt.toNat = 3 ∨ m.toInt.toNat = 4 ∨ m.toInt.toNat = 5 ∨ m.toInt.toNat = 6 ∨ m.toInt.toNat = 7 := by omega
          rcases this with e | e | e | e | e | e | e | e <;> rw [e] <;> decide
        obtain ⟨nm2, rfl, hap2, hm113⟩ := ex_appends hE113 (by unfold tkLo; omega) (by omega) (by omega)
        rw [hm113] at h
        replace h : eT xq_214 _ 116 [some (.inr (.inl (some 75))), some (.inl i), some (.inl c), some (.inl m), some (.inr (.inr nm)), none, o6, o7] [.inr (.inr nm2)] ω r μ' := h
        replace h := tx_lstore (p' := 118) h em214_116 rfl
        replace h : eT xq_214 _ 118 [some (.inr (.inl (some 75))), some (.inl i), some (.inl c), some (.inl m), some (.inr (.inr nm2)), none, o6, o7] [] ω r μ' := h
        replace h := tx_iinc (v := 1) (p' := 121) h em214_118 (by decide +kernel) rfl rfl
        replace h : eT xq_214 _ 121 [some (.inr (.inl (some 75))), some (.inl i), some (.inl c), some (.inl (m + 1)), some (.inr (.inr nm2)), none, o6, o7] [] ω r μ' := h
        obtain ⟨n2, hn2, h⟩ := tx_gotoS (t := 85) h em214_121 (by decide)
        have hm1 : (m + 1).toInt = m.toInt + 1 := by rw [an_add (by rw [e1i]; omega) (by rw [e1i]; omega), e1i]
        have him : (i + m).toInt = i.toInt + m.toInt := by rw [an_add (by omega) (by omega)]
        rw [him] at hb89v
        rw [hb89v, rBy_lo hR (by omega)] at l92
        have hrn2 : ∀ k, i.toInt ≤ k → k < i.toInt + (m.toInt + 1) → tkLo (kB μ 77 k) := fun k k0 k1 => by
          by_cases q : k = i.toInt + m.toInt
          · rw [q]; exact l92.2
          · exact hrn k k0 (by omega)
        refine jh n2 hn2 _ _ (fun n3 h3 => ih n3 (by omega)) h (by omega) (by rw [hm1]; omega) (by rw [hm1]; exact hrn2) ?_
        rw [hm1]
        intro q
        rw [hap2, hnv, hbv2, show (m.toInt + 1).toNat = m.toInt.toNat + 1 by omega]
        show _ = 27 * qzR (tkEs (kB μ 77) i.toInt m.toInt.toNat) + (kB μ 77 (i.toInt + (m.toInt.toNat : Nat)) - 96)
        rw [show i.toInt + ((m.toInt.toNat : Nat) : Int) = i.toInt + m.toInt by omega]
  · rw [hm92] at h
    replace h : eT xq_214 _ 95 [some (.inr (.inl (some 75))), some (.inl i), some (.inl c), some (.inl m), some (.inr (.inr nm)), none, o6, o7] [.inl (0 : Int32)] ω r μ' := h
    rcases tx_if (t := 124) (p' := 98) h em214_95 (by decide) rfl with ⟨c95_1, h⟩ | ⟨c95_1, h⟩
    · replace c95_1 : (0 : Int) = (0 : Int) := c95_1
      replace h := tx_iload_n (p' := 125) h em214_124 rfl rfl
      replace h := tx_bipush (v := 8) (p' := 127) h em214_125 (by decide +kernel) rfl
      rcases tx_icmp (t := 134) (p' := 130) h em214_127 (by decide) rfl with ⟨c127, h⟩ | ⟨c127, h⟩
      · replace c127 : m.toInt ≤ 8 := c127
        replace h := tx_iconst (v := 1) (p' := 135) h em214_134 (by decide +kernel) rfl
        replace h := tx_istore (p' := 137) h em214_135 rfl
        replace h : eT xq_214 _ 137 [some (.inr (.inl (some 75))), some (.inl i), some (.inl c), some (.inl m), some (.inr (.inr nm)), none, some (.inl (1 : Int32)), o7] [] ω r μ' := h
        replace h := tx_iload_n (p' := 138) h em214_137 rfl rfl
        replace h := tx_bipush (v := 8) (p' := 140) h em214_138 (by decide +kernel) rfl
        rcases tx_icmp (t := 179) (p' := 143) h em214_140 (by decide) rfl with ⟨c140, h⟩ | ⟨c140, h⟩
        · replace c140 : 8 < m.toInt := c140
          have him : (i + m).toInt = i.toInt + m.toInt := by rw [an_add (by omega) (by omega)]
          have e8 : (8 : Int32).toInt = 8 := by decide
          rw [him] at hb89v
          rw [hb89v, rBy_lo hR (by omega)] at l92
          have hm1 : 1 ≤ m.toInt := by
            by_cases q : m.toInt = 0
            · exfalso
              apply l92
              rw [q, Int.add_zero]
              exact ⟨hiN, hlo⟩
            · omega
          have hrn3 : tkRn (kB μ 77) (rN μ) i.toInt m.toInt tkLo := ⟨hrn, fun q q2 => l92 ⟨q, q2⟩⟩
          exfalso
          omega
        · replace c140 : ¬ 8 < m.toInt := c140
          replace h := tx_iconst (v := 0) (p' := 144) h em214_143 (by decide +kernel) rfl
          replace h := tx_istore (p' := 146) h em214_144 rfl
          replace h : eT xq_214 _ 146 [some (.inr (.inl (some 75))), some (.inl i), some (.inl c), some (.inl m), some (.inr (.inr nm)), none, some (.inl (1 : Int32)), some (.inl (0 : Int32))] [] ω r μ' := h
          have him : (i + m).toInt = i.toInt + m.toInt := by rw [an_add (by omega) (by omega)]
          have e8 : (8 : Int32).toInt = 8 := by decide
          rw [him] at hb89v
          rw [hb89v, rBy_lo hR (by omega)] at l92
          have hm1 : 1 ≤ m.toInt := by
            by_cases q : m.toInt = 0
            · exfalso
              apply l92
              rw [q, Int.add_zero]
              exact ⟨hiN, hlo⟩
            · omega
          have hrn3 : tkRn (kB μ 77) (rN μ) i.toInt m.toInt tkLo := ⟨hrn, fun q q2 => l92 ⟨q, q2⟩⟩
          exact cut_146 hn hR hKey hL hi0 hiN h4 hnb hlo hm1 hmN hrn3 hnm (by omega) _ _ _ ih h (by decide) (by decide) (Or.inl ⟨by decide, fun w hw => by have hw : (w : Int) < 0 := hw; omega⟩)
      · replace c127 : ¬ m.toInt ≤ 8 := c127
        replace h := tx_iconst (v := 3) (p' := 131) h em214_130 (by decide +kernel) rfl
        replace h := tx_goto (t := 135) h em214_131 (by decide)
        replace h := tx_istore (p' := 137) h em214_135 rfl
        replace h : eT xq_214 _ 137 [some (.inr (.inl (some 75))), some (.inl i), some (.inl c), some (.inl m), some (.inr (.inr nm)), none, some (.inl (3 : Int32)), o7] [] ω r μ' := h
        replace h := tx_iload_n (p' := 138) h em214_137 rfl rfl
        replace h := tx_bipush (v := 8) (p' := 140) h em214_138 (by decide +kernel) rfl
        rcases tx_icmp (t := 179) (p' := 143) h em214_140 (by decide) rfl with ⟨c140_1, h⟩ | ⟨c140_1, h⟩
        · replace c140_1 : 8 < m.toInt := c140_1
          have him : (i + m).toInt = i.toInt + m.toInt := by rw [an_add (by omega) (by omega)]
          have e8 : (8 : Int32).toInt = 8 := by decide
          rw [him] at hb89v
          rw [hb89v, rBy_lo hR (by omega)] at l92
          have hm1 : 1 ≤ m.toInt := by
            by_cases q : m.toInt = 0
            · exfalso
              apply l92
              rw [q, Int.add_zero]
              exact ⟨hiN, hlo⟩
            · omega
          have hrn3 : tkRn (kB μ 77) (rN μ) i.toInt m.toInt tkLo := ⟨hrn, fun q q2 => l92 ⟨q, q2⟩⟩
          exact cut_179 hn hR hKey ih hL hi0 hiN h4 hnb hlo hm1 hmN hrn3 hnm (Or.inl ⟨hlo, by omega, by decide⟩) h
        · replace c140_1 : ¬ 8 < m.toInt := c140_1
          replace h := tx_iconst (v := 0) (p' := 144) h em214_143 (by decide +kernel) rfl
          replace h := tx_istore (p' := 146) h em214_144 rfl
          replace h : eT xq_214 _ 146 [some (.inr (.inl (some 75))), some (.inl i), some (.inl c), some (.inl m), some (.inr (.inr nm)), none, some (.inl (3 : Int32)), some (.inl (0 : Int32))] [] ω r μ' := h
          have him : (i + m).toInt = i.toInt + m.toInt := by rw [an_add (by omega) (by omega)]
          have e8 : (8 : Int32).toInt = 8 := by decide
          rw [him] at hb89v
          rw [hb89v, rBy_lo hR (by omega)] at l92
          have hm1 : 1 ≤ m.toInt := by
            by_cases q : m.toInt = 0
            · exfalso
              apply l92
              rw [q, Int.add_zero]
              exact ⟨hiN, hlo⟩
            · omega
          have hrn3 : tkRn (kB μ 77) (rN μ) i.toInt m.toInt tkLo := ⟨hrn, fun q q2 => l92 ⟨q, q2⟩⟩
          exfalso
          omega
    · replace c95_1 : ¬ (0 : Int) = (0 : Int) := c95_1
      exfalso
      omega
set_option maxRecDepth 10000 in
set_option maxHeartbeats 4000000 in
theorem cut_7 {μ μ' : xM} {r : Option zV} (hn : rN μ ≤ 2000) (hR : rBR (kB μ 77) (rN μ)) (hKey : ∀ j : Nat, j < 21 → (μ.2.1 82 j).toInt = wKey j) : ∀ (n : Nat), ∀ (i : Int32) (ω : xM) (o2 o3 o4 o5 o6 o7 : Option zV), eT xq_214 n 7 [some (.inr (.inl (some 75))), some (.inl i), o2, o3, o4, o5, o6, o7] [] ω r μ' → 0 ≤ i.toInt → rkL μ ω i.toInt → rkQ μ r μ' := by
  have e1i : (1 : Int32).toInt = 1 := by decide
  intro n
  induction n using Nat.strongRecOn with
  | ind n ih =>
  intro i ω o2 o3 o4 o5 o6 o7 h hi0 hL
  replace h := tx_aload_n (p' := 8) h em214_7 rfl rfl
  replace h := tx_getf (c := 12) (j := 24) (p' := 11) h em214_8 ((congrFun xo_12 178).trans rfl) rfl rfl (by decide) rfl
  replace h := tx_sipush (v := 400) (p' := 14) h em214_11 (by decide +kernel) rfl
  rcases tx_icmp (t := 294) (p' := 17) h em214_14 (by decide) rfl with ⟨c14, h⟩ | ⟨c14, h⟩
  · replace c14 : 400 < (ω.1 75 24).toInt := c14
    obtain ⟨rfl, hμ⟩ := tx_return h em214_294
    obtain ⟨hF, t, e0, S, h1, h2, h3, h5, h6, h7⟩ := hL
    have ht : t = 400 + 1 := by omega
    rw [ht] at h3 h7
    rw [hμ]
    exact ⟨rfl, hF, 400, S, tkIn_l h3 ⟨by omega, by omega⟩, fun q => by omega, h7⟩
  · replace c14 : ¬ 400 < (ω.1 75 24).toInt := c14
    replace h := tx_aload_n (p' := 18) h em214_17 rfl rfl
    replace h := tx_iload_n (p' := 19) h em214_18 rfl rfl
    obtain ⟨r19, μ19, hE19, h⟩ := tx_invV (na := 2) (mn := 211) (as := [.inr (.inl (some 75)), .inl i]) (rest := []) (p' := 22) h em214_19 ((congrFun xo_12 181).trans rfl) xm_211 rfl rfl
    obtain ⟨b19, rfl, hb19v, hm19⟩ := ex_byteAt hE19
    rw [hm19] at h
    rw [(rkF_B hL.1).1, (rkF_B hL.1).2] at hb19v
    replace h : eT xq_214 _ 22 [some (.inr (.inl (some 75))), some (.inl i), o2, o3, o4, o5, o6, o7] [.inl b19] ω r μ' := h
    replace h := tx_istore_n (p' := 23) h em214_22 rfl
    replace h : eT xq_214 _ 23 [some (.inr (.inl (some 75))), some (.inl i), some (.inl b19), o3, o4, o5, o6, o7] [] ω r μ' := h
    replace h := tx_iload_n (p' := 24) h em214_23 rfl rfl
    replace h := tx_aload_n (p' := 25) h em214_24 rfl rfl
    replace h := tx_getf (c := 12) (j := 18) (p' := 28) h em214_25 ((congrFun xo_12 169).trans rfl) rfl rfl (by decide) rfl
    rcases tx_icmp (t := 43) (p' := 31) h em214_28 (by decide) rfl with ⟨c28, h⟩ | ⟨c28, h⟩
    · replace c28 : i.toInt < (ω.1 75 18).toInt := c28
      replace h := tx_iload_n (p' := 44) h em214_43 rfl rfl
      replace h := tx_bipush (v := 9) (p' := 46) h em214_44 (by decide +kernel) rfl
      rcases tx_icmp (t := 67) (p' := 49) h em214_46 (by decide) rfl with ⟨c46, h⟩ | ⟨c46, h⟩
      · replace c46 : b19.toInt = 9 := c46
        replace h := tx_iinc (v := 1) (p' := 70) h em214_67 (by decide +kernel) rfl rfl
        replace h : eT xq_214 _ 70 [some (.inr (.inl (some 75))), some (.inl (i + 1)), some (.inl b19), o3, o4, o5, o6, o7] [] ω r μ' := h
        replace h := tx_goto (t := 291) h em214_70 (by decide)
        obtain ⟨n2, hn2, h⟩ := tx_gotoS (t := 7) h em214_291 (by decide)
        have hNN : (ω.1 75 18).toInt = rN μ := (rkF_B hL.1).2
        have hiN : i.toInt < rN μ := by omega
        have hbl := rBy_bl hR hi0 hiN
        rw [← hb19v] at hbl
        have hi1 : (i + 1).toInt = i.toInt + 1 := by rw [an_add (by rw [e1i]; omega) (by rw [e1i]; omega), e1i]
        have hb : tkBl (kB μ 77 i.toInt) := hbl.mp (by unfold tkBl; omega)
        refine ih n2 hn2 _ _ _ _ _ _ _ _ h (by omega) ?_
        rw [hi1]
        obtain ⟨hF, t, e0, S, h1, h2, h3, h5, h6, h7⟩ := hL
        refine ⟨hF, t, e0, S, h1, h2, h3, ⟨by omega, by omega⟩, fun k k0 k1 => ?_, h7⟩
        by_cases q : k = i.toInt
        · rw [q]; exact hb
        · exact h6 k k0 (by omega)
      · replace c46 : ¬ b19.toInt = 9 := c46
        replace h := tx_iload_n (p' := 50) h em214_49 rfl rfl
        replace h := tx_bipush (v := 10) (p' := 52) h em214_50 (by decide +kernel) rfl
        rcases tx_icmp (t := 67) (p' := 55) h em214_52 (by decide) rfl with ⟨c52, h⟩ | ⟨c52, h⟩
        · replace c52 : b19.toInt = 10 := c52
          replace h := tx_iinc (v := 1) (p' := 70) h em214_67 (by decide +kernel) rfl rfl
          replace h : eT xq_214 _ 70 [some (.inr (.inl (some 75))), some (.inl (i + 1)), some (.inl b19), o3, o4, o5, o6, o7] [] ω r μ' := h
          replace h := tx_goto (t := 291) h em214_70 (by decide)
          obtain ⟨n2, hn2, h⟩ := tx_gotoS (t := 7) h em214_291 (by decide)
          have hNN : (ω.1 75 18).toInt = rN μ := (rkF_B hL.1).2
          have hiN : i.toInt < rN μ := by omega
          have hbl := rBy_bl hR hi0 hiN
          rw [← hb19v] at hbl
          have hi1 : (i + 1).toInt = i.toInt + 1 := by rw [an_add (by rw [e1i]; omega) (by rw [e1i]; omega), e1i]
          have hb : tkBl (kB μ 77 i.toInt) := hbl.mp (by unfold tkBl; omega)
          refine ih n2 hn2 _ _ _ _ _ _ _ _ h (by omega) ?_
          rw [hi1]
          obtain ⟨hF, t, e0, S, h1, h2, h3, h5, h6, h7⟩ := hL
          refine ⟨hF, t, e0, S, h1, h2, h3, ⟨by omega, by omega⟩, fun k k0 k1 => ?_, h7⟩
          by_cases q : k = i.toInt
          · rw [q]; exact hb
          · exact h6 k k0 (by omega)
        · replace c52 : ¬ b19.toInt = 10 := c52
          replace h := tx_iload_n (p' := 56) h em214_55 rfl rfl
          replace h := tx_bipush (v := 13) (p' := 58) h em214_56 (by decide +kernel) rfl
          rcases tx_icmp (t := 67) (p' := 61) h em214_58 (by decide) rfl with ⟨c58, h⟩ | ⟨c58, h⟩
          · replace c58 : b19.toInt = 13 := c58
            replace h := tx_iinc (v := 1) (p' := 70) h em214_67 (by decide +kernel) rfl rfl
            replace h : eT xq_214 _ 70 [some (.inr (.inl (some 75))), some (.inl (i + 1)), some (.inl b19), o3, o4, o5, o6, o7] [] ω r μ' := h
            replace h := tx_goto (t := 291) h em214_70 (by decide)
            obtain ⟨n2, hn2, h⟩ := tx_gotoS (t := 7) h em214_291 (by decide)
            have hNN : (ω.1 75 18).toInt = rN μ := (rkF_B hL.1).2
            have hiN : i.toInt < rN μ := by omega
            have hbl := rBy_bl hR hi0 hiN
            rw [← hb19v] at hbl
            have hi1 : (i + 1).toInt = i.toInt + 1 := by rw [an_add (by rw [e1i]; omega) (by rw [e1i]; omega), e1i]
            have hb : tkBl (kB μ 77 i.toInt) := hbl.mp (by unfold tkBl; omega)
            refine ih n2 hn2 _ _ _ _ _ _ _ _ h (by omega) ?_
            rw [hi1]
            obtain ⟨hF, t, e0, S, h1, h2, h3, h5, h6, h7⟩ := hL
            refine ⟨hF, t, e0, S, h1, h2, h3, ⟨by omega, by omega⟩, fun k k0 k1 => ?_, h7⟩
            by_cases q : k = i.toInt
            · rw [q]; exact hb
            · exact h6 k k0 (by omega)
          · replace c58 : ¬ b19.toInt = 13 := c58
            replace h := tx_iload_n (p' := 62) h em214_61 rfl rfl
            replace h := tx_bipush (v := 32) (p' := 64) h em214_62 (by decide +kernel) rfl
            rcases tx_icmp (t := 73) (p' := 67) h em214_64 (by decide) rfl with ⟨c64, h⟩ | ⟨c64, h⟩
            · replace c64 : ¬ b19.toInt = 32 := c64
              replace h := tx_iload_n (p' := 74) h em214_73 rfl rfl
              obtain ⟨r74, μ74, hE74, h⟩ := tx_invS (na := 1) (mn := 213) (as := [.inl b19]) (rest := []) (p' := 77) h em214_74 ((congrFun xo_12 189).trans rfl) xm_213 rfl rfl
              rcases ex_isLetter hE74 with ⟨rfl, l74, hm74⟩ | ⟨rfl, l74, hm74⟩
              · rw [hm74] at h
                replace h : eT xq_214 _ 77 [some (.inr (.inl (some 75))), some (.inl i), some (.inl b19), o3, o4, o5, o6, o7] [.inl (1 : Int32)] ω r μ' := h
                rcases tx_if (t := 196) (p' := 80) h em214_77 (by decide) rfl with ⟨c77, h⟩ | ⟨c77, h⟩
                · replace c77 : (1 : Int) = (0 : Int) := c77
                  exfalso
                  omega
                · replace c77 : ¬ (1 : Int) = (0 : Int) := c77
                  replace h := tx_iconst (v := 0) (p' := 81) h em214_80 (by decide +kernel) rfl
                  replace h := tx_istore_n (p' := 82) h em214_81 rfl
                  replace h : eT xq_214 _ 82 [some (.inr (.inl (some 75))), some (.inl i), some (.inl b19), some (.inl (0 : Int32)), o4, o5, o6, o7] [] ω r μ' := h
                  replace h := tx_lconst (v := 0) (p' := 83) h em214_82 (by decide +kernel) rfl
                  replace h := tx_lstore (p' := 85) h em214_83 rfl
                  replace h : eT xq_214 _ 85 [some (.inr (.inl (some 75))), some (.inl i), some (.inl b19), some (.inl (0 : Int32)), some (.inr (.inr (0 : Int64))), none, o6, o7] [] ω r μ' := h
                  have hNN : (ω.1 75 18).toInt = rN μ := (rkF_B hL.1).2
                  have hiN : i.toInt < rN μ := by omega
                  have hbl := rBy_bl hR hi0 hiN
                  rw [← hb19v] at hbl
                  have hnb : ¬ tkBl (kB μ 77 i.toInt) := fun q => by have q2 := hbl.mpr q; unfold tkBl at q2; omega
                  have hlo2 := rBy_lo hR hi0
                  have hdi2 := rBy_di hR hi0
                  rw [← hb19v] at hlo2 hdi2
                  have h400 : (ω.1 75 24).toInt ≤ 400 := by omega
                  exact cut_85 hn hR hKey hL hi0 hiN h400 hnb (hlo2.mp l74).2 _ _ _ ih h (by decide) (by show i.toInt + 0 ≤ _; omega) (fun k k0 k1 => by have k1 : k < i.toInt + 0 := k1; omega) (fun _ => rfl)
              · rw [hm74] at h
                replace h : eT xq_214 _ 77 [some (.inr (.inl (some 75))), some (.inl i), some (.inl b19), o3, o4, o5, o6, o7] [.inl (0 : Int32)] ω r μ' := h
                rcases tx_if (t := 196) (p' := 80) h em214_77 (by decide) rfl with ⟨c77_1, h⟩ | ⟨c77_1, h⟩
                · replace c77_1 : (0 : Int) = (0 : Int) := c77_1
                  replace h := tx_iload_n (p' := 197) h em214_196 rfl rfl
                  obtain ⟨r197, μ197, hE197, h⟩ := tx_invS (na := 1) (mn := 212) (as := [.inl b19]) (rest := []) (p' := 200) h em214_197 ((congrFun xo_12 193).trans rfl) xm_212 rfl rfl
                  rcases ex_risDigit hE197 with ⟨rfl, d197, hm197⟩ | ⟨rfl, d197, hm197⟩
                  · rw [hm197] at h
                    replace h : eT xq_214 _ 200 [some (.inr (.inl (some 75))), some (.inl i), some (.inl b19), o3, o4, o5, o6, o7] [.inl (1 : Int32)] ω r μ' := h
                    rcases tx_if (t := 275) (p' := 203) h em214_200 (by decide) rfl with ⟨c200, h⟩ | ⟨c200, h⟩
                    · replace c200 : (1 : Int) = (0 : Int) := c200
                      exfalso
                      omega
                    · replace c200 : ¬ (1 : Int) = (0 : Int) := c200
                      replace h := tx_iconst (v := 0) (p' := 204) h em214_203 (by decide +kernel) rfl
                      replace h := tx_istore_n (p' := 205) h em214_204 rfl
                      replace h : eT xq_214 _ 205 [some (.inr (.inl (some 75))), some (.inl i), some (.inl b19), some (.inl (0 : Int32)), o4, o5, o6, o7] [] ω r μ' := h
                      replace h := tx_iconst (v := 0) (p' := 206) h em214_205 (by decide +kernel) rfl
                      replace h := tx_istore (p' := 208) h em214_206 rfl
                      replace h : eT xq_214 _ 208 [some (.inr (.inl (some 75))), some (.inl i), some (.inl b19), some (.inl (0 : Int32)), some (.inl (0 : Int32)), o5, o6, o7] [] ω r μ' := h
                      have hNN : (ω.1 75 18).toInt = rN μ := (rkF_B hL.1).2
                      have hiN : i.toInt < rN μ := by omega
                      have hbl := rBy_bl hR hi0 hiN
                      rw [← hb19v] at hbl
                      have hnb : ¬ tkBl (kB μ 77 i.toInt) := fun q => by have q2 := hbl.mpr q; unfold tkBl at q2; omega
                      have hlo2 := rBy_lo hR hi0
                      have hdi2 := rBy_di hR hi0
                      rw [← hb19v] at hlo2 hdi2
                      have h400 : (ω.1 75 24).toInt ≤ 400 := by omega
                      exact cut_digits hn hR hL hi0 hiN h400 hnb (hdi2.mp d197).2 _ _ _ ih h (by decide) (by show i.toInt + 0 ≤ _; omega) (fun k k0 k1 => by have k1 : k < i.toInt + 0 := k1; omega) (fun _ => rfl)
                  · rw [hm197] at h
                    replace h : eT xq_214 _ 200 [some (.inr (.inl (some 75))), some (.inl i), some (.inl b19), o3, o4, o5, o6, o7] [.inl (0 : Int32)] ω r μ' := h
                    rcases tx_if (t := 275) (p' := 203) h em214_200 (by decide) rfl with ⟨c200_1, h⟩ | ⟨c200_1, h⟩
                    · replace c200_1 : (0 : Int) = (0 : Int) := c200_1
                      have hNN : (ω.1 75 18).toInt = rN μ := (rkF_B hL.1).2
                      have hiN : i.toInt < rN μ := by omega
                      have hbl := rBy_bl hR hi0 hiN
                      rw [← hb19v] at hbl
                      have hnb : ¬ tkBl (kB μ 77 i.toInt) := fun q => by have q2 := hbl.mpr q; unfold tkBl at q2; omega
                      have hlo2 := rBy_lo hR hi0
                      have hdi2 := rBy_di hR hi0
                      rw [← hb19v] at hlo2 hdi2
                      have h400 : (ω.1 75 24).toInt ≤ 400 := by omega
                      exact cut_sign hn hR hKey ih hL hi0 hiN h400 hnb hb19v (fun q => l74 (hlo2.mpr ⟨hiN, q⟩)) (fun q => d197 (hdi2.mpr ⟨hiN, q⟩)) h
                    · replace c200_1 : ¬ (0 : Int) = (0 : Int) := c200_1
                      exfalso
                      omega
                · replace c77_1 : ¬ (0 : Int) = (0 : Int) := c77_1
                  exfalso
                  omega
            · replace c64 : ¬ ¬ b19.toInt = 32 := c64
              replace h := tx_iinc (v := 1) (p' := 70) h em214_67 (by decide +kernel) rfl rfl
              replace h : eT xq_214 _ 70 [some (.inr (.inl (some 75))), some (.inl (i + 1)), some (.inl b19), o3, o4, o5, o6, o7] [] ω r μ' := h
              replace h := tx_goto (t := 291) h em214_70 (by decide)
              obtain ⟨n2, hn2, h⟩ := tx_gotoS (t := 7) h em214_291 (by decide)
              have hNN : (ω.1 75 18).toInt = rN μ := (rkF_B hL.1).2
              have hiN : i.toInt < rN μ := by omega
              have hbl := rBy_bl hR hi0 hiN
              rw [← hb19v] at hbl
              have hi1 : (i + 1).toInt = i.toInt + 1 := by rw [an_add (by rw [e1i]; omega) (by rw [e1i]; omega), e1i]
              have hb : tkBl (kB μ 77 i.toInt) := hbl.mp (by unfold tkBl; omega)
              refine ih n2 hn2 _ _ _ _ _ _ _ _ h (by omega) ?_
              rw [hi1]
              obtain ⟨hF, t, e0, S, h1, h2, h3, h5, h6, h7⟩ := hL
              refine ⟨hF, t, e0, S, h1, h2, h3, ⟨by omega, by omega⟩, fun k k0 k1 => ?_, h7⟩
              by_cases q : k = i.toInt
              · rw [q]; exact hb
              · exact h6 k k0 (by omega)
    · replace c28 : ¬ i.toInt < (ω.1 75 18).toInt := c28
      replace h := tx_aload_n (p' := 32) h em214_31 rfl rfl
      replace h := tx_iconst (v := 0) (p' := 33) h em214_32 (by decide +kernel) rfl
      replace h := tx_aload_n (p' := 34) h em214_33 rfl rfl
      replace h := tx_getf (c := 12) (j := 18) (p' := 37) h em214_34 ((congrFun xo_12 169).trans rfl) rfl rfl (by decide) rfl
      replace h := tx_iconst (v := 0) (p' := 38) h em214_37 (by decide +kernel) rfl
      replace h := tx_lconst (v := 0) (p' := 39) h em214_38 (by decide +kernel) rfl
      obtain ⟨r39, μ39, hE39, h⟩ := tx_invV (na := 5) (mn := 215) (as := [.inr (.inl (some 75)), .inl (0 : Int32), .inl (ω.1 75 18), .inl (0 : Int32), .inr (.inr (0 : Int64))]) (rest := []) (p' := 42) h em214_39 ((congrFun xo_12 185).trans rfl) xm_215 rfl rfl
      obtain ⟨rfl, hm39⟩ := ex_token hE39
      replace h : eT xq_214 _ 42 [some (.inr (.inl (some 75))), some (.inl i), some (.inl b19), o3, o4, o5, o6, o7] [] μ39 r μ' := h
      obtain ⟨rfl, hμ⟩ := tx_return h em214_42
      obtain ⟨hF, t, e0, S, h1, h2, h3, h5, h6, h7⟩ := hL
      have e400 : t ≤ 400 := by omega
      obtain ⟨w1, ⟨w2, w3, w4, w5⟩, w6, w7⟩ := rk_w hm39 h1 ⟨h3.2.2.2.2.1, by omega⟩
      have hNN : (ω.1 75 18).toInt = rN μ := (rkF_B hF).2
      have hiN : i.toInt = rN μ := by omega
      rw [hμ]
      refine ⟨rfl, rkF_tr hF w7, t, S, tkIn_e h3 e400 ?_ (fun a a0 a1 => ⟨(w1 a a0 a1).1, rfl, (w1 a a0 a1).2.1⟩) ⟨w2.trans hNN, w3.trans (by decide)⟩, fun _ => w3.trans (by decide), fun a a0 a1 => ?_⟩
      · exact ⟨⟨by omega, Int.le_refl _⟩, fun k k0 k1 => h6 k k0 (by omega), fun q => by omega⟩
      · by_cases q : a = t
        · subst q
          exact ⟨fun q => by rw [w3] at q; exact absurd q (by decide), fun q => absurd (w3.trans (by decide)) q⟩
        · obtain ⟨g1, g2, g3, g4⟩ := w1 a a0 (by omega)
          rw [g1, g2, g3, g4]
          exact h7 a a0 (by omega)
set_option maxRecDepth 10000 in
set_option maxHeartbeats 4000000 in
theorem ex_cut {μ μ' : xM} {r : Option zV} (h0 : Ex gx xq_214 [.inr (.inl (some 75))] μ r μ') (hn0 : 0 ≤ rN μ) (hn : rN μ ≤ 2000) (hR : rBR (kB μ 77) (rN μ)) (hKey : ∀ j : Nat, j < 21 → (μ.2.1 82 j).toInt = wKey j) : rkQ μ r μ' := by
  obtain ⟨n, h⟩ := tx_in (L := [some (.inr (.inl (some 75))), none, none, none, none, none, none, none]) h0 rfl
  replace h := tx_aload_n (p' := 1) h em214_0 rfl rfl
  replace h := tx_iconst (v := 0) (p' := 2) h em214_1 (by decide +kernel) rfl
  replace h := tx_putf (a := 75) (c := 12) (j := 24) (p' := 5) h em214_2 ((congrFun xo_12 178).trans rfl) rfl
  replace h := tx_iconst (v := 0) (p' := 6) h em214_5 (by decide +kernel) rfl
  replace h := tx_istore_n (p' := 7) h em214_6 rfl
  replace h : eT xq_214 _ 7 [some (.inr (.inl (some 75))), some (.inl (0 : Int32)), none, none, none, none, none, none] [] (xpi μ 75 24 (0 : Int32)) r μ' := h
  have hF0 : rkF μ (xpi μ 75 24 (0 : Int32)) := ⟨fun k j a _ _ _ => xpi_ne (fun q => a q.1), fun j a => xpi_ne (fun q => a q.2), fun _ _ _ => rfl, rfl⟩
  refine cut_7 hn hR hKey _ _ _ _ _ _ _ _ _ h (by decide) ⟨hF0, 0, 0, fun _ => 0, by rw [xpi_at]; decide, by decide, tkIn_0 hn0, ⟨Int.le_refl 0, hn0⟩, fun k k0 k1 => ?_, fun a a0 a1 => by omega⟩
  have k1 : k < 0 := k1
  omega
