/-! ===== TELLINGS OF THE REFERENCE ===== -/
def rW (μ : xM) : Int × Int := ((μ.1 75 29).toInt, (μ.1 75 30).toInt)
def rVl (μ : xM) (a : Int) : Int := (μ.1 80 a.toNat).toInt
def rNm (μ : xM) (a : Int) : Int := (μ.2.1 81 a.toNat).toInt
/-- a name as a number: its letters' numbers, the last one first -/
def qzR : List Int → Int
  | [] => 0
  | d :: t => 27 * qzR t + d
def qzD (es : List Int) : Prop := (∀ d, d ∈ es → 1 ≤ d ∧ d ≤ 26) ∧ es.length ≤ 8
theorem qzR_nn : ∀ {es : List Int}, (∀ d, d ∈ es → 1 ≤ d ∧ d ≤ 26) → 0 ≤ qzR es ∧ qzR es < 27 ^ es.length
  | [], _ => by unfold qzR; exact ⟨Int.le_refl 0, by show (0 : Int) < 27 ^ 0; decide⟩
  | d :: t, h => by
    have h1 := qzR_nn (es := t) (fun x hx => h x (List.mem_cons_of_mem _ hx))
    have h2 := h d List.mem_cons_self
    unfold qzR
    rw [List.length_cons, Int.pow_succ]
    omega
theorem qzR_dm {d : Int} {t : List Int} (h : 1 ≤ d ∧ d ≤ 26) (ht : 0 ≤ qzR t) : qzR (d :: t) / 27 = qzR t ∧ qzR (d :: t) % 27 = d := by
  have e : qzR (d :: t) = 27 * qzR t + d := rfl
  rw [e]
  omega
theorem qzR_inj : ∀ {es fs : List Int}, (∀ d, d ∈ es → 1 ≤ d ∧ d ≤ 26) → (∀ d, d ∈ fs → 1 ≤ d ∧ d ≤ 26) → qzR es = qzR fs → es = fs
  | [], [], _, _, _ => rfl
  | [], d :: t, _, h, e => by
    have h1 := (qzR_nn (es := t) (fun x hx => h x (List.mem_cons_of_mem _ hx))).1
    have h2 := h d List.mem_cons_self
    unfold qzR at e
    omega
  | d :: t, [], h, _, e => by
    have h1 := (qzR_nn (es := t) (fun x hx => h x (List.mem_cons_of_mem _ hx))).1
    have h2 := h d List.mem_cons_self
    unfold qzR at e
    omega
  | d :: t, c :: s, h, g, e => by
    have h0 := fun x hx => h x (List.mem_cons_of_mem d hx)
    have g0 := fun x hx => g x (List.mem_cons_of_mem c hx)
    have h1 := qzR_dm (h d List.mem_cons_self) (qzR_nn h0).1
    have g1 := qzR_dm (g c List.mem_cons_self) (qzR_nn g0).1
    rw [e] at h1
    have e1 : d = c := h1.2.symm.trans g1.2
    have e2 : t = s := qzR_inj h0 g0 (h1.1.symm.trans g1.1)
    rw [e1, e2]
theorem qzR_hi {es : List Int} (h : qzD es) : qzR es < 282429536481 := by
  have h1 := (qzR_nn h.1).2
  have h2 := h.2
  have h3 : (27 : Int) ^ es.length ≤ 282429536481 := by
    have : es.length = 0 ∨ es.length = 1 ∨ es.length = 2 ∨ es.length = 3 ∨ es.length = 4 ∨ es.length = 5 ∨ es.length = 6 ∨ es.length = 7 ∨ es.length = 8 := by omega
    rcases this with e | e | e | e | e | e | e | e | e <;> rw [e] <;> decide
  omega
/-- all its letters are a .. h -/
def qzL (v : Int) : Prop := ∃ es, (∀ d, d ∈ es → 1 ≤ d ∧ d ≤ 8) ∧ v = qzR es
noncomputable def rl (μ : xM) (a : Int) : Bool := bl2 (qzL (rNm μ a))
def rm (μ : xM) (a b : Int) : Bool := decide (rNm μ a = rNm μ b)
/-- the tokens: m: the last one -/
def qzT (μ : xM) (m : Int) : Prop := (0 ≤ m ∧ m ≤ 400) ∧ (m < 400 → rK μ m = 0) ∧ (∀ a, 0 ≤ a → a < m → ¬ rK μ a = 0) ∧ (∀ a b, 0 ≤ a → a < b → b ≤ m → rP μ a < rP μ b) ∧ ∀ a, 0 ≤ a → a ≤ m → (rK μ a = 3 → 0 ≤ rVl μ a ∧ rVl μ a ≤ 9999) ∧ (rK μ a = 2 → ∃ es, qzD es ∧ rNm μ a = qzR es)
/-- what a piece of a telling may change -/
def qzS (μ μ' : xM) : Prop := (∀ k j, k ≠ 75 → ¬ (85 ≤ k ∧ k ≤ 104 ∧ k ≠ 86) → μ'.1 k j = μ.1 k j) ∧ (∀ j, (j < 25 ∨ 30 < j) → j ≠ 43 → j ≠ 49 → j ≠ 53 → j ≠ 55 → μ'.1 75 j = μ.1 75 j) ∧ μ'.2 = μ.2
theorem qzS_rf {μ : xM} : qzS μ μ := ⟨fun _ _ _ _ => rfl, fun _ _ _ _ _ _ => rfl, rfl⟩
theorem qzS_tr {μ ν μ' : xM} (h1 : qzS μ ν) (h2 : qzS ν μ') : qzS μ μ' := ⟨fun k j a b => (h2.1 k j a b).trans (h1.1 k j a b), fun j a b c d e => (h2.2.1 j a b c d e).trans (h1.2.1 j a b c d e), h2.2.2.trans h1.2.2⟩
theorem qzS_m {μ ν : xM} (h : rM μ ν) : qzS μ ν := ⟨fun k j a _ => h.1 k j a, fun j a _ _ _ _ => h.2.1 j (by omega) (by omega) (by omega), h.2.2⟩
theorem qzS_e {μ ν : xM} (h : rE μ ν) : qzS μ ν := ⟨fun k j a b => h.1 k j a (by omega), fun j a b c _ e => h.2.1 j (by omega) (by omega) (by omega) (by omega) b c e, h.2.2⟩
theorem qzS_f {μ ν : xM} {j : Nat} {v : Int32} (h : qzS μ ν) (hj : (25 ≤ j ∧ j ≤ 30) ∨ j = 43 ∨ j = 49 ∨ j = 53 ∨ j = 55) : qzS μ (xpi ν 75 j v) := ⟨fun k i a b => (xpi_ne (fun q => a q.1)).trans (h.1 k i a b), fun i a b c d e => (xpi_ne (fun q => by omega)).trans (h.2.1 i a b c d e), h.2.2⟩
theorem qzS_c {μ ν : xM} {k j : Nat} {v : Int32} (h : qzS μ ν) (hk : 85 ≤ k ∧ k ≤ 104 ∧ k ≠ 86) : qzS μ (xpi ν k j v) := ⟨fun c i a b => (xpi_ne (fun q => by omega)).trans (h.1 c i a b), fun i a b c d e => (xpi_ne (fun q => by omega)).trans (h.2.1 i a b c d e), h.2.2⟩
theorem qzS_K {μ ν : xM} (h : qzS μ ν) : rK ν = rK μ := by funext a; unfold rK; rw [h.1 78 _ (by decide) (by decide)]
theorem qzS_P {μ ν : xM} (h : qzS μ ν) : rP ν = rP μ := by funext a; unfold rP; rw [h.1 79 _ (by decide) (by decide)]
theorem qzS_V {μ ν : xM} (h : qzS μ ν) : rVl ν = rVl μ := by funext a; unfold rVl; rw [h.1 80 _ (by decide) (by decide)]
theorem qzS_N {μ ν : xM} (h : qzS μ ν) : rNm ν = rNm μ := by funext a; unfold rNm; rw [h.2.2]
theorem qzS_T {μ ν : xM} {m : Int} (h : qzS μ ν) (ht : qzT μ m) : qzT ν m := by
  unfold qzT
  rw [qzS_K h, qzS_P h, qzS_V h, qzS_N h]
  exact ht
/-- a state between pieces -/
def qzI (m : Int) (μ : xM) : Prop := qzT μ m ∧ 0 ≤ rF μ ∧ (rF μ = 0 → 0 ≤ rT μ ∧ rT μ ≤ m ∧ rQ μ = 0 ∧ (¬ (rW μ).1 = 0 → (rW μ).2 < rP μ (rT μ)))
theorem qzI_b {m : Int} {μ : xM} (h : qzI m μ) : rF μ = 0 → 0 ≤ rT μ ∧ rT μ ≤ 400 := fun q => ⟨(h.2.2 q).1, by have h1 := h.1.1.2; have h2 := (h.2.2 q).2.1; omega⟩
/-- a piece: F: where it ends, N: what it notes -/
def qzN (m : Int) (F : pP) (N : Int → Int × Int → Int × Int) (μ μ' : xM) : Prop := qzS μ μ' ∧ (0 < rF μ → rF μ' = rF μ ∧ rV μ' = rV μ) ∧ (rF μ = 0 → rO (F (rT μ)) μ μ' ∧ (rF μ' = 0 → rT μ < rT μ' ∧ rW μ' = N (rT μ) (rW μ))) ∧ qzI m μ'
theorem qz_seq {m : Int} {F G : pP} {N O : Int → Int × Int → Int × Int} {μ ν μ' : xM} (h1 : qzN m F N μ ν) (h2 : qzN m G O ν μ') : qzN m (pSeq F G) (fun a w => O (F a).1 (N a w)) μ μ' := by
  obtain ⟨a1, a2, a3, a4⟩ := h1
  obtain ⟨b1, b2, b3, b4⟩ := h2
  refine ⟨qzS_tr a1 b1, fun q => ?_, fun q => ?_, b4⟩
  · obtain ⟨c1, c2⟩ := a2 q
    obtain ⟨d1, d2⟩ := b2 (by omega)
    exact ⟨by omega, by rw [d2, c2]⟩
  · obtain ⟨c1, c2⟩ := a3 q
    rcases c1 with ⟨d1, d2, d3⟩ | ⟨d1, d2, d3⟩
    · obtain ⟨e1, e2⟩ := b3 d2
      obtain ⟨c3, c4⟩ := c2 d2
      have eP : pSeq F G (rT μ) = G (rT ν) := by unfold pSeq; rw [if_pos d1, d3]
      rw [eP]
      refine ⟨?_, fun q2 => ?_⟩
      · rcases e1 with ⟨f1, f2, f3⟩ | ⟨f1, f2, f3⟩
        · exact Or.inl ⟨f1, f2, f3⟩
        · exact Or.inr ⟨f1, f2, by rw [f3, qzS_P a1]⟩
      · obtain ⟨g1, g2⟩ := e2 q2
        refine ⟨by omega, ?_⟩
        show rW μ' = O (F (rT μ)).1 (N (rT μ) (rW μ))
        rw [← d3, g2, c4]
    · have h0 := a4.2.1
      obtain ⟨e1, e2⟩ := b2 (by omega)
      have eP : pSeq F G (rT μ) = F (rT μ) := by unfold pSeq; rw [if_neg d1]
      rw [eP]
      exact ⟨Or.inr ⟨d1, by omega, by rw [e2, d3]⟩, fun q2 => by omega⟩
/-- what is changed by the way -/
def qzU (μ ν : xM) : Prop := qzS μ ν ∧ rT ν = rT μ ∧ rF ν = rF μ ∧ rV ν = rV μ ∧ rQ ν = rQ μ ∧ rW ν = rW μ
theorem qzU_rf {μ : xM} : qzU μ μ := ⟨qzS_rf, rfl, rfl, rfl, rfl, rfl⟩
theorem qzU_tr {μ ν μ' : xM} (h1 : qzU μ ν) (h2 : qzU ν μ') : qzU μ μ' := ⟨qzS_tr h1.1 h2.1, h2.2.1.trans h1.2.1, h2.2.2.1.trans h1.2.2.1, h2.2.2.2.1.trans h1.2.2.2.1, h2.2.2.2.2.1.trans h1.2.2.2.2.1, h2.2.2.2.2.2.trans h1.2.2.2.2.2⟩
theorem qzU_f {μ ν : xM} {j : Nat} {v : Int32} (h : qzU μ ν) (hj : j = 43 ∨ j = 49 ∨ j = 53 ∨ j = 55) : qzU μ (xpi ν 75 j v) := by
  have e : ∀ i, 25 ≤ i → i ≤ 30 → (xpi ν 75 j v).1 75 i = ν.1 75 i := fun i _ _ => xpi_ne (fun q => by omega)
  refine ⟨qzS_f h.1 (Or.inr hj), ?_⟩
  unfold rT rF rV rQ rW at *
  rw [e 25 (by omega) (by omega), e 26 (by omega) (by omega), e 27 (by omega) (by omega), e 28 (by omega) (by omega), e 29 (by omega) (by omega), e 30 (by omega) (by omega)]
  exact h.2
theorem qzU_c {μ ν : xM} {k j : Nat} {v : Int32} (h : qzU μ ν) (hk : 85 ≤ k ∧ k ≤ 104 ∧ k ≠ 86) : qzU μ (xpi ν k j v) := by
  have e : ∀ i, (xpi ν k j v).1 75 i = ν.1 75 i := fun i => xpi_ne (fun q => by omega)
  refine ⟨qzS_c h.1 hk, ?_⟩
  unfold rT rF rV rQ rW at *
  rw [e 25, e 26, e 27, e 28, e 29, e 30]
  exact h.2
theorem qzU_I {m : Int} {μ ν : xM} (h : qzU μ ν) (hi : qzI m μ) : qzI m ν := by
  obtain ⟨h1, h2, h3, h4, h5, h6⟩ := h
  obtain ⟨i1, i2, i3⟩ := hi
  refine ⟨qzS_T h1 i1, by omega, fun q => ?_⟩
  rw [h2, h5, h6, qzS_P h1]
  exact i3 (by omega)
theorem qz_left {m : Int} {F : pP} {N : Int → Int × Int → Int × Int} {μ ν μ' : xM} (hu : qzU μ ν) (h : qzN m F N ν μ') : qzN m F N μ μ' := by
  obtain ⟨u1, u2, u3, u4, u5, u6⟩ := hu
  obtain ⟨b1, b2, b3, b4⟩ := h
  refine ⟨qzS_tr u1 b1, fun q => ?_, fun q => ?_, b4⟩
  · rw [← u3, ← u4]; exact b2 (by omega)
  · obtain ⟨c1, c2⟩ := b3 (by omega)
    rw [u2] at c1 c2
    refine ⟨?_, fun q2 => ?_⟩
    · rcases c1 with ⟨d1, d2, d3⟩ | ⟨d1, d2, d3⟩
      · exact Or.inl ⟨d1, d2, d3⟩
      · exact Or.inr ⟨d1, d2, by rw [d3, qzS_P u1]⟩
    · rw [← u6]; exact c2 q2
theorem qz_right {m : Int} {F : pP} {N : Int → Int × Int → Int × Int} {μ ν μ' : xM} (h : qzN m F N μ ν) (hu : qzU ν μ') : qzN m F N μ μ' := by
  have hI := qzU_I hu h.2.2.2
  obtain ⟨u1, u2, u3, u4, u5, u6⟩ := hu
  obtain ⟨b1, b2, b3, b4⟩ := h
  refine ⟨qzS_tr b1 u1, fun q => ?_, fun q => ?_, hI⟩
  · rw [u3, u4]; exact b2 q
  · obtain ⟨c1, c2⟩ := b3 q
    refine ⟨?_, fun q2 => ?_⟩
    · rcases c1 with ⟨d1, d2, d3⟩ | ⟨d1, d2, d3⟩
      · exact Or.inl ⟨d1, by omega, by rw [u2]; exact d3⟩
      · exact Or.inr ⟨d1, by omega, by rw [u4]; exact d3⟩
    · rw [u2, u6]; exact c2 (by omega)
/-- nothing is noted -/
def nN : Int → Int × Int → Int × Int := fun _ w => w
/-- a piece that only moves -/
theorem qz_m {m : Int} {F : pP} {μ μ' : xM} (hI : qzI m μ) (h : stM F μ μ') (hF : rF μ = 0 → 0 ≤ (F (rT μ)).2 ∧ ((F (rT μ)).2 = 0 → rT μ < (F (rT μ)).1 ∧ (F (rT μ)).1 ≤ m)) : qzN m F nN μ μ' := by
  obtain ⟨h1, h2, h3⟩ := h
  obtain ⟨i1, i2, i3⟩ := hI
  have hS := qzS_m h1
  have hW : rW μ' = rW μ := by unfold rW; rw [h1.2.1 29 (by decide) (by decide) (by decide), h1.2.1 30 (by decide) (by decide) (by decide)]
  have hQ : rQ μ' = rQ μ := by unfold rQ; rw [h1.2.1 26 (by decide) (by decide) (by decide)]
  refine ⟨hS, h3, fun q => ⟨h2 q, fun q2 => ?_⟩, qzS_T hS i1, ?_, fun q2 => ?_⟩
  · rcases h2 q with ⟨d1, d2, d3⟩ | ⟨d1, d2, d3⟩
    · exact ⟨by have := (hF q).2 d1; omega, hW⟩
    · omega
  · by_cases q : rF μ = 0
    · have := (hF q).1
      rcases h2 q with ⟨d1, d2, d3⟩ | ⟨d1, d2, d3⟩ <;> omega
    · have := (h3 (by omega)).1
      omega
  · by_cases q : rF μ = 0
    · obtain ⟨j1, j2, j3, j4⟩ := i3 q
      rcases h2 q with ⟨d1, d2, d3⟩ | ⟨d1, d2, d3⟩
      · obtain ⟨e1, e2⟩ := (hF q).2 d1
        refine ⟨by omega, by omega, by omega, ?_⟩
        rw [hW, qzS_P hS]
        intro g
        have g1 := j4 g
        have g2 := i1.2.2.2.1 (rT μ) (rT μ') (by omega) (by omega) (by omega)
        omega
      · omega
    · have := (h3 (by omega)).1
      omega
theorem pAcc_m {K : Int → Int} {k a m : Int} (hk : ¬ k = 0) (hm : m ≤ 400) (ha : a ≤ m) (h0 : m < 400 → K m = 0) : 0 ≤ (pAcc K k a).2 ∧ ((pAcc K k a).2 = 0 → a < (pAcc K k a).1 ∧ (pAcc K k a).1 ≤ m) := by
  unfold pAcc
  by_cases h1 : K a = k
  · rw [if_pos h1]
    by_cases h2 : a = 400
    · rw [if_pos h2]
      exact ⟨by show (0 : Int) ≤ 2; omega, fun q => absurd q (by show ¬ (2 : Int) = 0; omega)⟩
    · rw [if_neg h2]
      refine ⟨by show (0 : Int) ≤ 0; omega, fun _ => ⟨by show a < a + 1; omega, ?_⟩⟩
      show a + 1 ≤ m
      by_cases h3 : a = m
      · subst h3
        exact absurd (h0 (by omega)) (by omega)
      · omega
  · rw [if_neg h1]
    exact ⟨by show (0 : Int) ≤ 1; omega, fun q => absurd q (by show ¬ (1 : Int) = 0; omega)⟩
theorem qz_must {m k0 : Int} {k : Int32} {μ μ' : xM} {r : Option zV} (h0 : Ex gx xq_169 [.inr (.inl (some 75)), .inl k] μ r μ') (hI : qzI m μ) (hk : kmp k.toInt = k0) (hk0 : 0 < k0) : r = none ∧ qzN m (pAcc (rK μ) k0) nN μ μ' := by
  subst hk
  obtain ⟨h1, h2⟩ := st_must h0 (by omega) (qzI_b hI)
  exact ⟨h1, qz_m hI h2 (fun q => pAcc_m (by omega) hI.1.1.2 (hI.2.2 q).2.1 hI.1.2.1)⟩
/-- behind a look at the kind: one on -/
theorem qz_on {m : Int} {μ μ' : xM} {r : Option zV} (h0 : Ex gx xq_144 [.inr (.inl (some 75))] μ r μ') (hI : qzI m μ) (hk : rF μ = 0 → ¬ rK μ (rT μ) = 0) : r = none ∧ qzN m pOn nN μ μ' := by
  obtain ⟨h1, h2⟩ := st_goesOn h0 (qzI_b hI)
  refine ⟨h1, qz_m hI h2 (fun q => ?_)⟩
  have h3 := pAcc_m (K := rK μ) (k := rK μ (rT μ)) (hk q) hI.1.1.2 (hI.2.2 q).2.1 hI.1.2.1
  unfold pAcc at h3
  rw [if_pos rfl] at h3
  exact h3
theorem pOn_A {K : Int → Int} {a : Int} : pAcc K (K a) a = pOn a := by unfold pAcc pOn; rw [if_pos rfl]
/-- a fault here -/
theorem qz_fl {m f0 : Int} {f : Int32} {μ μ' : xM} {r : Option zV} (h0 : Ex gx xq_133 [.inr (.inl (some 75)), .inl f] μ r μ') (hI : qzI m μ) (hf : f.toInt = f0) (hf0 : 0 < f0) : r = none ∧ qzN m (fun a => (a, f0)) nN μ μ' := by
  obtain ⟨h1, h2⟩ := st_fail h0 hf (by omega)
  exact ⟨h1, qz_m hI h2 (fun _ => ⟨by show 0 ≤ f0; omega, fun q => absurd q (by show ¬ f0 = 0; omega)⟩)⟩
abbrev xq_204 : xP := (⟨"CapitalCaseModel", "wrong", "(II)V"⟩, prog_14_method_16_code, 4, none)
abbrev xq_124 : xP := (⟨"CapitalCaseModel", "bounded", "(II)I"⟩, prog_14_method_27_code, 4, (some .int))
abbrev xq_222 : xP := (⟨"CapitalCaseModel", "lettersIn", "(J)I"⟩, prog_14_method_28_code, 5, (some .int))
abbrev xq_223 : xP := (⟨"CapitalCaseModel", "letterIn", "(JI)I"⟩, prog_14_method_29_code, 6, (some .int))
abbrev xq_221 : xP := (⟨"CapitalCaseModel", "takesLetters", "()V"⟩, prog_14_method_30_code, 4, none)
abbrev xq_170 : xP := (⟨"CapitalCaseModel", "named", "()I"⟩, prog_14_method_25_code, 3, (some .int))
abbrev xq_220 : xP := (⟨"CapitalCaseModel", "ends", "(I)V"⟩, prog_14_method_26_code, 2, none)
set_option maxRecDepth 10000 in
set_option maxHeartbeats 4000000 in
theorem ex_wrong {f t : Int32} {μ μ' : xM} {r : Option zV} (h0 : Ex gx xq_204 [.inr (.inl (some 75)), .inl f, .inl t] μ r μ') : r = none ∧ ((¬ 0 < rF μ ∧ μ' = xpi (xpi μ 75 29 f) 75 30 (μ.1 79 t.toInt.toNat)) ∨ ((0 < rF μ ∨ ¬ (rW μ).1 = 0) ∧ μ' = μ)) ∧ (rF μ ≤ 0 → ¬ (rW μ).1 = 0 → ((rW μ).2 < rP μ t.toInt ∨ ((rW μ).2 = rP μ t.toInt ∧ (rW μ).1 ≤ f.toInt)) → μ' = μ) := by
  obtain ⟨n, h⟩ := tx_in (L := [some (.inr (.inl (some 75))), some (.inl f), some (.inl t), none]) h0 rfl
  replace h := tx_aload_n (p' := 1) h em204_0 rfl rfl
  replace h := tx_getc (c := 12) (j := 20) (p' := 4) h em204_1 ((congrFun xo_12 24).trans rfl) rfl rfl rfl
  replace h := tx_iload_n (p' := 5) h em204_4 rfl rfl
  obtain ⟨hb5, h⟩ := tx_iald (len := 403) (p' := 6) h em204_5 rfl rfl
  replace hb5 : 0 ≤ t.toInt ∧ t.toInt < 403 := hb5
  replace h := tx_istore_n (p' := 7) h em204_6 rfl
  replace h : eT xq_204 _ 7 [some (.inr (.inl (some 75))), some (.inl f), some (.inl t), some (.inl (μ.1 79 t.toInt.toNat))] [] μ r μ' := h
  replace h := tx_aload_n (p' := 8) h em204_7 rfl rfl
  replace h := tx_getf (c := 12) (j := 27) (p' := 11) h em204_8 ((congrFun xo_12 200).trans rfl) rfl rfl (by decide) rfl
  rcases tx_if (t := 45) (p' := 14) h em204_11 (by decide) rfl with ⟨c11, h⟩ | ⟨c11, h⟩
  · replace c11 : 0 < (μ.1 75 27).toInt := c11
    obtain ⟨rfl, hμ⟩ := tx_return h em204_45
    exact ⟨rfl, Or.inr ⟨by unfold rF rW; dsimp only; omega, hμ⟩, fun _ _ _ => hμ⟩
  · replace c11 : ¬ 0 < (μ.1 75 27).toInt := c11
    replace h := tx_aload_n (p' := 15) h em204_14 rfl rfl
    replace h := tx_getf (c := 12) (j := 29) (p' := 18) h em204_15 ((congrFun xo_12 209).trans rfl) rfl rfl (by decide) rfl
    rcases tx_if (t := 46) (p' := 21) h em204_18 (by decide) rfl with ⟨c18, h⟩ | ⟨c18, h⟩
    · replace c18 : (μ.1 75 29).toInt = 0 := c18
      replace h := tx_aload_n (p' := 47) h em204_46 rfl rfl
      replace h := tx_iload_n (p' := 48) h em204_47 rfl rfl
      replace h := tx_putf (a := 75) (c := 12) (j := 29) (p' := 51) h em204_48 ((congrFun xo_12 209).trans rfl) rfl
      replace h := tx_aload_n (p' := 52) h em204_51 rfl rfl
      replace h := tx_iload_n (p' := 53) h em204_52 rfl rfl
      replace h := tx_putf (a := 75) (c := 12) (j := 30) (p' := 56) h em204_53 ((congrFun xo_12 212).trans rfl) rfl
      obtain ⟨rfl, hμ⟩ := tx_return h em204_56
      exact ⟨rfl, Or.inl ⟨by unfold rF; omega, hμ⟩, fun _ g1 g2 => by exfalso; have g1 : ¬ (μ.1 75 29).toInt = 0 := g1; have g2 : (μ.1 75 30).toInt < (μ.1 79 t.toInt.toNat).toInt ∨ ((μ.1 75 30).toInt = (μ.1 79 t.toInt.toNat).toInt ∧ (μ.1 75 29).toInt ≤ f.toInt) := g2; omega⟩
    · replace c18 : ¬ (μ.1 75 29).toInt = 0 := c18
      replace h := tx_iload_n (p' := 22) h em204_21 rfl rfl
      replace h := tx_aload_n (p' := 23) h em204_22 rfl rfl
      replace h := tx_getf (c := 12) (j := 30) (p' := 26) h em204_23 ((congrFun xo_12 212).trans rfl) rfl rfl (by decide) rfl
      rcases tx_icmp (t := 45) (p' := 29) h em204_26 (by decide) rfl with ⟨c26, h⟩ | ⟨c26, h⟩
      · replace c26 : (μ.1 75 30).toInt < (μ.1 79 t.toInt.toNat).toInt := c26
        obtain ⟨rfl, hμ⟩ := tx_return h em204_45
        exact ⟨rfl, Or.inr ⟨by unfold rF rW; dsimp only; omega, hμ⟩, fun _ _ _ => hμ⟩
      · replace c26 : ¬ (μ.1 75 30).toInt < (μ.1 79 t.toInt.toNat).toInt := c26
        replace h := tx_iload_n (p' := 30) h em204_29 rfl rfl
        replace h := tx_aload_n (p' := 31) h em204_30 rfl rfl
        replace h := tx_getf (c := 12) (j := 30) (p' := 34) h em204_31 ((congrFun xo_12 212).trans rfl) rfl rfl (by decide) rfl
        rcases tx_icmp (t := 46) (p' := 37) h em204_34 (by decide) rfl with ⟨c34, h⟩ | ⟨c34, h⟩
        · replace c34 : ¬ (μ.1 79 t.toInt.toNat).toInt = (μ.1 75 30).toInt := c34
          replace h := tx_aload_n (p' := 47) h em204_46 rfl rfl
          replace h := tx_iload_n (p' := 48) h em204_47 rfl rfl
          replace h := tx_putf (a := 75) (c := 12) (j := 29) (p' := 51) h em204_48 ((congrFun xo_12 209).trans rfl) rfl
          replace h := tx_aload_n (p' := 52) h em204_51 rfl rfl
          replace h := tx_iload_n (p' := 53) h em204_52 rfl rfl
          replace h := tx_putf (a := 75) (c := 12) (j := 30) (p' := 56) h em204_53 ((congrFun xo_12 212).trans rfl) rfl
          obtain ⟨rfl, hμ⟩ := tx_return h em204_56
          exact ⟨rfl, Or.inl ⟨by unfold rF; omega, hμ⟩, fun _ g1 g2 => by exfalso; have g1 : ¬ (μ.1 75 29).toInt = 0 := g1; have g2 : (μ.1 75 30).toInt < (μ.1 79 t.toInt.toNat).toInt ∨ ((μ.1 75 30).toInt = (μ.1 79 t.toInt.toNat).toInt ∧ (μ.1 75 29).toInt ≤ f.toInt) := g2; omega⟩
        · replace c34 : ¬ ¬ (μ.1 79 t.toInt.toNat).toInt = (μ.1 75 30).toInt := c34
          replace h := tx_iload_n (p' := 38) h em204_37 rfl rfl
          replace h := tx_aload_n (p' := 39) h em204_38 rfl rfl
          replace h := tx_getf (c := 12) (j := 29) (p' := 42) h em204_39 ((congrFun xo_12 209).trans rfl) rfl rfl (by decide) rfl
          rcases tx_icmp (t := 46) (p' := 45) h em204_42 (by decide) rfl with ⟨c42, h⟩ | ⟨c42, h⟩
          · replace c42 : f.toInt < (μ.1 75 29).toInt := c42
            replace h := tx_aload_n (p' := 47) h em204_46 rfl rfl
            replace h := tx_iload_n (p' := 48) h em204_47 rfl rfl
            replace h := tx_putf (a := 75) (c := 12) (j := 29) (p' := 51) h em204_48 ((congrFun xo_12 209).trans rfl) rfl
            replace h := tx_aload_n (p' := 52) h em204_51 rfl rfl
            replace h := tx_iload_n (p' := 53) h em204_52 rfl rfl
            replace h := tx_putf (a := 75) (c := 12) (j := 30) (p' := 56) h em204_53 ((congrFun xo_12 212).trans rfl) rfl
            obtain ⟨rfl, hμ⟩ := tx_return h em204_56
            exact ⟨rfl, Or.inl ⟨by unfold rF; omega, hμ⟩, fun _ g1 g2 => by exfalso; have g1 : ¬ (μ.1 75 29).toInt = 0 := g1; have g2 : (μ.1 75 30).toInt < (μ.1 79 t.toInt.toNat).toInt ∨ ((μ.1 75 30).toInt = (μ.1 79 t.toInt.toNat).toInt ∧ (μ.1 75 29).toInt ≤ f.toInt) := g2; omega⟩
          · replace c42 : ¬ f.toInt < (μ.1 75 29).toInt := c42
            obtain ⟨rfl, hμ⟩ := tx_return h em204_45
            exact ⟨rfl, Or.inr ⟨by unfold rF rW; dsimp only; omega, hμ⟩, fun _ _ _ => hμ⟩
/-- only notes are changed -/
def qzO (μ ν : xM) : Prop := qzS μ ν ∧ rT ν = rT μ ∧ rF ν = rF μ ∧ rV ν = rV μ ∧ rQ ν = rQ μ
theorem qzO_rf {μ : xM} : qzO μ μ := ⟨qzS_rf, rfl, rfl, rfl, rfl⟩
theorem qzO_tr {μ ν μ' : xM} (h1 : qzO μ ν) (h2 : qzO ν μ') : qzO μ μ' := ⟨qzS_tr h1.1 h2.1, h2.2.1.trans h1.2.1, h2.2.2.1.trans h1.2.2.1, h2.2.2.2.1.trans h1.2.2.2.1, h2.2.2.2.2.trans h1.2.2.2.2⟩
theorem qzO_u {μ ν : xM} (h : qzU μ ν) : qzO μ ν := ⟨h.1, h.2.1, h.2.2.1, h.2.2.2.1, h.2.2.2.2.1⟩
/-- a fault that counts later, at a token not before the one that stands noted -/
theorem qz_wrong {f t : Int32} {f0 : Int} {μ μ' : xM} {r : Option zV} (h0 : Ex gx xq_204 [.inr (.inl (some 75)), .inl f, .inl t] μ r μ') (hf : f.toInt = f0) (hf0 : ¬ f0 = 0) (hw : rF μ = 0 → ¬ (rW μ).1 = 0 → (rW μ).2 < rP μ t.toInt ∨ ((rW μ).2 = rP μ t.toInt ∧ (rW μ).1 ≤ f0)) : r = none ∧ qzO μ μ' ∧ (rF μ = 0 → rW μ' = pNote f0 (rP μ t.toInt) true (rW μ)) := by
  subst hf
  obtain ⟨h1, h2, h3⟩ := ex_wrong h0
  refine ⟨h1, ?_, fun q => ?_⟩
  · rcases h2 with ⟨-, rfl⟩ | ⟨-, rfl⟩
    · exact ⟨qzS_f (qzS_f qzS_rf (Or.inl ⟨by decide, by decide⟩)) (Or.inl ⟨by decide, by decide⟩), rfl, rfl, rfl, rfl⟩
    · exact qzO_rf
  · unfold pNote
    by_cases g : (rW μ).1 = 0
    · rw [if_pos ⟨rfl, g⟩]
      rcases h2 with ⟨-, rfl⟩ | ⟨g2, -⟩
      · rfl
      · omega
    · rw [if_neg (fun x => g x.2), h3 (by omega) g (hw q g)]
/-- an int that is told: its note -/
noncomputable def nB (μ : xM) (lo hi : Int) : Int → Int × Int → Int × Int := fun a w => pNote 5 (rP μ a) (decide (rVl μ a < lo ∨ hi < rVl μ a)) w
theorem qz_int {m lo hi : Int} {μ ν μ' : xM} (hI : qzI m μ) (hO : qzO μ ν) (hk : rF μ = 0 → rK μ (rT μ) = 3) (hW : rF μ = 0 → rW ν = nB μ lo hi (rT μ) (rW μ)) (h : stM pOn ν μ') (hf : rF μ = 0) : qzN m (pAcc (rK μ) 3) (nB μ lo hi) μ μ' := by
  obtain ⟨o1, o2, o3, o4, o5⟩ := hO
  obtain ⟨h1, h2, h3⟩ := h
  obtain ⟨i1, i2, i3⟩ := hI
  obtain ⟨j1, j2, j3, j4⟩ := i3 hf
  have hS := qzS_tr o1 (qzS_m h1)
  have hW2 : rW μ' = rW ν := by unfold rW; rw [h1.2.1 29 (by decide) (by decide) (by decide), h1.2.1 30 (by decide) (by decide) (by decide)]
  have hQ : rQ μ' = rQ ν := by unfold rQ; rw [h1.2.1 26 (by decide) (by decide) (by decide)]
  have h4 := h2 (by omega)
  have h5 := pAcc_m (K := rK μ) (k := 3) (by decide) i1.1.2 j2 i1.2.1
  have e5 : pAcc (rK μ) 3 (rT μ) = pOn (rT μ) := by rw [← hk hf]; exact pOn_A
  rw [e5] at h5
  rw [o2] at h4
  refine ⟨hS, fun q => by omega, fun _ => ⟨?_, fun q2 => ?_⟩, qzS_T hS i1, ?_, fun q2 => ?_⟩
  · rw [e5]
    rcases h4 with ⟨d1, d2, d3⟩ | ⟨d1, d2, d3⟩
    · exact Or.inl ⟨d1, d2, d3⟩
    · exact Or.inr ⟨d1, d2, by rw [d3, qzS_P o1]⟩
  · rcases h4 with ⟨d1, d2, d3⟩ | ⟨d1, d2, d3⟩
    · exact ⟨by have := h5.2 d1; omega, by rw [hW2, hW hf]⟩
    · omega
  · rcases h4 with ⟨d1, d2, d3⟩ | ⟨d1, d2, d3⟩ <;> omega
  · rcases h4 with ⟨d1, d2, d3⟩ | ⟨d1, d2, d3⟩
    · obtain ⟨e1, e2⟩ := h5.2 d1
      refine ⟨by omega, by omega, by omega, ?_⟩
      rw [hW2, hW hf, qzS_P hS]
      have g2 := i1.2.2.2.1 (rT μ) (rT μ') (by omega) (by omega) (by omega)
      unfold nB pNote
      intro g
      split
      · exact g2
      · rename_i g3
        rw [if_neg g3] at g
        have g1 := j4 g
        omega
    · omega
theorem qz_intf {m lo hi : Int} {μ μ' : xM} (hI : qzI m μ) (hk : rF μ = 0 → ¬ rK μ (rT μ) = 3) (h : qzN m (fun a => (a, 1)) nN μ μ') : qzN m (pAcc (rK μ) 3) (nB μ lo hi) μ μ' := by
  obtain ⟨b1, b2, b3, b4⟩ := h
  refine ⟨b1, b2, fun q => ?_, b4⟩
  obtain ⟨c1, c2⟩ := b3 q
  rw [pAcc_n (hk q)]
  refine ⟨c1, fun q2 => ?_⟩
  rcases c1 with ⟨d1, -⟩ | ⟨-, d2, -⟩
  · exact absurd (show (1 : Int) = 0 from d1) (by decide)
  · have d2 : rF μ' = 1 := d2
    omega
set_option maxRecDepth 10000 in
set_option maxHeartbeats 4000000 in
theorem qz_bounded {lo hi : Int32} {m : Int} {μ μ' : xM} {r : Option zV} (h0 : Ex gx xq_124 [.inr (.inl (some 75)), .inl lo, .inl hi] μ r μ') (hI : qzI m μ) : ∃ v : Int32, r = some (.inl v) ∧ qzN m (pAcc (rK μ) 3) (nB μ lo.toInt hi.toInt) μ μ' := by
  obtain ⟨n, h⟩ := tx_in (L := [some (.inr (.inl (some 75))), some (.inl lo), some (.inl hi), none]) h0 rfl
  replace h := tx_aload_n (p' := 1) h em124_0 rfl rfl
  replace h := tx_getf (c := 12) (j := 27) (p' := 4) h em124_1 ((congrFun xo_12 200).trans rfl) rfl rfl (by decide) rfl
  rcases tx_if (t := 15) (p' := 7) h em124_4 (by decide) rfl with ⟨c4, h⟩ | ⟨c4, h⟩
  · replace c4 : 0 < (μ.1 75 27).toInt := c4
    replace h := tx_aload_n (p' := 16) h em124_15 rfl rfl
    replace h := tx_iconst (v := 1) (p' := 17) h em124_16 (by decide +kernel) rfl
    obtain ⟨r17, μ17, hE17, h⟩ := tx_invV (na := 2) (mn := 133) (as := [.inr (.inl (some 75)), .inl (1 : Int32)]) (rest := []) (p' := 20) h em124_17 ((congrFun xo_12 215).trans rfl) xm_133 rfl rfl
    obtain ⟨rfl, hs17⟩ := qz_fl (f0 := 1) hE17 hI (by decide) (by decide)
    replace h : eT xq_124 _ 20 [some (.inr (.inl (some 75))), some (.inl lo), some (.inl hi), none] [] μ17 r μ' := h
    replace h := tx_iload_n (p' := 21) h em124_20 rfl rfl
    obtain ⟨rfl, hμ⟩ := tx_ireturn h em124_21
    rw [hμ]
    exact ⟨_, rfl, qz_intf hI (fun q => by unfold rF at q; omega) hs17⟩
  · replace c4 : ¬ 0 < (μ.1 75 27).toInt := c4
    replace h := tx_aload_n (p' := 8) h em124_7 rfl rfl
    replace h := tx_iconst (v := 2) (p' := 9) h em124_8 (by decide +kernel) rfl
    obtain ⟨r9, μ9, hE9, h⟩ := tx_invV (na := 2) (mn := 149) (as := [.inr (.inl (some 75)), .inl (2 : Int32)]) (rest := []) (p' := 12) h em124_9 ((congrFun xo_12 218).trans rfl) xm_149 rfl rfl
    obtain ⟨hm, ⟨rfl, i91, i92, i93⟩ | ⟨rfl, i91⟩⟩ := ex_is hE9 (by decide)
    · rw [hm] at h
      replace h : eT xq_124 _ 12 [some (.inr (.inl (some 75))), some (.inl lo), some (.inl hi), none] [.inl (1 : Int32)] μ r μ' := h
      rcases tx_if (t := 22) (p' := 15) h em124_12 (by decide) rfl with ⟨c12, h⟩ | ⟨c12, h⟩
      · replace c12 : ¬ (1 : Int) = (0 : Int) := c12
        replace h := tx_aload_n (p' := 23) h em124_22 rfl rfl
        replace h := tx_getc (c := 12) (j := 21) (p' := 26) h em124_23 ((congrFun xo_12 27).trans rfl) rfl rfl rfl
        replace h := tx_aload_n (p' := 27) h em124_26 rfl rfl
        replace h := tx_getf (c := 12) (j := 25) (p' := 30) h em124_27 ((congrFun xo_12 203).trans rfl) rfl rfl (by decide) rfl
        obtain ⟨hb30, h⟩ := tx_iald (len := 403) (p' := 31) h em124_30 rfl rfl
        replace hb30 : 0 ≤ (μ.1 75 25).toInt ∧ (μ.1 75 25).toInt < 403 := hb30
        replace h := tx_istore_n (p' := 32) h em124_31 rfl
        replace h : eT xq_124 _ 32 [some (.inr (.inl (some 75))), some (.inl lo), some (.inl hi), some (.inl (μ.1 80 (μ.1 75 25).toInt.toNat))] [] μ r μ' := h
        replace h := tx_iload_n (p' := 33) h em124_32 rfl rfl
        replace h := tx_iload_n (p' := 34) h em124_33 rfl rfl
        rcases tx_icmp (t := 42) (p' := 37) h em124_34 (by decide) rfl with ⟨c34, h⟩ | ⟨c34, h⟩
        · replace c34 : (μ.1 80 (μ.1 75 25).toInt.toNat).toInt < lo.toInt := c34
          replace h := tx_aload_n (p' := 43) h em124_42 rfl rfl
          replace h := tx_iconst (v := 5) (p' := 44) h em124_43 (by decide +kernel) rfl
          replace h := tx_aload_n (p' := 45) h em124_44 rfl rfl
          replace h := tx_getf (c := 12) (j := 25) (p' := 48) h em124_45 ((congrFun xo_12 203).trans rfl) rfl rfl (by decide) rfl
          obtain ⟨r48, μ48, hE48, h⟩ := tx_invV (na := 3) (mn := 204) (as := [.inr (.inl (some 75)), .inl (5 : Int32), .inl (μ.1 75 25)]) (rest := []) (p' := 51) h em124_48 ((congrFun xo_12 277).trans rfl) xm_204 rfl rfl
          obtain ⟨rfl, hO48, hw48⟩ := qz_wrong (f0 := 5) hE48 (by decide) (by decide) (fun q g => Or.inl ((hI.2.2 q).2.2.2 g))
          replace h : eT xq_124 _ 51 [some (.inr (.inl (some 75))), some (.inl lo), some (.inl hi), some (.inl (μ.1 80 (μ.1 75 25).toInt.toNat))] [] μ48 r μ' := h
          replace h := tx_aload_n (p' := 52) h em124_51 rfl rfl
          obtain ⟨r52, μ52, hE52, h⟩ := tx_invV (na := 1) (mn := 144) (as := [.inr (.inl (some 75))]) (rest := []) (p' := 55) h em124_52 ((congrFun xo_12 221).trans rfl) xm_144 rfl rfl
          obtain ⟨rfl, hs52⟩ := st_goesOn hE52 (by rw [hO48.2.1, hO48.2.2.1]; exact qzI_b hI)
          replace h : eT xq_124 _ 55 [some (.inr (.inl (some 75))), some (.inl lo), some (.inl hi), some (.inl (μ.1 80 (μ.1 75 25).toInt.toNat))] [] μ52 r μ' := h
          replace h := tx_iload_n (p' := 56) h em124_55 rfl rfl
          obtain ⟨rfl, hμ⟩ := tx_ireturn h em124_56
          rw [hμ]
          have hk3 : rK μ (rT μ) = 3 := i92.trans (by decide)
          have hf : rF μ = 0 := i91
          exact ⟨_, rfl, qz_int hI hO48 (fun _ => hk3) (fun _ => by rw [hw48 hf]; unfold nB; rw [decide_eq_true (by unfold rVl rT; omega)]; rfl) hs52 hf⟩
        · replace c34 : ¬ (μ.1 80 (μ.1 75 25).toInt.toNat).toInt < lo.toInt := c34
          replace h := tx_iload_n (p' := 38) h em124_37 rfl rfl
          replace h := tx_iload_n (p' := 39) h em124_38 rfl rfl
          rcases tx_icmp (t := 51) (p' := 42) h em124_39 (by decide) rfl with ⟨c39, h⟩ | ⟨c39, h⟩
          · replace c39 : (μ.1 80 (μ.1 75 25).toInt.toNat).toInt ≤ hi.toInt := c39
            replace h := tx_aload_n (p' := 52) h em124_51 rfl rfl
            obtain ⟨r52_1, μ52_1, hE52_1, h⟩ := tx_invV (na := 1) (mn := 144) (as := [.inr (.inl (some 75))]) (rest := []) (p' := 55) h em124_52 ((congrFun xo_12 221).trans rfl) xm_144 rfl rfl
            obtain ⟨rfl, hs52_1⟩ := st_goesOn hE52_1 (qzI_b hI)
            replace h : eT xq_124 _ 55 [some (.inr (.inl (some 75))), some (.inl lo), some (.inl hi), some (.inl (μ.1 80 (μ.1 75 25).toInt.toNat))] [] μ52_1 r μ' := h
            replace h := tx_iload_n (p' := 56) h em124_55 rfl rfl
            obtain ⟨rfl, hμ⟩ := tx_ireturn h em124_56
            rw [hμ]
            have hk3 : rK μ (rT μ) = 3 := i92.trans (by decide)
            have hf : rF μ = 0 := i91
            exact ⟨_, rfl, qz_int hI qzO_rf (fun _ => hk3) (fun _ => by unfold nB; rw [decide_eq_false (by unfold rVl rT; omega)]; unfold pNote; rw [if_neg (fun x => absurd x.1 (by decide))]) hs52_1 hf⟩
          · replace c39 : ¬ (μ.1 80 (μ.1 75 25).toInt.toNat).toInt ≤ hi.toInt := c39
            replace h := tx_aload_n (p' := 43) h em124_42 rfl rfl
            replace h := tx_iconst (v := 5) (p' := 44) h em124_43 (by decide +kernel) rfl
            replace h := tx_aload_n (p' := 45) h em124_44 rfl rfl
            replace h := tx_getf (c := 12) (j := 25) (p' := 48) h em124_45 ((congrFun xo_12 203).trans rfl) rfl rfl (by decide) rfl
            obtain ⟨r48_1, μ48_1, hE48_1, h⟩ := tx_invV (na := 3) (mn := 204) (as := [.inr (.inl (some 75)), .inl (5 : Int32), .inl (μ.1 75 25)]) (rest := []) (p' := 51) h em124_48 ((congrFun xo_12 277).trans rfl) xm_204 rfl rfl
            obtain ⟨rfl, hO48_1, hw48_1⟩ := qz_wrong (f0 := 5) hE48_1 (by decide) (by decide) (fun q g => Or.inl ((hI.2.2 q).2.2.2 g))
            replace h : eT xq_124 _ 51 [some (.inr (.inl (some 75))), some (.inl lo), some (.inl hi), some (.inl (μ.1 80 (μ.1 75 25).toInt.toNat))] [] μ48_1 r μ' := h
            replace h := tx_aload_n (p' := 52) h em124_51 rfl rfl
            obtain ⟨r52_2, μ52_2, hE52_2, h⟩ := tx_invV (na := 1) (mn := 144) (as := [.inr (.inl (some 75))]) (rest := []) (p' := 55) h em124_52 ((congrFun xo_12 221).trans rfl) xm_144 rfl rfl
            obtain ⟨rfl, hs52_2⟩ := st_goesOn hE52_2 (by rw [hO48_1.2.1, hO48_1.2.2.1]; exact qzI_b hI)
            replace h : eT xq_124 _ 55 [some (.inr (.inl (some 75))), some (.inl lo), some (.inl hi), some (.inl (μ.1 80 (μ.1 75 25).toInt.toNat))] [] μ52_2 r μ' := h
            replace h := tx_iload_n (p' := 56) h em124_55 rfl rfl
            obtain ⟨rfl, hμ⟩ := tx_ireturn h em124_56
            rw [hμ]
            have hk3 : rK μ (rT μ) = 3 := i92.trans (by decide)
            have hf : rF μ = 0 := i91
            exact ⟨_, rfl, qz_int hI hO48_1 (fun _ => hk3) (fun _ => by rw [hw48_1 hf]; unfold nB; rw [decide_eq_true (by unfold rVl rT; omega)]; rfl) hs52_2 hf⟩
      · replace c12 : ¬ ¬ (1 : Int) = (0 : Int) := c12
        exfalso
        omega
    · rw [hm] at h
      replace h : eT xq_124 _ 12 [some (.inr (.inl (some 75))), some (.inl lo), some (.inl hi), none] [.inl (0 : Int32)] μ r μ' := h
      rcases tx_if (t := 22) (p' := 15) h em124_12 (by decide) rfl with ⟨c12_1, h⟩ | ⟨c12_1, h⟩
      · replace c12_1 : ¬ (0 : Int) = (0 : Int) := c12_1
        exfalso
        omega
      · replace c12_1 : ¬ ¬ (0 : Int) = (0 : Int) := c12_1
        replace h := tx_aload_n (p' := 16) h em124_15 rfl rfl
        replace h := tx_iconst (v := 1) (p' := 17) h em124_16 (by decide +kernel) rfl
        obtain ⟨r17_1, μ17_1, hE17_1, h⟩ := tx_invV (na := 2) (mn := 133) (as := [.inr (.inl (some 75)), .inl (1 : Int32)]) (rest := []) (p' := 20) h em124_17 ((congrFun xo_12 215).trans rfl) xm_133 rfl rfl
        obtain ⟨rfl, hs17_1⟩ := qz_fl (f0 := 1) hE17_1 hI (by decide) (by decide)
        replace h : eT xq_124 _ 20 [some (.inr (.inl (some 75))), some (.inl lo), some (.inl hi), none] [] μ17_1 r μ' := h
        replace h := tx_iload_n (p' := 21) h em124_20 rfl rfl
        obtain ⟨rfl, hμ⟩ := tx_ireturn h em124_21
        rw [hμ]
        exact ⟨_, rfl, qz_intf hI (fun q q2 => i91 ⟨q, q2.trans (by decide)⟩) hs17_1⟩
theorem qzD_t {d : Int} {t : List Int} (h : qzD (d :: t)) : qzD t := ⟨fun x hx => h.1 x (List.mem_cons_of_mem _ hx), by have := h.2; rw [List.length_cons] at this; omega⟩
theorem qzR_0 {es : List Int} (h : qzD es) (h0 : qzR es = 0) : es = [] := qzR_inj h.1 (fun _ q => by cases q) h0
theorem ka1 {k : Int32} (h : -100 ≤ k.toInt) : (k + -1).toInt = k.toInt - 1 := by
  have hm1 : (-1 : Int32).toInt = -1 := by decide
  have h2 := an_hi k
  rw [an_add (by rw [hm1]; omega) (by rw [hm1]; omega), hm1]
  rfl
theorem lg1 {v : Int64} : 0 < (lg_cmp v (0 : Int64)).toInt ↔ 0 < v.toInt := by
  have h1 : 0 < (lg_cmp v (0 : Int64)).toInt ↔ 0 < lg_cmp v (0 : Int64) := (Int32.lt_iff_toInt_lt (x := 0) (y := lg_cmp v 0)).symm
  have h2 : (0 : Int64) < v ↔ (0 : Int64).toInt < v.toInt := Int64.lt_iff_toInt_lt
  rw [h1, lg_cmp_gt, h2]
  have h3 : (0 : Int64).toInt = 0 := rfl
  omega
set_option maxRecDepth 10000 in
set_option maxHeartbeats 4000000 in
theorem ex_lettersIn {v : Int64} {μ μ' : xM} {r : Option zV} (h0 : Ex gx xq_222 [.inr (.inr v)] μ r μ') {es : List Int} (hd0 : qzD es) (hv : v.toInt = qzR es) : ∃ x : Int32, r = some (.inl x) ∧ x.toInt = es.length ∧ μ' = μ := by
  have e1i : (1 : Int32).toInt = 1 := by decide
  obtain ⟨n, h⟩ := tx_in (L := [some (.inr (.inr v)), none, none, none, none]) h0 rfl
  have loop : ∀ (n : Nat) (n0 : Int32) (w : Int64) (fs : List Int), eT xq_222 n 4 [some (.inr (.inr v)), none, some (.inl n0), some (.inr (.inr w)), none] [] μ r μ' → qzD fs → w.toInt = qzR fs → 0 ≤ n0.toInt → n0.toInt ≤ 100 - fs.length → ∃ x : Int32, r = some (.inl x) ∧ x.toInt = n0.toInt + fs.length ∧ μ' = μ := by
    intro n
    induction n using Nat.strongRecOn with
    | ind n ih =>
    intro n0 w fs h hes hw hn0 hn8
    replace h := tx_lload_n (p' := 5) h em222_4 rfl rfl
    replace h := tx_lconst (v := 0) (p' := 6) h em222_5 (by decide +kernel) rfl
    replace h := tx_lcmp (p' := 7) h em222_6 rfl
    rcases tx_if (t := 22) (p' := 10) h em222_7 (by decide) rfl with ⟨c7, h⟩ | ⟨c7, h⟩
    · replace c7 : (lg_cmp w (0 : Int64)).toInt ≤ 0 := c7
      replace h := tx_iload_n (p' := 23) h em222_22 rfl rfl
      obtain ⟨rfl, hμ⟩ := tx_ireturn h em222_23
      have hw0 : ¬ 0 < w.toInt := fun q => by have := lg1.mpr q; omega
      have hz := qzR_0 hes (by have := (qzR_nn hes.1).1; omega)
      subst hz
      exact ⟨_, rfl, by show n0.toInt = n0.toInt + ((0 : Nat) : Int); omega, hμ⟩
    · replace c7 : ¬ (lg_cmp w (0 : Int64)).toInt ≤ 0 := c7
      replace h := tx_iinc (v := 1) (p' := 13) h em222_10 (by decide +kernel) rfl rfl
      replace h : eT xq_222 _ 13 [some (.inr (.inr v)), none, some (.inl (n0 + 1)), some (.inr (.inr w)), none] [] μ r μ' := h
      replace h := tx_lload_n (p' := 14) h em222_13 rfl rfl
      replace h := tx_ldc2 (v := 27) (p' := 17) h em222_14 ((congrFun xo_12 172).trans (by decide +kernel)) rfl
      replace h := tx_ldiv (p' := 18) h em222_17 rfl
      replace h := tx_lstore_n (p' := 19) h em222_18 rfl
      replace h : eT xq_222 _ 19 [some (.inr (.inr v)), none, some (.inl (n0 + 1)), some (.inr (.inr (w / (27 : Int64)))), none] [] μ r μ' := h
      obtain ⟨n2, hn2, h⟩ := tx_gotoS (t := 4) h em222_19 (by decide)
      have c7b : 0 < w.toInt := lg1.mp (by omega)
      cases fs with
      | nil => unfold qzR at hw; omega
      | cons d t =>
        have hd := qzD_t hes
        have h1 := qzR_dm (hes.1 d List.mem_cons_self) (qzR_nn hd.1).1
        have hl : (d :: t).length = t.length + 1 := rfl
        have hn1 : (n0 + 1).toInt = n0.toInt + 1 := by rw [an_add (by rw [e1i]; omega) (by rw [e1i]; omega), e1i]
        obtain ⟨x, x1, x2, x3⟩ := ih n2 hn2 _ _ t h hd (by rw [al_div (by omega), hw, h1.1]) (by omega) (by omega)
        exact ⟨x, x1, by omega, x3⟩
  replace h := tx_iconst (v := 0) (p' := 1) h em222_0 (by decide +kernel) rfl
  replace h := tx_istore_n (p' := 2) h em222_1 rfl
  replace h : eT xq_222 _ 2 [some (.inr (.inr v)), none, some (.inl (0 : Int32)), none, none] [] μ r μ' := h
  replace h := tx_lload_n (p' := 3) h em222_2 rfl rfl
  replace h := tx_lstore_n (p' := 4) h em222_3 rfl
  replace h : eT xq_222 _ 4 [some (.inr (.inr v)), none, some (.inl (0 : Int32)), some (.inr (.inr v)), none] [] μ r μ' := h
  have h8 := hd0.2
  obtain ⟨x, x1, x2, x3⟩ := loop _ _ _ es h hd0 hv (by decide) (by show (0 : Int) ≤ 100 - es.length; omega)
  have x2 : x.toInt = 0 + es.length := x2
  exact ⟨x, x1, by omega, x3⟩
set_option maxRecDepth 10000 in
set_option maxHeartbeats 4000000 in
theorem ex_letterIn {v : Int64} {i : Int32} {μ μ' : xM} {r : Option zV} (h0 : Ex gx xq_223 [.inr (.inr v), .inl i] μ r μ') {es : List Int} (hd0 : qzD es) (hv : v.toInt = qzR es) (hi0 : 0 ≤ i.toInt) (hi1 : i.toInt < es.length) : ∃ x : Int32, r = some (.inl x) ∧ x.toInt = es.getD (es.length - 1 - i.toInt.toNat) 0 - 1 ∧ μ' = μ := by
  have e1i : (1 : Int32).toInt = 1 := by decide
  obtain ⟨n, h⟩ := tx_in (L := [some (.inr (.inr v)), none, some (.inl i), none, none, none]) h0 rfl
  have loop : ∀ (n : Nat) (k : Int32) (w : Int64) (fs : List Int), eT xq_223 n 10 [some (.inr (.inr v)), none, some (.inl i), some (.inr (.inr w)), none, some (.inl k)] [] μ r μ' → qzD fs → w.toInt = qzR fs → k.toInt = fs.length - 1 → i.toInt < fs.length → 0 ≤ i.toInt → ∃ x : Int32, r = some (.inl x) ∧ x.toInt = fs.getD (fs.length - 1 - i.toInt.toNat) 0 - 1 ∧ μ' = μ := by
    intro n
    induction n using Nat.strongRecOn with
    | ind n ih =>
    intro k w fs h hes hw hk hi1 hi0
    replace h := tx_iload (p' := 12) h em223_10 rfl rfl
    replace h := tx_iload_n (p' := 13) h em223_12 rfl rfl
    rcases tx_icmp (t := 28) (p' := 16) h em223_13 (by decide) rfl with ⟨c13, h⟩ | ⟨c13, h⟩
    · replace c13 : k.toInt ≤ i.toInt := c13
      replace h := tx_lload_n (p' := 29) h em223_28 rfl rfl
      replace h := tx_ldc2 (v := 27) (p' := 32) h em223_29 ((congrFun xo_12 172).trans (by decide +kernel)) rfl
      replace h := tx_lrem (p' := 33) h em223_32 rfl
      replace h := tx_l2i (p' := 34) h em223_33 rfl
      replace h := tx_iconst (v := 1) (p' := 35) h em223_34 (by decide +kernel) rfl
      replace h := tx_isub (p' := 36) h em223_35 rfl
      obtain ⟨rfl, hμ⟩ := tx_ireturn h em223_36
      have hDENT2 : k.toInt = fs.length - 1 := hk
      cases fs with
      | nil =>
        have hl : ([] : List Int).length = 0 := rfl
        omega
      | cons d t =>
        have hd := qzD_t hes
        have hdd := hes.1 d List.mem_cons_self
        have h1 := qzR_dm hdd (qzR_nn hd.1).1
        have hl : (d :: t).length = t.length + 1 := rfl
        have hnn := (qzR_nn hes.1).1
        have hr := al_rem (x := w) (by omega)
        rw [hw, h1.2] at hr
        have hr2 : ((w - w / 27 * 27).toInt32).toInt = d := by rw [al_l2i (by omega) (by omega), hr]
        refine ⟨_, rfl, ?_, hμ⟩
        rw [an_sub (by rw [hr2, e1i]; omega) (by rw [hr2, e1i]; omega), hr2, e1i, show (d :: t).length - 1 - i.toInt.toNat = 0 by omega]
        rfl
    · replace c13 : ¬ k.toInt ≤ i.toInt := c13
      replace h := tx_lload_n (p' := 17) h em223_16 rfl rfl
      replace h := tx_ldc2 (v := 27) (p' := 20) h em223_17 ((congrFun xo_12 172).trans (by decide +kernel)) rfl
      replace h := tx_ldiv (p' := 21) h em223_20 rfl
      replace h := tx_lstore_n (p' := 22) h em223_21 rfl
      replace h : eT xq_223 _ 22 [some (.inr (.inr v)), none, some (.inl i), some (.inr (.inr (w / (27 : Int64)))), none, some (.inl k)] [] μ r μ' := h
      replace h := tx_iinc (v := (-1)) (p' := 25) h em223_22 (by decide +kernel) rfl rfl
      replace h : eT xq_223 _ 25 [some (.inr (.inr v)), none, some (.inl i), some (.inr (.inr (w / (27 : Int64)))), none, some (.inl (k + (-1)))] [] μ r μ' := h
      obtain ⟨n2, hn2, h⟩ := tx_gotoS (t := 10) h em223_25 (by decide)
      have hDENT : k.toInt = fs.length - 1 := hk
      cases fs with
      | nil =>
        have hl : ([] : List Int).length = 0 := rfl
        omega
      | cons d t =>
        have hd := qzD_t hes
        have h1 := qzR_dm (hes.1 d List.mem_cons_self) (qzR_nn hd.1).1
        have hl : (d :: t).length = t.length + 1 := rfl
        have hk1 : (k + -1).toInt = k.toInt - 1 := ka1 (by have := hes.2; omega)
        obtain ⟨k2, hk2⟩ : ∃ k2, k2 = k + -1 := ⟨_, rfl⟩
        rw [← hk2] at h hk1
        clear hk2
        have hw2 : (w / 27).toInt = qzR t := by rw [al_div (by rw [hw]; exact (qzR_nn hes.1).1), hw, h1.1]
        have hq1 : k2.toInt = t.length - 1 := by omega
        have hq2 : i.toInt < t.length := by omega
        have hq3 : (d :: t).length - 1 - i.toInt.toNat = (t.length - 1 - i.toInt.toNat) + 1 := by omega
        obtain ⟨x, x1, x2, x3⟩ := ih n2 hn2 _ _ t h hd hw2 hq1 hq2 hi0
        refine ⟨x, x1, ?_, x3⟩
        rw [x2, hq3]
        rfl
  replace h := tx_lload_n (p' := 1) h em223_0 rfl rfl
  replace h := tx_lstore_n (p' := 2) h em223_1 rfl
  replace h : eT xq_223 _ 2 [some (.inr (.inr v)), none, some (.inl i), some (.inr (.inr v)), none, none] [] μ r μ' := h
  replace h := tx_lload_n (p' := 3) h em223_2 rfl rfl
  obtain ⟨r3, μ3, hE3, h⟩ := tx_invS (na := 1) (mn := 222) (as := [.inr (.inr v)]) (rest := []) (p' := 6) h em223_3 ((congrFun xo_12 280).trans rfl) xm_222 rfl rfl
  obtain ⟨x, rfl, hx, hm⟩ := ex_lettersIn hE3 hd0 hv
  rw [hm] at h
  replace h : eT xq_223 _ 6 [some (.inr (.inr v)), none, some (.inl i), some (.inr (.inr v)), none, none] [.inl x] μ r μ' := h
  replace h := tx_iconst (v := 1) (p' := 7) h em223_6 (by decide +kernel) rfl
  replace h := tx_isub (p' := 8) h em223_7 rfl
  replace h := tx_istore (p' := 10) h em223_8 rfl
  replace h : eT xq_223 _ 10 [some (.inr (.inr v)), none, some (.inl i), some (.inr (.inr v)), none, some (.inl (x - (1 : Int32)))] [] μ r μ' := h
  have h8 := hd0.2
  exact loop _ _ _ es h hd0 hv (by rw [an_sub (by rw [e1i]; omega) (by rw [e1i]; omega), e1i]; omega) hi1 hi0
