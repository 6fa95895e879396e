/-- the rows that can be gone back to: G 0 the newest of m -/
def hsZ (S : kSt) (Z : Nat → Option (Nat → Int32)) (μ : xM) : Prop := ∀ (i : Nat) (ρ : Nat → Int32), i < 3 → Z i = some ρ → ∃ c, μ.2.2.1 42 i = some c ∧ tw9 S c ρ μ
def hsL (S : kSt) (Z : Nat → Option (Nat → Int32)) (m : Nat) (G : Nat → Nat → Int32) (μ : xM) : Prop := (0 ≤ (μ.1 40 1).toInt ∧ (μ.1 40 1).toInt < 30) ∧ (μ.1 40 2).toInt = (m : Int) ∧ m ≤ 30 ∧ (∀ i, i < m → ∃ c, μ.2.2.1 41 (((μ.1 40 1).toInt.toNat + 29 - i) % 30) = some c ∧ tw9 S c (G i) μ) ∧ hsZ S Z μ
def gcons (ρ : Nat → Int32) (G : Nat → Nat → Int32) : Nat → Nat → Int32
  | 0 => ρ
  | i + 1 => G i
theorem hsL_cg {S : kSt} {m : Nat} {G : Nat → Nat → Int32} {Z : Nat → Option (Nat → Int32)} {μ ν : xM} (hI : hsI μ) (h : hsL S Z m G μ) (e2 : ν.2 = μ.2) (e40 : ν.1 40 1 = μ.1 40 1 ∧ ν.1 40 2 = μ.1 40 2) (e : ∀ a j, 119 ≤ a → ν.1 a j = μ.1 a j) : hsL S Z m G ν := by
  obtain ⟨a, b, c, d, z⟩ := h
  unfold hsL
  rw [e40.1, e40.2, e2]
  refine ⟨a, b, c, fun i hi => ?_, fun i ρ hi hz => ?_⟩
  · obtain ⟨k, k1, k2⟩ := d i hi
    exact ⟨k, k1, tw9_cg k2 (fun x j y _ => e x j (by have := (hI.2.1 41 _ k (Or.inl ⟨rfl, Nat.mod_lt _ (by decide)⟩) k1).1; omega))⟩
  · obtain ⟨k, k1, k2⟩ := z i ρ hi hz
    rw [e2]
    exact ⟨k, k1, tw9_cg k2 (fun x j y _ => e x j (by have := (hI.2.1 42 _ k (Or.inr rfl) k1).1; omega))⟩
theorem hsL_keep {S : kSt} {m c : Nat} {G : Nat → Nat → Int32} {Z : Nat → Option (Nat → Int32)} {ρ : Nat → Int32} {μ μ' : xM} (hW : kWf S) (hO : hOK μ) (hI : hsI μ) (h : hsL S Z m G μ) (hT : tw9 S 28 ρ μ) (hI' : hsI μ') (n1 : (μ'.1 40 1).toInt = ((μ.1 40 1).toInt + 1) % 30) (n2 : (μ'.1 40 2).toInt = (if (μ.1 40 2).toInt + 1 < 30 then (μ.1 40 2).toInt + 1 else 30)) (hc : μ'.2.2.1 41 (μ.1 40 1).toInt.toNat = some c) (ht : tcp c 28 μ μ') (hk : kpF c μ μ') : hsL S Z (min 30 (m + 1)) (gcons ρ G) μ' := by
  obtain ⟨a, b, c30, d, z9⟩ := h
  refine ⟨by omega, ?_, by omega, fun i hi => ?_, fun i ρz hi hz => ?_⟩
  · rw [n2, b]
    by_cases z : (m : Int) + 1 < 30
    · rw [if_pos z]; omega
    · rw [if_neg z]; omega
  · cases i with
    | zero => exact ⟨c, by rw [show ((μ'.1 40 1).toInt.toNat + 29 - 0) % 30 = (μ.1 40 1).toInt.toNat by omega]; exact hc, tw9_cp hW hT ht⟩
    | succ i =>
      obtain ⟨k, k1, k2⟩ := d i (by omega)
      have ei : ((μ'.1 40 1).toInt.toNat + 29 - (i + 1)) % 30 = ((μ.1 40 1).toInt.toNat + 29 - i) % 30 := by omega
      have hne : ¬ ((μ.1 40 1).toInt.toNat + 29 - i) % 30 = (μ.1 40 1).toInt.toNat := by omega
      have hlt : ((μ.1 40 1).toInt.toNat + 29 - i) % 30 < 30 := Nat.mod_lt _ (by decide)
      have hs := hI.2.1 41 _ k (Or.inl ⟨rfl, hlt⟩) k1
      have k1' : μ'.2.2.1 41 (((μ.1 40 1).toInt.toNat + 29 - i) % 30) = some k := by
        rw [hk.2.1 41 _ (by have := hO.1; omega) (fun q => hne q.2)]; exact k1
      refine ⟨k, by rw [ei]; exact k1', tw9_cg k2 (fun x j y z => hk.1 x j (by have := hs.2.1; omega) (by have := hs.1; omega) (fun q => ?_))⟩
      rcases hI'.2.2 41 _ 41 _ k c (Or.inl ⟨rfl, hlt⟩) (Or.inl ⟨rfl, by omega⟩) k1' hc with w | w | w
      · exact hne w.2
      · omega
      · omega
  · obtain ⟨k, k1, k2⟩ := z9 i ρz hi hz
    have hs := hI.2.1 42 _ k (Or.inr rfl) k1
    have k1' : μ'.2.2.1 42 i = some k := by
      rw [hk.2.1 42 _ (by have := hO.1; omega) (fun q => absurd q.1 (by decide))]; exact k1
    refine ⟨k, k1', tw9_cg k2 (fun x j y z => hk.1 x j (by have := hs.2.1; omega) (by have := hs.1; omega) (fun q => ?_))⟩
    rcases hI'.2.2 42 _ 41 _ k c (Or.inr rfl) (Or.inl ⟨rfl, by omega⟩) k1' hc with w | w | w
    · exact absurd w.1 (by decide)
    · omega
    · omega
/-- a verse laid -/
theorem tw9_lay {S : kSt} {vn : Nat} {v : Int32} {ρ ρ' : Nat → Int32} {μ μ' : xM} (hW : kWf S) (h : tw9 S 28 ρ μ) (hv : v.toInt = (vn : Int)) (hvn : vn < S.2.1.length) (h0 : ρ (320 + vn) = 0) (hst : pSt S vn (kV S vn).1.length (pNo vn ρ) = some ρ') (e1 : ∀ i, i < (kV S vn).1.length → μ.1 54 (8 * vn + i) = ρ' (330 + 8 * vn + i)) (g : gTy μ μ') (t : twA 28 (pLy S vn (fun i => μ.1 54 (8 * vn + i)) (kV S vn).1.length (pNo vn ρ)) μ') (f : ∀ j, μ'.1 33 j = if 8 * vn ≤ j ∧ j < 8 * vn + (kV S vn).1.length then μ.1 54 j else μ.1 33 j) (s : μ'.1 28 5 = μ.1 28 5 ||| ((1 : Int32) <<< (v &&& 31))) : tw9 S 28 (pUp ρ' (320 + vn) 1) μ' := by
  obtain ⟨p1, p2⟩ := pLy_of hW _ (Nat.le_refl _) ρ' hst
  obtain ⟨o1, -, -⟩ := pSt_out hW _ (Nat.le_refl _) ρ' hst
  have hV7 := hW.2.1
  have bv : v = Int32.ofNat vn := ofN hv
  have oo : ∀ x, 80 ≤ x → ¬ (330 + 8 * vn ≤ x ∧ x < 330 + 8 * vn + 8) → ρ' x = ρ x := fun x a b => (o1 x (Or.inr a) b).trans (if_neg b)
  rw [pLy_cg _ e1, ← p1] at t
  refine ⟨twA_r t (fun j hj => pUp_ne (by omega)), fun w hw => ?_⟩
  obtain ⟨b1, b2, b3, b4⟩ := h.2 w hw
  have e6 : μ'.1 28 6 = μ.1 28 6 := g.1 28 6 (by decide) (by decide) (by decide)
  rw [s, bv, xb_set (by omega) (by omega), e6]
  by_cases q : w = vn
  · subst q
    have n2 : ¬ stD ρ w := fun z => by
      unfold stD at z
      rw [h0] at z
      exact absurd z (by decide)
    have u : pUp ρ' (320 + w) 1 (320 + w) = 1 := pUp_at
    have uD : ¬ stD (pUp ρ' (320 + w) 1) w := fun z => by
      unfold stD at z
      rw [u] at z
      exact absurd z (by decide)
    refine ⟨⟨fun _ => Or.inl u, fun _ => by simp⟩, ⟨fun z => absurd (b2.mp z) n2, fun z => absurd z uD⟩, Or.inr (Or.inl (Or.inl u)), fun _ i hi => ?_⟩
    have h8 := (kWf_V hW w).1
    show μ'.1 33 _ = _ ∧ _
    rw [f, if_pos (by omega), pUp_ne (by omega), e1 i hi]
    exact ⟨rfl, p2 i hi⟩
  · have u : pUp ρ' (320 + vn) 1 (320 + w) = ρ (320 + w) := by rw [pUp_ne (by omega)]; exact oo _ (by omega) (by omega)
    have uS : stS (pUp ρ' (320 + vn) 1) w ↔ stS ρ w := by unfold stS; rw [u]
    have uD : stD (pUp ρ' (320 + vn) 1) w ↔ stD ρ w := by unfold stD; rw [u]
    rw [uS, uD, u, decide_eq_false q, Bool.or_false]
    refine ⟨b1, b2, b3, fun z i hi => ?_⟩
    have h8 := (kWf_V hW w).1
    have h9 := (kWf_V hW vn).1
    show μ'.1 33 _ = _ ∧ _
    rw [f, if_neg (by omega), pUp_ne (by omega), oo _ (by omega) (by omega)]
    exact b4 z i hi
abbrev xq_100 : xP := (⟨"CapitalCase", "set", "(I)Z"⟩, prog_1_method_17_code, 2, (some .boolean))
theorem zst_0 {a b : Bool} {ρ : Nat → Int32} {v : Nat} {Q : Prop} (h : (a = true ↔ stS ρ v) ∧ (b = true ↔ stD ρ v) ∧ (ρ (320 + v) = 0 ∨ stS ρ v ∨ stD ρ v) ∧ Q) (o : (a || b) = false) : ρ (320 + v) = 0 := by
  rw [Bool.or_eq_false_iff] at o
  rcases h.2.2.1 with e | e | e
  · exact e
  · have := h.1.mpr e; rw [o.1] at this; cases this
  · have := h.2.1.mpr e; rw [o.2] at this; cases this
theorem zst_1 {a b : Bool} {ρ : Nat → Int32} {v : Nat} {Q : Prop} (h : (a = true ↔ stS ρ v) ∧ (b = true ↔ stD ρ v) ∧ (ρ (320 + v) = 0 ∨ stS ρ v ∨ stD ρ v) ∧ Q) (o : (a || b) = true) : ¬ ρ (320 + v) = 0 := fun z => by
  rw [Bool.or_eq_true] at o
  rcases o with e | e
  · have e := h.1.mp e
    unfold stS at e
    rw [z] at e
    exact absurd e (by decide)
  · have e := h.2.1.mp e
    unfold stD at e
    rw [z] at e
    exact absurd e (by decide)
set_option maxRecDepth 10000 in
set_option maxHeartbeats 4000000 in
theorem ex_cset {v : Int32} {S : kSt} {ρ : Nat → Int32} {m : Nat} {G : Nat → Nat → Int32} {Z : Nat → Option (Nat → Int32)} {μ μ' : xM} {r : Option zV} (h0 : Ex gx xq_100 [.inr (.inl (some 0)), .inl v] μ r μ') (hO : hOK μ) (hP : pOK9 μ) (hS : cS9 S μ) (hT : tw9 S 28 ρ μ) (hI : hsI μ) (hL : hsL S Z m G μ) : (r = some (.inl 0) ∧ (∀ a j, a ≠ 49 → a ≠ 50 → a ≠ 53 → a ≠ 55 → a ≠ 56 → a ≠ 57 → a ≠ 58 → ¬ (a = 52 ∧ 5 ≤ j ∧ j ≤ 8) → a ≠ 54 → μ'.1 a j = μ.1 a j) ∧ μ'.2 = μ.2 ∧ ∀ vm : Nat, v.toInt = (vm : Int) → vm < S.2.1.length → ρ (320 + vm) = 0 → pSt S vm (kV S vm).1.length (pNo vm ρ) = none) ∨ (r = some (.inl 1) ∧ ∃ (vn : Nat) (ρ' : Nat → Int32), v.toInt = (vn : Int) ∧ vn < S.2.1.length ∧ ρ (320 + vn) = 0 ∧ pSt S vn (kV S vn).1.length (pNo vn ρ) = some ρ' ∧ tw9 S 28 (pUp ρ' (320 + vn) 1) μ' ∧ hsL S Z (min 30 (m + 1)) (gcons ρ G) μ' ∧ hsI μ' ∧ hOK μ' ∧ pOK9 μ' ∧ cS9 S μ') := by
  obtain ⟨n, h⟩ := tx_in (L := [some (.inr (.inl (some 0))), some (.inl v)]) h0 rfl
  replace h := tx_aload_n (p' := 1) h em100_0 rfl rfl
  replace h := tx_iload_n (p' := 2) h em100_1 rfl rfl
  obtain ⟨r2, μ2, hE2, h⟩ := tx_invV (na := 2) (mn := 91) (as := [.inr (.inl (some 0)), .inl v]) (rest := []) (p' := 5) h em100_2 ((congrFun xo_0 175).trans rfl) xm_91 rfl rfl
  obtain ⟨hm1, ⟨rfl, v1, v2⟩ | ⟨rfl, v1⟩⟩ := ex_cisVerse hE2 hS.2.2.1.1.2.1
  · rw [hm1] at h
    obtain ⟨vn, hv⟩ : ∃ vn : Nat, v.toInt = (vn : Int) := ⟨v.toInt.toNat, by omega⟩
    have hvn : vn < S.2.1.length := by omega
    replace h : eT xq_100 _ 5 [some (.inr (.inl (some 0))), some (.inl v)] [.inl (1 : Int32)] μ r μ' := h
    rcases tx_if (t := 24) (p' := 8) h em100_5 (by decide) rfl with ⟨c5, h⟩ | ⟨c5, h⟩
    · replace c5 : (1 : Int) = (0 : Int) := c5
      exfalso
      omega
    · replace c5 : ¬ (1 : Int) = (0 : Int) := c5
      replace h := tx_aload_n (p' := 9) h em100_8 rfl rfl
      replace h := tx_iload_n (p' := 10) h em100_9 rfl rfl
      obtain ⟨r10, μ10, hE10, h⟩ := tx_invV (na := 2) (mn := 90) (as := [.inr (.inl (some 0)), .inl v]) (rest := []) (p' := 13) h em100_10 ((congrFun xo_0 214).trans rfl) xm_90 rfl rfl
      obtain ⟨hm2, ⟨rfl, o1⟩ | ⟨rfl, o1⟩⟩ := ex_cisOpen hE10 hS hv hvn
      · rw [hm2] at h
        replace h : eT xq_100 _ 13 [some (.inr (.inl (some 0))), some (.inl v)] [.inl (1 : Int32)] μ r μ' := h
        rcases tx_if (t := 24) (p' := 16) h em100_13 (by decide) rfl with ⟨c13, h⟩ | ⟨c13, h⟩
        · replace c13 : (1 : Int) = (0 : Int) := c13
          exfalso
          omega
        · replace c13 : ¬ (1 : Int) = (0 : Int) := c13
          replace h := tx_aload_n (p' := 17) h em100_16 rfl rfl
          replace h := tx_iload_n (p' := 18) h em100_17 rfl rfl
          obtain ⟨r18, μ18, hE18, h⟩ := tx_invV (na := 2) (mn := 78) (as := [.inr (.inl (some 0)), .inl v]) (rest := []) (p' := 21) h em100_18 ((congrFun xo_0 217).trans rfl) xm_78 rfl rfl
          obtain ⟨w1, ⟨rfl, ρ9, w2, w3⟩ | ⟨rfl, w2⟩⟩ := ex_couldBeSet hE18 hO hP hS hT.1 hv hvn
          · replace h : eT xq_100 _ 21 [some (.inr (.inl (some 0))), some (.inl v)] [.inl (1 : Int32)] μ18 r μ' := h
            rcases tx_if (t := 26) (p' := 24) h em100_21 (by decide) rfl with ⟨c21, h⟩ | ⟨c21, h⟩
            · replace c21 : ¬ (1 : Int) = (0 : Int) := c21
              replace h := tx_aload_n (p' := 27) h em100_26 rfl rfl
              replace h := tx_getc (c := 11) (j := 8) (p' := 30) h em100_27 ((congrFun xo_0 49).trans rfl) rfl rfl rfl
              replace h := tx_aload_n (p' := 31) h em100_30 rfl rfl
              replace h := tx_getc (c := 11) (j := 1) (p' := 34) h em100_31 ((congrFun xo_0 39).trans rfl) rfl rfl rfl
              obtain ⟨r34, μ34, hE34, h⟩ := tx_invV (na := 2) (mn := 0) (as := [.inr (.inl (some 40)), .inr (.inl (some 28))]) (rest := []) (p' := 37) h em100_34 ((congrFun xo_0 220).trans rfl) xm_0 rfl rfl
              have hO3 := hOK_2 w1.2 hO
              have hI3 := hsI_2 w1.2 hI
              have hN := hO.1
              have hL3 := hsL_cg hI hL w1.2 ⟨w1.1 40 1 (by decide) (by decide) (by decide) (by decide) (by decide) (by decide) (by decide) (by decide) (by omega), w1.1 40 2 (by decide) (by decide) (by decide) (by decide) (by decide) (by decide) (by decide) (by decide) (by omega)⟩ (fun a j q => w1.1 a j (by omega) (by omega) (by omega) (by omega) (by omega) (by omega) (by omega) (by omega) (by omega))
              have hT3 := tw9_cg hT (ν := μ18) (fun a j q1 q2 => w1.1 a j (by omega) (by omega) (by omega) (by omega) (by omega) (by omega) (by omega) (by omega) (by omega))
              obtain ⟨rfl, hO4, hI4, n0, n1, n2, c, hc, ht, hk⟩ := ex_keep hE34 hO3 hI3 (by have := hL3.2.1; have := hL3.2.2.1; omega)
              have hL4 := hsL_keep hS.1 hO3 hI3 hL3 hT3 hI4 n1 n2 hc ht hk
              have hcN := (hI4.2.1 41 _ c (Or.inl ⟨rfl, by omega⟩) hc).1
              have e4 : ∀ a j, a < 119 → a ≠ 40 → μ34.1 a j = μ18.1 a j := fun a j q z => hk.1 a j (by have := hO3.1; omega) z (by omega)
              have hT4 := tw9_cg hT3 (fun a j q1 q2 => e4 a j (by omega) (by omega))
              have hS3 := cS9_cg hS (fun k j a b => w1.1 k j (by omega) (by omega) (by omega) (by omega) (by omega) (by omega) (by omega) (by omega) (by omega))
              have hS4 := cS9_cg hS3 (fun k j a b => e4 k j (by omega) (by omega))
              have hP4 : pOK9 μ34 := fun p hp j hj => (hk.2.1 p j (by have := hO3.1; omega) (fun q => by omega)).trans (pOK9_2 w1.2 hP p hp j hj)
              replace h : eT xq_100 _ 37 [some (.inr (.inl (some 0))), some (.inl v)] [] μ34 r μ' := h
              replace h := tx_aload_n (p' := 38) h em100_37 rfl rfl
              replace h := tx_getc (c := 11) (j := 1) (p' := 41) h em100_38 ((congrFun xo_0 39).trans rfl) rfl rfl rfl
              replace h := tx_aload_n (p' := 42) h em100_41 rfl rfl
              replace h := tx_getc (c := 11) (j := 0) (p' := 45) h em100_42 ((congrFun xo_0 23).trans rfl) rfl rfl rfl
              replace h := tx_iload_n (p' := 46) h em100_45 rfl rfl
              replace h := tx_aload_n (p' := 47) h em100_46 rfl rfl
              replace h := tx_getc (c := 11) (j := 4) (p' := 50) h em100_47 ((congrFun xo_0 89).trans rfl) rfl rfl rfl
              obtain ⟨b50, hk_b50, hr_b50, h⟩ := tx_getk (c := 3) (j := 3) (p' := 53) h em100_50 ((congrFun xo_0 224).trans rfl) rfl rfl rfl
              have eb50 : b50 = 54 := Option.some.inj (hr_b50.symm.trans ((hP4) 52 (by decide) 3 (by decide)))
              subst eb50
              obtain ⟨r53, μ53, hE53, h⟩ := tx_invV (na := 4) (mn := 52) (as := [.inr (.inl (some 28)), .inr (.inl (some 2)), .inl v, .inr (.inl (some 54))]) (rest := []) (p' := 56) h em100_53 ((congrFun xo_0 227).trans rfl) xm_52 rfl rfl
              obtain ⟨p1, p2⟩ := pLy_of hS.1 _ (Nat.le_refl _) ρ9 w2
              have e54 : ∀ i, i < (kV S vn).1.length → μ34.1 54 (8 * vn + i) = ρ9 (330 + 8 * vn + i) := fun i hi => (e4 54 _ (by decide) (by decide)).trans (w3 i hi)
              obtain ⟨rfl, y1, y2, y3, y4⟩ := ex_clay hE53 hO4 hS4 (twA_r (ρ' := pNo vn ρ) hT4.1 (fun j hj => if_neg (by have := hS.1.2.1; omega))) hv hvn (fun i hi => by rw [e54 i hi]; exact p2 i hi)
              replace h : eT xq_100 _ 56 [some (.inr (.inl (some 0))), some (.inl v)] [] μ53 r μ' := h
              replace h := tx_iconst (v := 1) (p' := 57) h em100_56 (by decide +kernel) rfl
              obtain ⟨rfl, hμ⟩ := tx_ireturn h em100_57
              have h00 : ρ (320 + vn) = 0 := zst_0 (hT.2 vn hvn) o1
              rw [hμ]
              refine Or.inr ⟨rfl, vn, ρ9, hv, hvn, h00, w2, ?_, ?_, hsI_2 y1.2 hI4, hOK_2 y1.2 hO4, pOK9_2 y1.2 hP4, cS9_T hS4 y1⟩
              · exact tw9_lay hS.1 hT4 hv hvn h00 w2 e54 y1 y2 y3 y4
              · exact hsL_cg hI4 hL4 y1.2 ⟨y1.1 40 1 (by decide) (by decide) (by decide), y1.1 40 2 (by decide) (by decide) (by decide)⟩ (fun a j q => y1.1 a j (by omega) (by omega) (by omega))
            · replace c21 : ¬ ¬ (1 : Int) = (0 : Int) := c21
              exfalso
              omega
          · replace h : eT xq_100 _ 21 [some (.inr (.inl (some 0))), some (.inl v)] [.inl (0 : Int32)] μ18 r μ' := h
            rcases tx_if (t := 26) (p' := 24) h em100_21 (by decide) rfl with ⟨c21_1, h⟩ | ⟨c21_1, h⟩
            · replace c21_1 : ¬ (0 : Int) = (0 : Int) := c21_1
              exfalso
              omega
            · replace c21_1 : ¬ ¬ (0 : Int) = (0 : Int) := c21_1
              replace h := tx_iconst (v := 0) (p' := 25) h em100_24 (by decide +kernel) rfl
              obtain ⟨rfl, hμ⟩ := tx_ireturn h em100_25
              rw [hμ]
              exact Or.inl ⟨rfl, fun a j b1 b2 b3 b4 b5 b6 b7 b8 b9 => w1.1 a j b1 b2 b3 b4 b5 b6 b7 b8 (fun q => b9 q.1), w1.2, fun vm g1 g2 g3 => by rw [show vm = vn by omega]; exact w2⟩
      · rw [hm2] at h
        replace h : eT xq_100 _ 13 [some (.inr (.inl (some 0))), some (.inl v)] [.inl (0 : Int32)] μ r μ' := h
        rcases tx_if (t := 24) (p' := 16) h em100_13 (by decide) rfl with ⟨c13_1, h⟩ | ⟨c13_1, h⟩
        · replace c13_1 : (0 : Int) = (0 : Int) := c13_1
          replace h := tx_iconst (v := 0) (p' := 25) h em100_24 (by decide +kernel) rfl
          obtain ⟨rfl, hμ⟩ := tx_ireturn h em100_25
          rw [hμ]
          exact Or.inl ⟨rfl, fun _ _ _ _ _ _ _ _ _ _ _ => rfl, rfl, fun vm g1 g2 g3 => absurd g3 (by rw [show vm = vn by omega]; exact zst_1 (hT.2 vn hvn) o1)⟩
        · replace c13_1 : ¬ (0 : Int) = (0 : Int) := c13_1
          exfalso
          omega
  · rw [hm1] at h
    replace h : eT xq_100 _ 5 [some (.inr (.inl (some 0))), some (.inl v)] [.inl (0 : Int32)] μ r μ' := h
    rcases tx_if (t := 24) (p' := 8) h em100_5 (by decide) rfl with ⟨c5_1, h⟩ | ⟨c5_1, h⟩
    · replace c5_1 : (0 : Int) = (0 : Int) := c5_1
      replace h := tx_iconst (v := 0) (p' := 25) h em100_24 (by decide +kernel) rfl
      obtain ⟨rfl, hμ⟩ := tx_ireturn h em100_25
      rw [hμ]
      exact Or.inl ⟨rfl, fun _ _ _ _ _ _ _ _ _ _ _ => rfl, rfl, fun vm g1 g2 g3 => by exfalso; omega⟩
    · replace c5_1 : ¬ (0 : Int) = (0 : Int) := c5_1
      exfalso
      omega
