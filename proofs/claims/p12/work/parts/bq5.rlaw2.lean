/-! ===== a law of the reference ===== -/
def rB (μ : xM) : Int := (μ.1 75 43).toInt
def rC9 (μ : xM) : Int := (μ.1 75 49).toInt
/-- branches' rows, and which law stands where, stand -/
def vE (μ μ' : xM) : Prop := hOK μ' ∧ (∀ k j, 94 ≤ k → k ≤ 100 → μ'.1 k j = μ.1 k j) ∧ μ'.1 75 43 = μ.1 75 43
def uE (μ μ' : xM) : Prop := vE μ μ' ∧ (∀ j, μ'.1 101 j = μ.1 101 j) ∧ (∀ j, μ'.1 102 j = μ.1 102 j) ∧ μ'.1 75 49 = μ.1 75 49
noncomputable def vB (W : hW) : Bool := (List.range 7).all (fun k => hpA W (94 + k)) && hpB W 75 43
noncomputable def uB (W : hW) : Bool := vB W && (hpA W 101 && (hpA W 102 && hpB W 75 49))
theorem vE_w {W : hW} {μ μ' : xM} (hk : vB W = true) (h : hRm (hP W) (hQ W) μ μ') (hO : hOK μ) : vE μ μ' := by
  unfold vB at hk
  rw [Bool.and_eq_true] at hk
  refine ⟨(h hO).1, fun k j h1 h2 => hSt h hO (by omega) (hpA_ok ?_ j), hSt h hO (by decide) hk.2⟩
  have := List.all_eq_true.mp hk.1 (k - 94) (List.mem_range.mpr (by omega))
  rw [show 94 + (k - 94) = k by omega] at this
  exact this
theorem uE_w {W : hW} {μ μ' : xM} (hk : uB W = true) (h : hRm (hP W) (hQ W) μ μ') (hO : hOK μ) : uE μ μ' := by
  unfold uB at hk
  rw [Bool.and_eq_true, Bool.and_eq_true, Bool.and_eq_true] at hk
  exact ⟨vE_w hk.1 h hO, fun j => hSt h hO (by decide) (hpA_ok hk.2.1 j), fun j => hSt h hO (by decide) (hpA_ok hk.2.2.1 j), hSt h hO (by decide) hk.2.2.2⟩
/-- codes from x to y are C, between lo and hi -/
def sg (ω : xM) (lo hi x y : Int) (C : List kOp) : Prop := lo ≤ x ∧ y ≤ hi ∧ y = x + C.length ∧ ∀ i : Nat, i < C.length → (ω.1 101 (x.toNat + i)).toInt = (C.getD i (0, 0)).1 ∧ (ω.1 102 (x.toNat + i)).toInt = (C.getD i (0, 0)).2
theorem sg_b {ν m : xM} {lo : Int} {C : List kOp} (h : bP ν m C) (h0 : lo ≤ rC9 ν) : sg m lo (rC9 m) (rC9 ν) (rC9 m) C := ⟨h0, Int.le_refl _, h.1, h.2.2⟩
theorem sg_f {ω m : xM} {lo hi hi' x y : Int} {C : List kOp} (h : sg ω lo hi x y C) (hf : fP ω m) (h0 : 0 ≤ lo) (h1 : hi ≤ rC9 ω) (h2 : hi ≤ hi') : sg m lo hi' x y C := by
  obtain ⟨a, b, c, d⟩ := h
  refine ⟨a, by omega, c, fun i hi => ?_⟩
  have e := hf (x.toNat + i) (Or.inl (by unfold rC9 at *; omega))
  rw [e.1, e.2]
  exact d i hi
theorem sg_u {ω m : xM} {lo hi x y : Int} {C : List kOp} (h : sg ω lo hi x y C) (h1 : ∀ j, m.1 101 j = ω.1 101 j) (h2 : ∀ j, m.1 102 j = ω.1 102 j) : sg m lo hi x y C := ⟨h.1, h.2.1, h.2.2.1, fun i hi => by rw [h1, h2]; exact h.2.2.2 i hi⟩
/-- a branch: its test's two sides, what it tells -/
def brc (ω : xM) (lo hi : Int) (b : Nat) (X : List kOp × List kOp × List kOp) : Prop := (ω.1 96 b).toInt = 1 ∧ sg ω lo hi (ω.1 97 b).toInt (ω.1 98 b).toInt X.1 ∧ sg ω lo hi (ω.1 98 b).toInt (ω.1 99 b).toInt X.2.1 ∧ sg ω lo hi (ω.1 99 b).toInt (ω.1 100 b).toInt X.2.2
theorem brc_f {ω m : xM} {lo hi hi' : Int} {b : Nat} {X : List kOp × List kOp × List kOp} (h : brc ω lo hi b X) (e : ∀ k, 96 ≤ k → k ≤ 100 → m.1 k b = ω.1 k b) (hf : fP ω m) (h0 : 0 ≤ lo) (h1 : hi ≤ rC9 ω) (h2 : hi ≤ hi') : brc m lo hi' b X := by
  unfold brc
  rw [e 96 (by decide) (by decide), e 97 (by decide) (by decide), e 98 (by decide) (by decide), e 99 (by decide) (by decide), e 100 (by decide) (by decide)]
  exact ⟨h.1, sg_f h.2.1 hf h0 h1 h2, sg_f h.2.2.1 hf h0 h1 h2, sg_f h.2.2.2 hf h0 h1 h2⟩
/-- what stands while the branch b is told, from ω on -/
def iB (ω ν : xM) (b : Nat) : Prop := (hOK ν ∧ rE ω ν) ∧ ((∀ j, ν.1 94 j = ω.1 94 j) ∧ (∀ j, ν.1 95 j = ω.1 95 j) ∧ ∀ k j, 96 ≤ k → k ≤ 100 → ¬ j = b → ν.1 k j = ω.1 k j) ∧ (fP ω ν ∧ rB ν = rB ω) ∧ (rC9 ω ≤ rC9 ν ∧ (rF ν = 0 → rC9 ν ≤ rC9 ω + (rT ν - rT ω)) ∧ rC9 ν ≤ rC9 ω + (rT ν - rT ω) + 1) ∧ (rT ω ≤ rT ν ∧ rT ν ≤ 400) ∧ 0 ≤ rF ν ∧ (rF ν = 0 → rQ ν = 0)
theorem iB_w {ω ν : xM} {b k : Nat} {v : Int32} (h : iB ω ν b) (hk : 96 ≤ k ∧ k ≤ 100) : iB ω (xpi ν k b v) b := by
  obtain ⟨⟨a1, a2⟩, ⟨b1, b2, b3⟩, ⟨c1, c2⟩, d, e, f, g⟩ := h
  exact ⟨⟨hOK_2 rfl a1, rE_c a2 (by omega)⟩, ⟨fun j => (xpi_ne (fun q => by omega)).trans (b1 j), fun j => (xpi_ne (fun q => by omega)).trans (b2 j), fun i j h1 h2 h3 => (xpi_ne (fun q => h3 q.2)).trans (b3 i j h1 h2 h3)⟩, ⟨fP_e c1 (fun j => xpi_ne (fun q => by omega)) (fun j => xpi_ne (fun q => by omega)) (xpi_ne (fun q => by omega)), by unfold rB at *; rw [xpi_ne (fun q => by omega)]; exact c2⟩, by unfold rC9 rF rT at *; rw [xpi_ne (fun q => by omega), xpi_ne (fun q => by omega), xpi_ne (fun q => by omega)]; exact d, by unfold rT at *; rw [xpi_ne (fun q => by omega)]; exact e, by unfold rF at *; rw [xpi_ne (fun q => by omega)]; exact f, by unfold rF rQ at *; rw [xpi_ne (fun q => by omega), xpi_ne (fun q => by omega)]; exact g⟩
/-- a step of the parser that prints nothing -/
def pM (ν m : xM) : Prop := (uE ν m ∧ rE ν m) ∧ rQ m = rQ ν ∧ ((rT m = rT ν ∧ 0 < rF m) ∨ (rT m = rT ν + 1 ∧ rF m = rF ν ∧ rT ν ≤ 399))
/-- an expression -/
def eM (ν m : xM) : Prop := (vE ν m ∧ rE ν m) ∧ (0 ≤ rF m ∧ (0 < rF ν → 0 < rF m ∧ rC9 m = rC9 ν ∧ rT m = rT ν)) ∧ eB ν m ∧ fP ν m ∧ (rF m = 0 → rF ν = 0 ∧ bP ν m (ys (rK ν) (rVl ν) (rT ν) 0 false []) ∧ pEx (rK ν) (rT ν) = (rT m, 0) ∧ rQ m = 0 ∧ rT ν < rT m)
theorem iB_p {ω ν m : xM} {b : Nat} (h : iB ω ν b) (hp : pM ν m) : iB ω m b := by
  obtain ⟨⟨a1, a2⟩, ⟨b1, b2, b3⟩, ⟨c1, c2⟩, d, e, f, g⟩ := h
  obtain ⟨⟨⟨⟨u1, u2, u3⟩, u4, u5, u6⟩, p2⟩, p3, p4⟩ := hp
  have e9 : rC9 m = rC9 ν := by unfold rC9; rw [u6]
  refine ⟨⟨u1, rE_tr a2 p2⟩, ⟨fun j => (u2 94 j (by decide) (by decide)).trans (b1 j), fun j => (u2 95 j (by decide) (by decide)).trans (b2 j), fun i j h1 h2 h3 => (u2 i j (by omega) h2).trans (b3 i j h1 h2 h3)⟩, ⟨fP_e c1 u4 u5 u6, by unfold rB at *; rw [u3]; exact c2⟩, ?_, ?_, ?_, ?_⟩
  · rw [e9]
    rcases p4 with ⟨q1, q2⟩ | ⟨q1, q2, q3⟩
    · exact ⟨d.1, fun q => by omega, by omega⟩
    · exact ⟨d.1, fun q => by have := d.2.1 (by omega); omega, by omega⟩
  · omega
  · omega
  · intro q
    rw [p3]
    exact g (by omega)
theorem iB_x {ω ν m : xM} {b : Nat} (h : iB ω ν b) (hx : eM ν m) : iB ω m b := by
  obtain ⟨⟨a1, a2⟩, ⟨b1, b2, b3⟩, ⟨c1, c2⟩, d, e, f, g⟩ := h
  obtain ⟨⟨⟨u1, u2, u3⟩, p2⟩, p3, p4, p5, p6⟩ := hx
  obtain ⟨q1, q2, q3, q4, q5⟩ := p4
  have q1 : rC9 ν ≤ rC9 m := q1
  have q2 : rF m = 0 → rC9 m ≤ rC9 ν + (rT m - rT ν) := q2
  have q3 : rC9 m ≤ rC9 ν + (rT m - rT ν) + 1 := q3
  refine ⟨⟨u1, rE_tr a2 p2⟩, ⟨fun j => (u2 94 j (by decide) (by decide)).trans (b1 j), fun j => (u2 95 j (by decide) (by decide)).trans (b2 j), fun i j h1 h2 h3 => (u2 i j (by omega) h2).trans (b3 i j h1 h2 h3)⟩, ⟨fP_tr c1 p5 d.1 q1, by unfold rB at *; rw [u3]; exact c2⟩, ?_, by omega, by omega, fun q => (p6 q).2.2.2.1⟩
  refine ⟨by omega, fun q => ?_, ?_⟩
  · have := d.2.1 (p6 q).1
    have := q2 q
    omega
  · by_cases z : rF ν = 0
    · have := d.2.1 z
      omega
    · have := p3.2 (by omega)
      omega
theorem ex_goW {μ μ' : xM} {r : Option zV} (hE : Ex gx xq_144 [.inr (.inl (some 75))] μ r μ') (h0 : 0 ≤ rT μ) (h4 : rT μ ≤ 400) (hF : 0 ≤ rF μ) (hO : hOK μ) : r = none ∧ pM μ μ' := by
  obtain ⟨h1, h2⟩ := st_goesOn hE (fun _ => ⟨h0, h4⟩)
  have hu := uE_w (by decide +kernel) (hf_144_0 hE (hEn0 (by decide)) hO).2 hO
  exact ⟨h1, ⟨hu, rE_m h2.1⟩, by unfold rQ; rw [h2.1.2.1 26 (by decide) (by decide) (by decide)], ex_go3 hE h0 h4 hF⟩
theorem ex_faW {f : Int32} {μ μ' : xM} {r : Option zV} (hE : Ex gx xq_133 [.inr (.inl (some 75)), .inl f] μ r μ') (hf : 0 < f.toInt) (hO : hOK μ) : r = none ∧ pM μ μ' := by
  obtain ⟨h1, h2⟩ := st_fail (f0 := f.toInt) hE rfl (by omega)
  obtain ⟨k1, k2, -⟩ := ex_fl3 hE hf
  have hu := uE_w (by decide +kernel) (hf_133_0 hE (hEn0 (by decide)) hO).2 hO
  exact ⟨h1, ⟨hu, rE_m h2.1⟩, by unfold rQ; rw [h2.1.2.1 26 (by decide) (by decide) (by decide)], Or.inl ⟨k1, k2⟩⟩
set_option maxRecDepth 10000 in
set_option maxHeartbeats 4000000 in
theorem ex_mu3 {k : Int32} {μ μ' : xM} {r : Option zV} (h0 : Ex gx xq_169 [.inr (.inl (some 75)), .inl k] μ r μ') (hk : 0 ≤ kmp k.toInt) (hr0 : 0 ≤ rT μ) (h4 : rT μ ≤ 400) (hF : 0 ≤ rF μ) : (rT μ' = rT μ ∧ 0 < rF μ') ∨ (rT μ' = rT μ + 1 ∧ rF μ' = rF μ ∧ rT μ ≤ 399) := by
  obtain ⟨n, h⟩ := tx_in (L := [some (.inr (.inl (some 75))), some (.inl k)]) h0 rfl
  replace h := tx_aload_n (p' := 1) h em169_0 rfl rfl
  replace h := tx_iload_n (p' := 2) h em169_1 rfl rfl
  obtain ⟨r2, μ2, hE2, h⟩ := tx_invV (na := 2) (mn := 149) (as := [.inr (.inl (some 75)), .inl k]) (rest := []) (p' := 5) h em169_2 ((congrFun xo_12 218).trans rfl) xm_149 rfl rfl
  obtain ⟨hm, ⟨rfl, i21, i22, i23⟩ | ⟨rfl, i21⟩⟩ := ex_is hE2 (hk)
  · rw [hm] at h
    replace h : eT xq_169 _ 5 [some (.inr (.inl (some 75))), some (.inl k)] [.inl (1 : Int32)] μ r μ' := h
    rcases tx_if (t := 15) (p' := 8) h em169_5 (by decide) rfl with ⟨c5, h⟩ | ⟨c5, h⟩
    · replace c5 : (1 : Int) = (0 : Int) := c5
      exfalso
      omega
    · replace c5 : ¬ (1 : Int) = (0 : Int) := c5
      replace h := tx_aload_n (p' := 9) h em169_8 rfl rfl
      obtain ⟨r9, μ9, hE9, h⟩ := tx_invV (na := 1) (mn := 144) (as := [.inr (.inl (some 75))]) (rest := []) (p' := 12) h em169_9 ((congrFun xo_12 221).trans rfl) xm_144 rfl rfl
      have hg9 := ex_go3 hE9 hr0 h4 hF
      obtain ⟨rfl, -⟩ := st_goesOn hE9 (fun _ => ⟨hr0, h4⟩)
      replace h : eT xq_169 _ 12 [some (.inr (.inl (some 75))), some (.inl k)] [] μ9 r μ' := h
      replace h := tx_goto (t := 20) h em169_12 (by decide)
      obtain ⟨rfl, hμ⟩ := tx_return h em169_20
      rw [hμ]
      exact hg9
  · rw [hm] at h
    replace h : eT xq_169 _ 5 [some (.inr (.inl (some 75))), some (.inl k)] [.inl (0 : Int32)] μ r μ' := h
    rcases tx_if (t := 15) (p' := 8) h em169_5 (by decide) rfl with ⟨c5_1, h⟩ | ⟨c5_1, h⟩
    · replace c5_1 : (0 : Int) = (0 : Int) := c5_1
      replace h := tx_aload_n (p' := 16) h em169_15 rfl rfl
      replace h := tx_iconst (v := 1) (p' := 17) h em169_16 (by decide +kernel) rfl
      obtain ⟨r17, μ17, hE17, h⟩ := tx_invV (na := 2) (mn := 133) (as := [.inr (.inl (some 75)), .inl (1 : Int32)]) (rest := []) (p' := 20) h em169_17 ((congrFun xo_12 215).trans rfl) xm_133 rfl rfl
      have hf17 := ex_fl3 hE17 (by decide)
      obtain ⟨rfl, -⟩ := st_fail (f0 := 1) hE17 (by decide) (by decide)
      replace h : eT xq_169 _ 20 [some (.inr (.inl (some 75))), some (.inl k)] [] μ17 r μ' := h
      obtain ⟨rfl, hμ⟩ := tx_return h em169_20
      rw [hμ]
      exact Or.inl ⟨hf17.1, hf17.2.1⟩
    · replace c5_1 : ¬ (0 : Int) = (0 : Int) := c5_1
      exfalso
      omega
theorem ex_muW {k : Int32} {μ μ' : xM} {r : Option zV} (hE : Ex gx xq_169 [.inr (.inl (some 75)), .inl k] μ r μ') (hk : 0 ≤ kmp k.toInt) (h0 : 0 ≤ rT μ) (h4 : rT μ ≤ 400) (hF : 0 ≤ rF μ) (hO : hOK μ) : r = none ∧ pM μ μ' := by
  obtain ⟨h1, h2⟩ := st_must hE hk (fun _ => ⟨h0, h4⟩)
  have hu := uE_w (by decide +kernel) (hf_169_0 hE (hEn0 (by decide)) hO).2 hO
  exact ⟨h1, ⟨hu, rE_m h2.1⟩, by unfold rQ; rw [h2.1.2.1 26 (by decide) (by decide) (by decide)], ex_mu3 hE hk h0 h4 hF⟩
set_option maxRecDepth 10000 in
set_option maxHeartbeats 4000000 in
theorem ex_exprz {μ μ' : xM} {r : Option zV} (h0 : Ex gx xq_230 [.inr (.inl (some 75))] μ r μ') (hf : 0 < rF μ) : μ' = xpi μ 75 55 (0 : Int32) := by
  obtain ⟨n, h⟩ := tx_in (L := [some (.inr (.inl (some 75))), none, none]) h0 rfl
  replace h := tx_aload_n (p' := 1) h em230_0 rfl rfl
  replace h := tx_iconst (v := 0) (p' := 2) h em230_1 (by decide +kernel) rfl
  replace h := tx_putf (a := 75) (c := 12) (j := 55) (p' := 5) h em230_2 ((congrFun xo_12 307).trans rfl) rfl
  replace h := tx_aload_n (p' := 6) h em230_5 rfl rfl
  replace h := tx_getf (c := 12) (j := 26) (p' := 9) h em230_6 ((congrFun xo_12 227).trans rfl) rfl rfl (by decide) rfl
  replace h : eT xq_230 _ 9 [some (.inr (.inl (some 75))), none, none] [.inl (μ.1 75 26)] (xpi μ 75 55 (0 : Int32)) r μ' := h
  replace h := tx_istore_n (p' := 10) h em230_9 rfl
  replace h : eT xq_230 _ 10 [some (.inr (.inl (some 75))), some (.inl (μ.1 75 26)), none] [] (xpi μ 75 55 (0 : Int32)) r μ' := h
  replace h := tx_iconst (v := 1) (p' := 11) h em230_10 (by decide +kernel) rfl
  replace h := tx_istore_n (p' := 12) h em230_11 rfl
  replace h : eT xq_230 _ 12 [some (.inr (.inl (some 75))), some (.inl (μ.1 75 26)), some (.inl (1 : Int32))] [] (xpi μ 75 55 (0 : Int32)) r μ' := h
  replace h := tx_iload_n (p' := 13) h em230_12 rfl rfl
  rcases tx_if (t := 272) (p' := 16) h em230_13 (by decide) rfl with ⟨c13, h⟩ | ⟨c13, h⟩
  · replace c13 : (1 : Int) = (0 : Int) := c13
    exfalso
    omega
  · replace c13 : ¬ (1 : Int) = (0 : Int) := c13
    replace h := tx_aload_n (p' := 17) h em230_16 rfl rfl
    replace h := tx_getf (c := 12) (j := 27) (p' := 20) h em230_17 ((congrFun xo_12 200).trans rfl) rfl rfl (by decide) rfl
    replace h : eT xq_230 _ 20 [some (.inr (.inl (some 75))), some (.inl (μ.1 75 26)), some (.inl (1 : Int32))] [.inl (μ.1 75 27)] (xpi μ 75 55 (0 : Int32)) r μ' := h
    rcases tx_if (t := 272) (p' := 23) h em230_20 (by decide) rfl with ⟨c20, h⟩ | ⟨c20, h⟩
    · replace c20 : ¬ (μ.1 75 27).toInt = 0 := c20
      obtain ⟨rfl, hμ⟩ := tx_return h em230_272
      exact hμ
    · replace c20 : ¬ ¬ (μ.1 75 27).toInt = 0 := c20
      exfalso
      unfold rF at hf
      omega
theorem xsF_nn {K : Int → Int} : ∀ (n : Nat) (a d : Int) (m : Bool), 0 ≤ (xsF K n a d m).2
  | 0, a, d, m => by unfold xsF; show (0 : Int) ≤ 2; omega
  | n + 1, a, d, false => by
    unfold xsF
    split
    · split
      · show (0 : Int) ≤ 2; omega
      · exact xsF_nn n _ _ _
    · split
      · split
        · show (0 : Int) ≤ 2; omega
        · exact xsF_nn n _ _ _
      · show (0 : Int) ≤ 1; omega
  | n + 1, a, d, true => by
    unfold xsF
    split
    · split
      · show (0 : Int) ≤ 2; omega
      · exact xsF_nn n _ _ _
    · split
      · split
        · show (0 : Int) ≤ 2; omega
        · exact xsF_nn n _ _ _
      · split
        · show (0 : Int) ≤ 0; omega
        · show (0 : Int) ≤ 1; omega
theorem xsF_gt {K : Int → Int} (n : Nat) (a d : Int) : (xsF K n a d false).2 = 0 → a < (xsF K n a d false).1 := by
  intro h
  cases n with
  | zero => unfold xsF at h; exact absurd (show (2 : Int) = 0 from h) (by decide)
  | succ n =>
    unfold xsF at h ⊢
    split at h
    · rename_i c1
      rw [if_pos c1]
      split at h
      · exact absurd (show (2 : Int) = 0 from h) (by decide)
      · rename_i c2
        rw [if_neg c2]
        have := xsF_at (K := K) n (a + 1) (d + 1) false
        omega
    · rename_i c1
      rw [if_neg c1]
      split at h
      · rename_i c2
        rw [if_pos c2]
        split at h
        · exact absurd (show (2 : Int) = 0 from h) (by decide)
        · rename_i c3
          rw [if_neg c3]
          have := xsF_at (K := K) n (a + 1) d true
          omega
      · exact absurd (show (1 : Int) = 0 from h) (by decide)
theorem ex_exW {μ μ' : xM} {r : Option zV} (hE : Ex gx xq_230 [.inr (.inl (some 75))] μ r μ') (h0 : 0 ≤ rT μ) (h4 : rT μ ≤ 400) (hF : 0 ≤ rF μ) (hq : rF μ = 0 → rQ μ = 0) (hc : 0 ≤ rC9 μ) (hO : hOK μ) : r = none ∧ eM μ μ' := by
  have hv := vE_w (by decide +kernel) (hf_230_0 hE (hEn0 (by decide)) hO).2 hO
  by_cases q : rF μ = 0
  · obtain ⟨g1, g2, g3, g4⟩ := ex_expr hE q h0 h4 (hq q)
    obtain ⟨k1, k2, k3⟩ := ex_expr2 hE q h0 h4 (hq q) hc
    have g3 : rO (pEx (rK μ) (rT μ)) μ μ' := g3
    have hnn : 0 ≤ (pEx (rK μ) (rT μ)).2 := xsF_nn _ _ _ _
    refine ⟨g1, ⟨hv, g2⟩, ⟨?_, fun z => by omega⟩, k2, k3, fun z => ⟨q, k1 z, ?_, (g4 z).2.2, ?_⟩⟩
    · rcases g3 with ⟨d1, d2, d3⟩ | ⟨d1, d2, d3⟩ <;> omega
    · rcases g3 with ⟨d1, d2, d3⟩ | ⟨d1, d2, d3⟩
      · exact Prod.ext d3.symm d1
      · omega
    · rcases g3 with ⟨d1, d2, d3⟩ | ⟨d1, d2, d3⟩
      · rw [d3]; exact xsF_gt _ _ _ d1
      · omega
  · have hm := ex_exprz hE (by omega)
    obtain ⟨g1, g2, g3, g4⟩ := ex_expr0 hE (by omega)
    refine ⟨g1, ⟨hv, g2⟩, ⟨by omega, fun z => ⟨by omega, by rw [hm]; rfl, by rw [hm]; rfl⟩⟩, ?_, ?_, fun z => by exfalso; omega⟩
    · rw [hm]
      exact ⟨Int.le_refl _, fun z => by have z : rF μ = 0 := z; exact absurd z q, by show rC9 μ ≤ rC9 μ + (rT μ - rT μ) + 1; omega, Int.le_refl _, h4⟩
    · rw [hm]
      exact fP_e fP_rf (fun j => xpi_ne (fun q => absurd q.1 (by decide))) (fun j => xpi_ne (fun q => absurd q.1 (by decide))) (xpi_ne (fun q => absurd q.2 (by decide)))
/-- a term: what it tells is laid down for the branch at hand -/
def tM (ν m : xM) : Prop := (hOK m ∧ rE ν m) ∧ ((∀ k j, 94 ≤ k → k ≤ 98 → m.1 k j = ν.1 k j) ∧ (∀ k j, 99 ≤ k → k ≤ 100 → ¬ j = (rB ν).toNat → m.1 k j = ν.1 k j) ∧ (m.1 99 (rB ν).toNat).toInt = rC9 ν ∧ (m.1 100 (rB ν).toNat).toInt = rC9 m) ∧ rB m = rB ν + 1 ∧ (0 ≤ rF m ∧ (0 < rF ν → 0 < rF m ∧ rC9 m = rC9 ν ∧ rT m = rT ν)) ∧ eB ν m ∧ fP ν m ∧ (rF m = 0 → rF ν = 0 ∧ bP ν m (ys (rK ν) (rVl ν) (rT ν) 0 false []) ∧ pEx (rK ν) (rT ν) = (rT m, 0) ∧ rQ m = 0 ∧ rT ν < rT m)
set_option maxRecDepth 10000 in
set_option maxHeartbeats 4000000 in
theorem ex_teW {μ μ' : xM} {r : Option zV} (h0 : Ex gx xq_227 [.inr (.inl (some 75))] μ r μ') (hr0 : 0 ≤ rT μ) (h4 : rT μ ≤ 400) (hF : 0 ≤ rF μ) (hq : rF μ = 0 → rQ μ = 0) (hc : 0 ≤ rC9 μ) (hO : hOK μ) : r = none ∧ tM μ μ' := by
  obtain ⟨n, h⟩ := tx_in (L := [some (.inr (.inl (some 75)))]) h0 rfl
  have e1i : (1 : Int32).toInt = 1 := by decide
  replace h := tx_aload_n (p' := 1) h em227_0 rfl rfl
  replace h := tx_getc (c := 12) (j := 47) (p' := 4) h em227_1 ((congrFun xo_12 89).trans rfl) rfl rfl rfl
  replace h := tx_aload_n (p' := 5) h em227_4 rfl rfl
  replace h := tx_getf (c := 12) (j := 43) (p' := 8) h em227_5 ((congrFun xo_12 239).trans rfl) rfl rfl (by decide) rfl
  replace h := tx_aload_n (p' := 9) h em227_8 rfl rfl
  replace h := tx_getf (c := 12) (j := 49) (p' := 12) h em227_9 ((congrFun xo_12 242).trans rfl) rfl rfl (by decide) rfl
  obtain ⟨hb12, h⟩ := tx_iast (len := 260) (p' := 13) h em227_12 rfl rfl
  replace hb12 : (0 : Int) ≤ (μ.1 75 43).toInt ∧ (μ.1 75 43).toInt < 260 := hb12
  replace h := tx_aload_n (p' := 14) h em227_13 rfl rfl
  replace h := tx_getf (c := 12) (j := 27) (p' := 17) h em227_14 ((congrFun xo_12 200).trans rfl) rfl rfl (by decide) rfl
  replace h : eT xq_227 _ 17 [some (.inr (.inl (some 75)))] [.inl (μ.1 75 27)] (xpi μ 99 (μ.1 75 43).toInt.toNat (μ.1 75 49)) r μ' := h
  rcases tx_if (t := 24) (p' := 20) h em227_17 (by decide) rfl with ⟨c17, h⟩ | ⟨c17, h⟩
  · replace c17 : ¬ (μ.1 75 27).toInt = 0 := c17
    replace h := tx_aload_n (p' := 25) h em227_24 rfl rfl
    replace h := tx_getc (c := 12) (j := 48) (p' := 28) h em227_25 ((congrFun xo_12 92).trans rfl) rfl rfl rfl
    replace h := tx_aload_n (p' := 29) h em227_28 rfl rfl
    replace h := tx_getf (c := 12) (j := 43) (p' := 32) h em227_29 ((congrFun xo_12 239).trans rfl) rfl rfl (by decide) rfl
    replace h : eT xq_227 _ 32 [some (.inr (.inl (some 75)))] [.inl (μ.1 75 43), .inr (.inl (some 100))] (xpi μ 99 (μ.1 75 43).toInt.toNat (μ.1 75 49)) r μ' := h
    replace h := tx_aload_n (p' := 33) h em227_32 rfl rfl
    replace h := tx_getf (c := 12) (j := 49) (p' := 36) h em227_33 ((congrFun xo_12 242).trans rfl) rfl rfl (by decide) rfl
    replace h : eT xq_227 _ 36 [some (.inr (.inl (some 75)))] [.inl (μ.1 75 49), .inl (μ.1 75 43), .inr (.inl (some 100))] (xpi μ 99 (μ.1 75 43).toInt.toNat (μ.1 75 49)) r μ' := h
    obtain ⟨hb36, h⟩ := tx_iast (len := 260) (p' := 37) h em227_36 rfl rfl
    replace hb36 : (0 : Int) ≤ (μ.1 75 43).toInt ∧ (μ.1 75 43).toInt < 260 := hb36
    replace h := tx_aload_n (p' := 38) h em227_37 rfl rfl
    replace h := tx_dup (p' := 39) h em227_38 rfl
    replace h := tx_getf (c := 12) (j := 43) (p' := 42) h em227_39 ((congrFun xo_12 239).trans rfl) rfl rfl (by decide) rfl
    replace h : eT xq_227 _ 42 [some (.inr (.inl (some 75)))] [.inl (μ.1 75 43), .inr (.inl (some 75))] (xpi (xpi μ 99 (μ.1 75 43).toInt.toNat (μ.1 75 49)) 100 (μ.1 75 43).toInt.toNat (μ.1 75 49)) r μ' := h
    replace h := tx_iconst (v := 1) (p' := 43) h em227_42 (by decide +kernel) rfl
    replace h := tx_iadd (p' := 44) h em227_43 rfl
    replace h := tx_putf (a := 75) (c := 12) (j := 43) (p' := 47) h em227_44 ((congrFun xo_12 239).trans rfl) rfl
    obtain ⟨rfl, hμ⟩ := tx_return h em227_47
    refine ⟨rfl, ?_⟩
    rw [hμ]
    have hf : ¬ rF μ = 0 := by unfold rF; omega
    have n43 : ((μ.1 75 43) + (1 : Int32)).toInt = rB μ + 1 := by unfold rB; rw [an_add (by rw [e1i]; omega) (by rw [e1i]; omega), e1i]
    refine ⟨⟨hOK_2 rfl hO, ?_⟩, ⟨fun k j h1 h2 => ?_, fun k j h1 h2 h3 => ?_, ?_, ?_⟩, n43, ⟨hF, fun q => ⟨q, rfl, rfl⟩⟩, ⟨Int.le_refl _, fun z => absurd z hf, ?_, Int.le_refl _, h4⟩, ?_, fun z => absurd z hf⟩
    · exact rE_f (rE_c (rE_c rE_rf (by decide)) (by decide)) (by omega)
    · rw [xpi_ne (fun q => by omega), xpi_ne (fun q => by omega), xpi_ne (fun q => by omega)]
    · have h3 : ¬ j = (μ.1 75 43).toInt.toNat := h3
      rw [xpi_ne (fun q => by omega), xpi_ne (fun q => h3 q.2), xpi_ne (fun q => h3 q.2)]
    · rw [xpi_ne (fun q => absurd q.1 (by decide)), xpi_ne (fun q => absurd q.1 (by decide))]
      exact congrArg Int32.toInt xpi_at
    · rw [xpi_ne (fun q => absurd q.1 (by decide))]
      exact congrArg Int32.toInt xpi_at
    · show rC9 μ ≤ rC9 μ + (rT μ - rT μ) + 1
      omega
    · exact fP_e fP_rf (fun j => (xpi_ne (fun q => absurd q.1 (by decide))).trans ((xpi_ne (fun q => absurd q.1 (by decide))).trans (xpi_ne (fun q => absurd q.1 (by decide))))) (fun j => (xpi_ne (fun q => absurd q.1 (by decide))).trans ((xpi_ne (fun q => absurd q.1 (by decide))).trans (xpi_ne (fun q => absurd q.1 (by decide))))) ((xpi_ne (fun q => absurd q.2 (by decide))).trans ((xpi_ne (fun q => absurd q.1 (by decide))).trans (xpi_ne (fun q => absurd q.1 (by decide)))))
  · replace c17 : ¬ ¬ (μ.1 75 27).toInt = 0 := c17
    replace h := tx_aload_n (p' := 21) h em227_20 rfl rfl
    obtain ⟨r21, μ21, hE21, h⟩ := tx_invV (na := 1) (mn := 230) (as := [.inr (.inl (some 75))]) (rest := []) (p' := 24) h em227_21 ((congrFun xo_12 301).trans rfl) xm_230 rfl rfl
    obtain ⟨rfl, hx21⟩ := ex_exW hE21 hr0 h4 hF hq hc (hOK_2 rfl hO)
    replace h : eT xq_227 _ 24 [some (.inr (.inl (some 75)))] [] μ21 r μ' := h
    replace h := tx_aload_n (p' := 25) h em227_24 rfl rfl
    replace h := tx_getc (c := 12) (j := 48) (p' := 28) h em227_25 ((congrFun xo_12 92).trans rfl) rfl rfl rfl
    replace h := tx_aload_n (p' := 29) h em227_28 rfl rfl
    replace h := tx_getf (c := 12) (j := 43) (p' := 32) h em227_29 ((congrFun xo_12 239).trans rfl) rfl rfl (by decide) rfl
    replace h := tx_aload_n (p' := 33) h em227_32 rfl rfl
    replace h := tx_getf (c := 12) (j := 49) (p' := 36) h em227_33 ((congrFun xo_12 242).trans rfl) rfl rfl (by decide) rfl
    obtain ⟨hb36_1, h⟩ := tx_iast (len := 260) (p' := 37) h em227_36 rfl rfl
    replace hb36_1 : (0 : Int) ≤ (μ21.1 75 43).toInt ∧ (μ21.1 75 43).toInt < 260 := hb36_1
    replace h := tx_aload_n (p' := 38) h em227_37 rfl rfl
    replace h := tx_dup (p' := 39) h em227_38 rfl
    replace h := tx_getf (c := 12) (j := 43) (p' := 42) h em227_39 ((congrFun xo_12 239).trans rfl) rfl rfl (by decide) rfl
    replace h : eT xq_227 _ 42 [some (.inr (.inl (some 75)))] [.inl (μ21.1 75 43), .inr (.inl (some 75))] (xpi μ21 100 (μ21.1 75 43).toInt.toNat (μ21.1 75 49)) r μ' := h
    replace h := tx_iconst (v := 1) (p' := 43) h em227_42 (by decide +kernel) rfl
    replace h := tx_iadd (p' := 44) h em227_43 rfl
    replace h := tx_putf (a := 75) (c := 12) (j := 43) (p' := 47) h em227_44 ((congrFun xo_12 239).trans rfl) rfl
    obtain ⟨rfl, hμ⟩ := tx_return h em227_47
    refine ⟨rfl, ?_⟩
    rw [hμ]
    obtain ⟨⟨⟨u1, u2, u3⟩, p2⟩, p3, p4, p5, p6⟩ := hx21
    have e43 : μ21.1 75 43 = μ.1 75 43 := u3
    have n43 : ((μ21.1 75 43) + (1 : Int32)).toInt = rB μ + 1 := by unfold rB; rw [e43, an_add (by rw [e1i]; omega) (by rw [e1i]; rw [← e43]; omega), e1i]
    refine ⟨⟨hOK_2 rfl u1, ?_⟩, ⟨fun k j h1 h2 => ?_, fun k j h1 h2 h3 => ?_, ?_, ?_⟩, ?_, p3, p4, ?_, p6⟩
    · exact rE_f (rE_c (rE_tr (rE_c rE_rf (by decide)) p2) (by decide)) (by omega)
    · rw [xpi_ne (fun q => by omega), xpi_ne (fun q => by omega), u2 k j (by omega) (by omega), xpi_ne (fun q => by omega)]
    · have h3 : ¬ j = (μ.1 75 43).toInt.toNat := h3
      rw [xpi_ne (fun q => by omega), e43, xpi_ne (fun q => h3 q.2), u2 k j (by omega) (by omega), xpi_ne (fun q => h3 q.2)]
    · rw [xpi_ne (fun q => absurd q.1 (by decide)), xpi_ne (fun q => absurd q.1 (by decide)), u2 99 _ (by decide) (by decide)]
      exact congrArg Int32.toInt xpi_at
    · rw [xpi_ne (fun q => absurd q.1 (by decide)), e43]
      exact congrArg Int32.toInt xpi_at
    · exact n43
    · exact fP_e (fP_l p5 (fun j => xpi_ne (fun q => absurd q.1 (by decide))) (fun j => xpi_ne (fun q => absurd q.1 (by decide))) (xpi_ne (fun q => absurd q.1 (by decide)))) (fun j => (xpi_ne (fun q => absurd q.1 (by decide))).trans (xpi_ne (fun q => absurd q.1 (by decide)))) (fun j => (xpi_ne (fun q => absurd q.1 (by decide))).trans (xpi_ne (fun q => absurd q.1 (by decide)))) ((xpi_ne (fun q => absurd q.2 (by decide))).trans (xpi_ne (fun q => absurd q.1 (by decide))))
theorem iB_w' {ω ν : xM} {b k j : Nat} {v : Int32} (h : iB ω ν b) (hk : 96 ≤ k ∧ k ≤ 100) (hj : j = b) : iB ω (xpi ν k j v) b := by
  subst hj
  exact iB_w h hk
theorem fP_u {ν m : xM} (h : uE ν m) : fP ν m := fP_e fP_rf h.2.1 h.2.2.1 h.2.2.2
theorem fP_x {μ ν : xM} {k j : Nat} {v : Int32} (h : fP μ ν) (hk : 96 ≤ k ∧ k ≤ 100) : fP μ (xpi ν k j v) := fP_e h (fun j => xpi_ne (fun q => by omega)) (fun j => xpi_ne (fun q => by omega)) (xpi_ne (fun q => by omega))
theorem uE_C {ν m : xM} (h : uE ν m) : rC9 m = rC9 ν := by unfold rC9; rw [h.2.2.2]
theorem iX {ω ν m : xM} {b : Nat} {r : Option zV} (h : iB ω ν b) (hw : 0 ≤ rT ω) (hc : 0 ≤ rC9 ω) (hE : Ex gx xq_230 [.inr (.inl (some 75))] ν r m) : r = none ∧ eM ν m ∧ iB ω m b := by
  obtain ⟨g1, g2⟩ := ex_exW hE (by have := h.2.2.2.2.1; omega) h.2.2.2.2.1.2 h.2.2.2.2.2.1 h.2.2.2.2.2.2 (by have := h.2.2.2.1.1; omega) h.1.1
  exact ⟨g1, g2, iB_x h g2⟩
theorem iG {ω ν m : xM} {b : Nat} {r : Option zV} (h : iB ω ν b) (hw : 0 ≤ rT ω) (hE : Ex gx xq_144 [.inr (.inl (some 75))] ν r m) : r = none ∧ pM ν m ∧ iB ω m b := by
  obtain ⟨g1, g2⟩ := ex_goW hE (by have := h.2.2.2.2.1; omega) h.2.2.2.2.1.2 h.2.2.2.2.2.1 h.1.1
  exact ⟨g1, g2, iB_p h g2⟩
theorem iM {ω ν m : xM} {b : Nat} {r : Option zV} {k : Int32} (h : iB ω ν b) (hw : 0 ≤ rT ω) (hk : 0 ≤ kmp k.toInt) (hE : Ex gx xq_169 [.inr (.inl (some 75)), .inl k] ν r m) : r = none ∧ pM ν m ∧ iB ω m b := by
  obtain ⟨g1, g2⟩ := ex_muW hE hk (by have := h.2.2.2.2.1; omega) h.2.2.2.2.1.2 h.2.2.2.2.2.1 h.1.1
  exact ⟨g1, g2, iB_p h g2⟩
theorem iT {ω ν m : xM} {b : Nat} {r : Option zV} (h : iB ω ν b) (hw : 0 ≤ rT ω) (hc : 0 ≤ rC9 ω) (hE : Ex gx xq_227 [.inr (.inl (some 75))] ν r m) : r = none ∧ tM ν m := ex_teW hE (by have := h.2.2.2.2.1; omega) h.2.2.2.2.1.2 h.2.2.2.2.2.1 h.2.2.2.2.2.2 (by have := h.2.2.2.1.1; omega) h.1.1
theorem iB_rf {ω : xM} {b : Nat} (hO : hOK ω) (h4 : rT ω ≤ 400) (hF : 0 ≤ rF ω) (hq : rF ω = 0 → rQ ω = 0) : iB ω ω b := ⟨⟨hO, rE_rf⟩, ⟨fun _ => rfl, fun _ => rfl, fun _ _ _ _ _ => rfl⟩, ⟨fP_rf, rfl⟩, ⟨Int.le_refl _, fun _ => by omega, by omega⟩, ⟨Int.le_refl _, h4⟩, hF, hq⟩
/-- a law as it stands with the reference: its branches from first on, their codes between lo and hi -/
def rLw (ω : xM) (lo hi first last : Int) (L : kLw) : Prop := 0 ≤ first ∧ last = first + L.1.length + 1 ∧ (∀ i : Nat, i < L.1.length → brc ω lo hi (first.toNat + i) (L.1.getD i ([], [], []))) ∧ (ω.1 96 (first.toNat + L.1.length)).toInt = 0 ∧ sg ω lo hi (ω.1 99 (first.toNat + L.1.length)).toInt (ω.1 100 (first.toNat + L.1.length)).toInt L.2
/-- the branches told so far -/
def lD (μ ω : xM) (mm : Nat) : Prop := ∃ done : List (List kOp × List kOp × List kOp), rB ω = rB μ + done.length ∧ (∀ i : Nat, i < done.length → brc ω (rC9 μ) (rC9 ω) ((rB μ).toNat + i) (done.getD i ([], [], []))) ∧ kLF (rK μ) (rVl μ) 4 (rT μ + 1) = (done ++ (kLF (rK μ) (rVl μ) mm (rT ω)).1, (kLF (rK μ) (rVl μ) mm (rT ω)).2)
/-- the loop over a law's ifs: how it stands -/
def lI (μ ω : xM) (mm : Nat) : Prop := (hOK ω ∧ rE μ ω) ∧ ((∀ j, ω.1 94 j = μ.1 94 j) ∧ (∀ j, ω.1 95 j = μ.1 95 j) ∧ ∀ (c j : Nat), 96 ≤ c → c ≤ 100 → ((j : Int) < rB μ ∨ rB ω ≤ j) → ω.1 c j = μ.1 c j) ∧ fP μ ω ∧ (rC9 μ ≤ rC9 ω ∧ rB μ ≤ rB ω ∧ rC9 ω ≤ rC9 μ + (rT ω - rT μ) + 1 ∧ 4 * (rB ω - rB μ) ≤ (rT ω - rT μ) + 5) ∧ (rT μ ≤ rT ω ∧ rT ω ≤ 400 ∧ 0 ≤ rF ω) ∧ (rF ω = 0 → (rC9 ω ≤ rC9 μ + (rT ω - rT μ) ∧ 4 * (rB ω - rB μ) ≤ (rT ω - rT μ) - 1 ∧ rQ ω = 0) ∧ lD μ ω mm)
/-- a law told by the reference -/
def rlZ (k : Int32) (μ μ' : xM) : Prop := (hOK μ' ∧ rE μ μ' ∧ 0 ≤ rF μ') ∧ (∀ (c j : Nat), 96 ≤ c → c ≤ 100 → ((j : Int) < rB μ ∨ rB μ' ≤ j) → μ'.1 c j = μ.1 c j) ∧ fP μ μ' ∧ (rC9 μ ≤ rC9 μ' ∧ rB μ ≤ rB μ' ∧ rC9 μ' ≤ rC9 μ + (rT μ' - rT μ) + 1 ∧ 4 * (rB μ' - rB μ) ≤ (rT μ' - rT μ) + 9) ∧ (rT μ ≤ rT μ' ∧ rT μ' ≤ 400) ∧ (¬ rF μ' = 0 → ∀ j, μ'.1 94 j = μ.1 94 j ∧ μ'.1 95 j = μ.1 95 j) ∧ (rF μ' = 0 → (rC9 μ' ≤ rC9 μ + (rT μ' - rT μ) ∧ 4 * (rB μ' - rB μ) ≤ (rT μ' - rT μ) + 1 ∧ rQ μ' = 0) ∧ (∃ x : Nat, (x : Int) = 4 * (μ.1 75 32).toInt + k.toInt ∧ (∀ j, ¬ j = x → μ'.1 94 j = μ.1 94 j ∧ μ'.1 95 j = μ.1 95 j) ∧ (μ'.1 94 x).toInt = rB μ ∧ (μ'.1 95 x).toInt = rB μ') ∧ rLw μ' (rC9 μ) (rC9 μ') (rB μ) (rB μ') (kLF (rK μ) (rVl μ) 4 (rT μ + 1)))
