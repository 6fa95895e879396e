/-! ===== read keeps the relation between calls ===== -/
/-- the Towns made and the references stand -/
def zRp (μ ν : xM) : Prop := (∀ a j, (119 ≤ a ∧ a < μ.2.2.2) → ν.1 a j = μ.1 a j) ∧ (∀ a j, (zKr a ∨ (119 ≤ a ∧ a < μ.2.2.2)) → ν.2.2.1 a j = μ.2.2.1 a j) ∧ ν.2.2.2 % 6 = μ.2.2.2 % 6 ∧ μ.2.2.2 ≤ ν.2.2.2
theorem zRp_tr {μ ν ω : xM} (h1 : zRp μ ν) (h2 : zRp ν ω) : zRp μ ω := by
  obtain ⟨a1, a3, a4, a5⟩ := h1
  obtain ⟨b1, b3, b4, b5⟩ := h2
  exact ⟨fun a j q => (b1 a j ⟨q.1, by omega⟩).trans (a1 a j q), fun a j q => (b3 a j (q.imp id (fun z => ⟨z.1, by omega⟩))).trans (a3 a j q), b4.trans a4, by omega⟩
noncomputable def zRb (W : hW) : Bool := hpM W && ((List.range 119).all (fun a => !(decide (zKr a)) || hqB W a) && hqM W)
theorem zRp_w {W : hW} {μ μ' : xM} (hk : zRb W = true) (h : hRm (hP W) (hQ W) μ μ') (hO : hOK μ) (h6 : μ'.2.2.2 % 6 = μ.2.2.2 % 6) : zRp μ μ' := by
  unfold zRb at hk
  rw [Bool.and_eq_true, Bool.and_eq_true] at hk
  obtain ⟨k2, k5, k6⟩ := hk
  refine ⟨fun a j q => ((h hO).2.2.1 a j (hpB_ok (hpA_ok (hpM_ok k2 q.1) j)) q.2).1, fun a j q => ?_, h6, (h hO).2.1⟩
  rcases q with q | q
  · have hl : a < 119 := by unfold zKr at q; omega
    have := List.all_eq_true.mp k5 a (List.mem_range.mpr hl)
    rw [decide_eq_true q] at this
    exact hStr h hO hl this j
  · exact (h hO).2.2.2 a (hqB_ok (hqM_ok k6 q.1)) q.2 j
theorem hsT_rp {c : Nat} {μ ν : xM} (h : hsT c μ) (k : zRp μ ν) : hsT c ν := by
  obtain ⟨a1, a2, a3, a4⟩ := h
  have k5 := k.2.2.2
  refine ⟨a1, by omega, a3, fun j hj => ?_⟩
  rw [k.2.1 c j (Or.inr ⟨a1, by omega⟩)]
  exact a4 j hj
theorem hsI_rp {μ ν : xM} (h : hsI μ) (k : zRp μ ν) : hsI ν := by
  obtain ⟨a1, a2, a3⟩ := h
  refine ⟨k.2.2.1.trans a1, fun A i c hA e => ?_, fun A i B l c d hA hB e1 e2 => ?_⟩
  · rw [k.2.1 A i (Or.inl (hsK_r hA))] at e
    exact hsT_rp (a2 A i c hA e) k
  · rw [k.2.1 A i (Or.inl (hsK_r hA))] at e1
    rw [k.2.1 B l (Or.inl (hsK_r hB))] at e2
    exact a3 A i B l c d hA hB e1 e2
theorem pOK9_rp {μ ν : xM} (h : pOK9 μ) (k : zRp μ ν) : pOK9 ν := fun p hp j hj => by
  rw [k.2.1 p j (Or.inl (by unfold zKr; omega))]
  exact h p hp j hj
theorem tw9_rp {S : kSt} {c : Nat} {ρ : Nat → Int32} {μ ν : xM} (h : tw9 S c ρ μ) (hc : hsT c μ) (k : zRp μ ν) : tw9 S c ρ ν := tw9_cg h (fun a j p q => k.1 a j ⟨by have := hc.1; omega, by have := hc.2.1; omega⟩)
theorem zT_kq {S : kSt} {s m : Nat} {G : Nat → Nat → Int32} {Z : Nat → Option (Nat → Int32)} {μ ν : xM} (h : zT9 S s m G Z μ) (hR' : rS9 S s ν) (hO' : hOK ν) (k : zRp μ ν) (kc : ∀ a j, ((2 ≤ a ∧ a ≤ 11) ∨ (28 ≤ a ∧ a ≤ 33) ∨ (40 ≤ a ∧ a ≤ 43) ∨ a = 107 ∨ a = 112 ∨ a = 117 ∨ a = 118) → ν.1 a j = μ.1 a j) (k10 : ν.1 75 10 = μ.1 75 10) : zT9 S s m G Z ν := by
  obtain ⟨hO, hP, hI, hS, hR, hT, ⟨l1, l2, l3, l4, l5⟩, hH, ⟨hp, hpG⟩, hz⟩ := h
  have er : ∀ x, x < 390 → rNow ν x = rNow μ x := fun x hx => by
    rw [rNow_lt hx, rNow_lt hx]
    exact kc 107 x (by decide)
  refine ⟨hO', pOK9_rp hP k, hsI_rp hI k, cS9_cg hS (fun c j a b => kc c j (by omega)), hR', ?_, ?_, mH_cg hH k10 (fun j => kc 112 j (by decide)), ⟨pI_r hS.1 hp er, hpG⟩, zH_cg hz (fun j => kc 43 j (by decide)) (fun j => kc 117 j (by decide)) (fun j => kc 118 j (by decide))⟩
  · exact tw9_r hS.1 (tw9_cg hT (fun a j p q => kc a j (by omega))) er
  · unfold hsL
    rw [kc 40 1 (by decide), kc 40 2 (by decide)]
    refine ⟨l1, l2, l3, fun i hi => ?_, fun i ρ hi hZ => ?_⟩
    · obtain ⟨c, c1, c2⟩ := l4 i hi
      refine ⟨c, by rw [k.2.1 41 _ (Or.inl (by decide))]; exact c1, tw9_rp c2 (hI.2.1 41 _ c (Or.inl ⟨rfl, Nat.mod_lt _ (by decide)⟩) c1) k⟩
    · obtain ⟨c, c1, c2⟩ := l5 i ρ hi hZ
      refine ⟨c, by rw [k.2.1 42 _ (Or.inl (by decide))]; exact c1, tw9_rp c2 (hI.2.1 42 _ c (Or.inr rfl) c1) k⟩
theorem cnT_0 {S : kSt} {ρ : Nat → Int32} {c : Nat} : ∀ n, (∀ v, v < n → ρ (320 + v) = 0) → cnT S ρ c n = 0
  | 0, _ => rfl
  | n + 1, h => by
    have e : cnS S ρ c n = 0 := by
      unfold cnS
      rw [if_neg (fun z => by rw [h n (Nat.lt_succ_self n)] at z; rcases z with z | z <;> exact absurd z (by decide))]
    show cnT S ρ c n + cnS S ρ c n = 0
    rw [cnT_0 n (fun v hv => h v (by omega)), e]
/-- all begun anew -/
theorem zT_new {S : kSt} {s : Nat} {G : Nat → Nat → Int32} {μ : xM} (hO : hOK μ) (hP : pOK9 μ) (hI : hsI μ) (hS : cS9 S μ) (hR : rS9 S s μ) (h40 : 0 ≤ (μ.1 40 1).toInt ∧ (μ.1 40 1).toInt < 30) (h2 : (μ.1 40 2).toInt = 0) (h10 : (μ.1 75 10).toInt = 0) (h43 : ∀ j, j < 3 → μ.1 43 j = 0) (h117 : ∀ j, j < 3 → μ.1 117 j = 0) (hc : ∀ j, j < 40 → μ.1 29 j = μ.1 3 j ∧ μ.1 30 j = 0 ∧ μ.1 31 j = 0) (h32 : ∀ j, j < 200 → μ.1 32 j = 0) (h28 : ∀ j, 5 ≤ j → j < 10 → μ.1 28 j = 0) (hr : ∀ c : Nat, c < 40 → μ.1 107 c = if (c : Int) < 8 * (S.1.length : Int) then μ.1 85 (40 * s + c) else 0) (hr2 : ∀ c, 40 ≤ c → c < 390 → μ.1 107 c = 0) : zT9 S s 0 G (fun _ => none) μ := by
  have hW := hS.1
  have hH5 := hW.1
  have hV7 := hW.2.1
  have z0 : (0 : Int32).toInt = 0 := by decide
  have key : ∀ c, c < 40 → μ.1 3 c = μ.1 107 c := fun c hc9 => by
    have e3 := hS.2.2.1.2.1 (c / 8) (c % 8) (by omega) (by omega)
    rw [show 8 * (c / 8) + c % 8 = c by omega] at e3
    rw [hr c hc9]
    by_cases q : (c : Int) < 8 * (S.1.length : Int)
    · rw [if_pos q]
      have e8 := hR.2.2.1.2.1 (c / 8) (c % 8) (by omega) (by omega)
      rw [show 40 * s + 8 * (c / 8) + c % 8 = 40 * s + c by omega] at e8
      exact Int32.toInt_inj.mp (e3.trans e8.symm)
    · rw [if_neg q]
      have e9 : S.1.getD (c / 8) [] = [] := by
        rw [List.getD_eq_getElem?_getD, List.getElem?_eq_none (by omega)]
        rfl
      rw [e9] at e3
      exact Int32.toInt_inj.mp (e3.trans z0.symm)
  have rz : ∀ x, 40 ≤ x → x < 390 → rNow μ x = 0 := fun x a b => (rNow_lt b).trans (hr2 x a b)
  have st0 : ∀ v, v < S.2.1.length → rNow μ (320 + v) = 0 := fun v hv => rz _ (by omega) (by omega)
  have hb : ∀ v, v < 7 → xb (0 : Int32) v = false := by decide
  refine ⟨hO, hP, hI, hS, hR, ⟨⟨fun j hj => ⟨?_, ?_, ?_⟩, fun j hj => ?_, ?_, ?_, ?_⟩, fun v hv => ?_⟩, ⟨h40, by rw [h2]; rfl, by decide, fun i hi => absurd hi (Nat.not_lt_zero i), fun i ρ hi hz => by cases hz⟩, ⟨by rw [h10]; rfl, by decide, fun i hi => absurd hi (Nat.not_lt_zero i)⟩, ⟨⟨fun c hc9 => ?_, fun c hc9 => ?_, fun c h1 hc9 => ?_⟩, fun i hi => absurd hi (Nat.not_lt_zero i)⟩, fun i hi => ⟨by rw [h43 i hi, h117 i hi], Or.inl ⟨rfl, h43 i hi⟩⟩⟩
  · rw [rNow_lt (by omega), ← key j hj]; exact (hc j hj).1
  · rw [rz _ (by omega) (by omega)]; exact (hc j hj).2.1
  · rw [rz _ (by omega) (by omega)]; exact (hc j hj).2.2
  · rw [rz _ (by omega) (by omega)]; exact h32 j hj
  · rw [rz _ (by decide) (by decide)]; exact h28 7 (by decide) (by decide)
  · rw [rz _ (by decide) (by decide)]; exact h28 8 (by decide) (by decide)
  · rw [rz _ (by decide) (by decide)]; exact h28 9 (by decide) (by decide)
  · rw [h28 5 (by decide) (by decide), h28 6 (by decide) (by decide), hb v (by omega)]
    have nS : ¬ stS (rNow μ) v := fun z => by
      unfold stS at z
      rw [st0 v hv] at z
      exact absurd z (by decide)
    have nD : ¬ stD (rNow μ) v := fun z => by
      unfold stD at z
      rw [st0 v hv] at z
      exact absurd z (by decide)
    exact ⟨⟨fun z => absurd z (by decide), fun z => absurd z nS⟩, ⟨fun z => absurd z (by decide), fun z => absurd z nD⟩, Or.inl (st0 v hv), fun z => absurd z nS⟩
  · rw [rz _ (by omega) (by omega), cnT_0 _ st0]
    rfl
  · rw [rz _ (by omega) (by omega), z0]
    omega
  · rw [rNow_lt (by omega), hr c hc9, if_neg (by omega)]
/-- both read the same, and it tells the same; the towns are begun anew -/
theorem zT_read {S : kSt} {s m : Nat} {G : Nat → Nat → Int32} {Z : Nat → Option (Nat → Int32)} {r r' : Option zV} {μ μ1 μ2 : xM} (h1 : Ex gx xq_98 [.inr (.inl (some 0))] μ r μ1) (h2 : Ex gx xq_180 [.inr (.inl (some 75))] μ1 r' μ2) (hT : lwT μ) (hz : zT9 S s m G Z μ) : ∃ S' s' m' G' Z', zT9 S' s' m' G' Z' μ2 := by
  have hz0 := hz
  obtain ⟨hO, hP, hI, hS, hR, hTw, hL, hH, -, hzH⟩ := hz
  obtain ⟨⟨xx, e1, e2⟩, -⟩ := lwT_read h1 h2 hT
  obtain ⟨c1, c2, c3, c4, c5, c6⟩ := hT
  obtain ⟨x0, ν0, E0, w0, -, -, -, -, -, -, -, -, t8⟩ := ex_cread h1 c2
  obtain ⟨d1, d2, d3, d4, d5, d6⟩ := t8 c1
  obtain ⟨x, ν, E, w, e3, t1, t2, t3, t4, t5, t6, t7, k1, k2, k3⟩ := kz_cread h1 c2 hO
  have en : (μ1.1 75 12).toInt = (μ.1 0 6).toInt := by rw [d6, c3]
  obtain ⟨y, B, ν', m9, S9, w', e4, u0, u1, u2, u3, u4, u5, u6, u7, u8⟩ := kz_rread h2 k1 d1 (by rw [en]; exact c2) (fun j hj => by rw [d3, c4]; exact c5 j) (fun j hj => by rw [d4]; exact c6 j hj)
  have exx : xx = x := by cases e1.symm.trans e3; rfl
  have eyy : xx = y := by cases e2.symm.trans e4; rfl
  have exy : y = x := eyy.symm.trans exx
  subst exy
  rw [en] at u1 u2
  have hB : ∀ i, 0 ≤ i → i < (μ.1 0 6).toInt → B i = kB μ 1 i := fun i i0 i1 => by
    rw [u1 i i0 i1]
    unfold kB
    rw [d3, c4]
  obtain ⟨v1, v2⟩ := same_tok hB t7 t2 t3 t4 u2 u3 u4
  have hU := same_cont (S0 := kS0) (lw := kLF (cK ν) (cV ν) 4) (lw' := kLF (rK ν') (rVl ν') 4) hB t7 t2 t3 t4 u2 u3 u4 (fun a hh vv a0 a1 hk hs => kLF_same v1 v2 t4 t1.1.2 a0 a1 hk hs)
  have hoL : ∀ k, oLw (lwOf (kText (rK ν') (rLt ν') (rVl ν') (kLF (rK ν') (rVl ν') 4) 401 0 0 0 kS0).2.2.2 k) := kText_oLw (kLF_oLw (fun a => kmp_le _) 4) 401 0 0 0 kS0 (fun k => kDef_oLw k)
  rw [hU] at hoL
  obtain ⟨r1, r2, ⟨r3, r6⟩, r4, r5⟩ := u0
  rw [hU] at r5
  have f1 := (hf_98_0 h1 (hEn0 (by decide)) hO).2
  have f2 := (hf_180_0 h2 (hEn0 (by decide)) k1).2
  have p1 := zRp_w (by decide +kernel) f1 hO (ex_c6 h1)
  have p2 := zRp_w (by decide +kernel) f2 k1 (ex_c6 h2)
  have cl : ∀ k j, k < 75 → μ2.1 k j = μ1.1 k j := fun k j p => hSt f2 k1 (by omega) (hpA_ok (by
    have hh : ∀ k, k < 75 → hpA hw_180_0 k = true := by decide +kernel
    exact hh k p) j)
  have mo : ∀ k j, 84 ≤ k → k ≤ 118 → μ1.1 k j = μ.1 k j := fun k j p q => hSt f1 hO (by omega) (hpA_ok (by
    have hh : ∀ k, k < 119 → 84 ≤ k → hpA hw_98_0 k = true := by decide +kernel
    exact hh k (by omega) p) j)
  have b2 : μ1.1 75 2 = μ.1 75 2 := hSt f1 hO (by decide) (by decide +kernel)
  have b10 : μ1.1 75 10 = μ.1 75 10 := hSt f1 hO (by decide) (by decide +kernel)
  have b40 : μ1.1 40 1 = μ.1 40 1 := hSt f1 hO (by decide) (by decide +kernel)
  obtain ⟨xc, ec, ct1, ct2⟩ := ex_cread_t h1 hO c2
  obtain ⟨xr, er, rt1, rt2⟩ := ex_rread_t h2 k1
  have exc : xc = y := by cases ec.symm.trans e3; rfl
  have exr : xr = y := by cases er.symm.trans e4; rfl
  subst exc
  rw [exr] at rt1 rt2
  have sR := hR.2.1
  have e1i : (1 : Int32).toInt = 1 := by decide
  have es : ((1 : Int32) - (μ1.1 75 2)).toInt = 1 - (s : Int) := by rw [b2, an_sub (by rw [e1i, sR.2]; omega) (by rw [e1i, sR.2]; omega), e1i, sR.2]
  by_cases q : xc.toInt = 0
  · obtain ⟨⟨q1, q2⟩, q3⟩ := k3 q
    obtain ⟨q4, ⟨q5, q6⟩, -⟩ := r5 q
    obtain ⟨w1, w2, w3, w4, w5, w6⟩ := ct2 q
    obtain ⟨y1, y2, y3, y4⟩ := rt2 q
    have hkO : ∀ k, k < 4 → kOkL (lwOf (kText (cK ν) (cT ν) (cV ν) (kLF (cK ν) (cV ν) 4) 401 0 0 0 kS0).2.2.2 k) := fun k hk => (q2.2 k hk).1
    have hC2 : cS9 (kText (cK ν) (cT ν) (cV ν) (kLF (cK ν) (cV ν) 4) 401 0 0 0 kS0) μ2 := cS9_cg (μ := μ1) ⟨q3, hoL, q1, q2⟩ (fun k j a b => cl k j (by omega))
    have hs9 : (μ2.1 75 2).toInt = ((((1 : Int32) - (μ1.1 75 2)).toInt.toNat : Nat) : Int) := by rw [q4]; omega
    have hn9 : (μ2.1 75 2).toInt.toNat = ((1 : Int32) - (μ1.1 75 2)).toInt.toNat := by rw [q4]
    have hM2 : rS9 (kText (cK ν) (cT ν) (cV ν) (kLF (cK ν) (cV ν) 4) 401 0 0 0 kS0) ((1 : Int32) - (μ1.1 75 2)).toInt.toNat μ2 := ⟨⟨q3, hoL, hkO⟩, ⟨by omega, hs9⟩, q5, q6⟩
    have hH9 : (μ2.1 84 (μ2.1 75 2).toInt.toNat).toInt = ((kText (cK ν) (cT ν) (cV ν) (kLF (cK ν) (cV ν) 4) 401 0 0 0 kS0).1.length : Int) := by rw [hn9]; exact q5.1.1
    have hH5 := q3.1
    obtain ⟨z1, z2⟩ := y1 ⟨⟨by omega, by omega⟩, by omega, by omega⟩
    refine ⟨_, _, 0, G, fun _ => none, zT_new r1 (pOK9_rp (pOK9_rp hP p1) p2) (hsI_rp (hsI_rp hI p1) p2) hC2 hM2 (by rw [cl 40 1 (by decide), b40]; exact hL.1) (by rw [cl 40 2 (by decide)]; exact w4) y2 (fun j hj => by rw [cl 43 j (by decide)]; exact w5 j hj) y4 (fun j hj => by rw [cl 29 j (by decide), cl 3 j (by decide), cl 30 j (by decide), cl 31 j (by decide)]; exact w1 j hj) (fun j hj => by rw [cl 32 j (by decide)]; exact w2 j hj) (fun j a b => by rw [cl 28 j (by decide)]; exact w3 j a b) (fun c hc => ?_) z2⟩
    rw [z1 c hc, hH9, hn9]
  · have hR1 : rS9 S s μ1 := rS9_cg hR (fun k j a b => mo k j a (by omega)) b2
    obtain ⟨g1, g2, g3⟩ := rt1 q
    have hR2 : rS9 S s μ2 := ⟨hR1.1, ⟨sR.1, by rw [r4 q, b2]; exact sR.2⟩, sM_o (s := ((1 : Int32) - (μ1.1 75 2)).toInt.toNat) (by omega) hS.1 r3 hR1.2.2.1, rLC_o hR1.2.2.2 (by omega) r6⟩
    refine ⟨S, s, m, G, Z, zT_kq hz0 hR2 r1 (zRp_tr p1 p2) (fun a j h9 => ?_) (by rw [g2, b10])⟩
    rcases h9 with h9 | h9 | h9 | h9 | h9 | h9 | h9
    · rw [cl a j (by omega)]; exact k2 q a j h9.1 h9.2
    · rw [cl a j (by omega)]; exact ct1 q a j (Or.inl h9)
    · rw [cl a j (by omega)]
      by_cases e : a = 40 ∨ a = 43
      · exact ct1 q a j (by omega)
      · exact hSt f1 hO (by omega) (hpA_ok (by
          have hh : ∀ k, k < 43 → 41 ≤ k → hpA hw_98_0 k = true := by decide +kernel
          exact hh a (by omega) (by omega)) j)
    · rw [g1 a j (by omega)]; exact mo a j (by omega) (by omega)
    · rw [g1 a j (by omega)]; exact mo a j (by omega) (by omega)
    · rw [g1 a j (by omega)]; exact mo a j (by omega) (by omega)
    · rw [g1 a j (by omega)]; exact mo a j (by omega) (by omega)
