/-! ===== the reference's read: what is told ===== -/
set_option maxRecDepth 10000 in
set_option maxHeartbeats 4000000 in
theorem rk_pl38 {s : Int32} {ω0 μ' : xM} {r : Option zV} : ∀ (n : Nat) (k : Int32) (ω : xM), eT xq_218 n 38 [some (.inr (.inl (some 75))), some (.inl s), some (.inl k)] [] ω r μ' → (∀ k j, 84 ≤ k → k ≤ 93 → ω.1 k j = ω0.1 k j) → ω.2 = ω0.2 → (∀ k j, 84 ≤ k → k ≤ 93 → μ'.1 k j = ω0.1 k j) ∧ μ'.2 = ω0.2 := by
  intro n
  induction n using Nat.strongRecOn with
  | ind n ih =>
  intro k ω h hF h2
  replace h := tx_iload_n (p' := 39) h em218_38 rfl rfl
  replace h := tx_iconst (v := 4) (p' := 40) h em218_39 (by decide +kernel) rfl
  rcases tx_icmp (t := 71) (p' := 43) h em218_40 (by decide) rfl with ⟨c40, h⟩ | ⟨c40, h⟩
  · replace c40 : 4 ≤ k.toInt := c40
    obtain ⟨rfl, hμ⟩ := tx_return h em218_71
    rw [hμ]
    exact ⟨hF, h2⟩
  · replace c40 : ¬ 4 ≤ k.toInt := c40
    replace h := tx_aload_n (p' := 44) h em218_43 rfl rfl
    replace h := tx_getc (c := 12) (j := 41) (p' := 47) h em218_44 ((congrFun xo_12 73).trans rfl) rfl rfl rfl
    replace h := tx_iconst (v := 4) (p' := 48) h em218_47 (by decide +kernel) rfl
    replace h := tx_iload_n (p' := 49) h em218_48 rfl rfl
    replace h := tx_imul (p' := 50) h em218_49 rfl
    replace h := tx_iload_n (p' := 51) h em218_50 rfl rfl
    replace h := tx_iadd (p' := 52) h em218_51 rfl
    replace h := tx_iconst (v := 0) (p' := 53) h em218_52 (by decide +kernel) rfl
    obtain ⟨hb53, h⟩ := tx_iast (len := 8) (p' := 54) h em218_53 rfl rfl
    replace hb53 : (0 : Int) ≤ (((4 : Int32) * s) + k).toInt ∧ (((4 : Int32) * s) + k).toInt < 8 := hb53
    replace h := tx_aload_n (p' := 55) h em218_54 rfl rfl
    replace h := tx_getc (c := 12) (j := 42) (p' := 58) h em218_55 ((congrFun xo_12 76).trans rfl) rfl rfl rfl
    replace h := tx_iconst (v := 4) (p' := 59) h em218_58 (by decide +kernel) rfl
    replace h := tx_iload_n (p' := 60) h em218_59 rfl rfl
    replace h := tx_imul (p' := 61) h em218_60 rfl
    replace h := tx_iload_n (p' := 62) h em218_61 rfl rfl
    replace h := tx_iadd (p' := 63) h em218_62 rfl
    replace h := tx_iconst (v := 0) (p' := 64) h em218_63 (by decide +kernel) rfl
    obtain ⟨hb64, h⟩ := tx_iast (len := 8) (p' := 65) h em218_64 rfl rfl
    replace hb64 : (0 : Int) ≤ (((4 : Int32) * s) + k).toInt ∧ (((4 : Int32) * s) + k).toInt < 8 := hb64
    replace h := tx_iinc (v := 1) (p' := 68) h em218_65 (by decide +kernel) rfl rfl
    replace h : eT xq_218 _ 68 [some (.inr (.inl (some 75))), some (.inl s), some (.inl (k + 1))] [] (xpi (xpi ω 94 (((4 : Int32) * s) + k).toInt.toNat (0 : Int32)) 95 (((4 : Int32) * s) + k).toInt.toNat (0 : Int32)) r μ' := h
    obtain ⟨n2, hn2, h⟩ := tx_gotoS (t := 38) h em218_68 (by decide)
    exact ih n2 hn2 _ _ h (fun c j a b => (xpi_ne (fun q => by omega)).trans ((xpi_ne (fun q => by omega)).trans (hF c j a b))) h2
set_option maxRecDepth 10000 in
set_option maxHeartbeats 4000000 in
theorem rk_plain {s : Int32} {t : Nat} {μ μ' : xM} {r : Option zV} (h0 : Ex gx xq_218 [.inr (.inl (some 75)), .inl s] μ r μ') (hs : s.toInt = (t : Int)) (hO : hOK μ) : hOK μ' ∧ oE t μ μ' ∧ sM t kS0 μ' := by
  obtain ⟨n, h⟩ := tx_in (L := [some (.inr (.inl (some 75))), some (.inl s), none]) h0 rfl
  replace h := tx_aload_n (p' := 1) h em218_0 rfl rfl
  replace h := tx_getc (c := 12) (j := 3) (p' := 4) h em218_1 ((congrFun xo_12 43).trans rfl) rfl rfl rfl
  replace h := tx_iload_n (p' := 5) h em218_4 rfl rfl
  replace h := tx_iconst (v := 0) (p' := 6) h em218_5 (by decide +kernel) rfl
  obtain ⟨hb6, h⟩ := tx_iast (len := 2) (p' := 7) h em218_6 rfl rfl
  replace hb6 : (0 : Int) ≤ s.toInt ∧ s.toInt < 2 := hb6
  replace h := tx_aload_n (p' := 8) h em218_7 rfl rfl
  replace h := tx_getc (c := 12) (j := 4) (p' := 11) h em218_8 ((congrFun xo_12 49).trans rfl) rfl rfl rfl
  replace h := tx_iload_n (p' := 12) h em218_11 rfl rfl
  replace h := tx_iconst (v := 0) (p' := 13) h em218_12 (by decide +kernel) rfl
  obtain ⟨hb13, h⟩ := tx_iast (len := 2) (p' := 14) h em218_13 rfl rfl
  replace hb13 : (0 : Int) ≤ s.toInt ∧ s.toInt < 2 := hb13
  replace h := tx_aload_n (p' := 15) h em218_14 rfl rfl
  replace h := tx_getc (c := 12) (j := 40) (p' := 18) h em218_15 ((congrFun xo_12 64).trans rfl) rfl rfl rfl
  replace h := tx_iload_n (p' := 19) h em218_18 rfl rfl
  replace h := tx_bipush (v := 20) (p' := 21) h em218_19 (by decide +kernel) rfl
  obtain ⟨hb21, h⟩ := tx_iast (len := 2) (p' := 22) h em218_21 rfl rfl
  replace hb21 : (0 : Int) ≤ s.toInt ∧ s.toInt < 2 := hb21
  replace h := tx_aload_n (p' := 23) h em218_22 rfl rfl
  replace h := tx_getc (c := 12) (j := 9) (p' := 26) h em218_23 ((congrFun xo_12 67).trans rfl) rfl rfl rfl
  replace h := tx_iload_n (p' := 27) h em218_26 rfl rfl
  replace h := tx_iconst (v := 0) (p' := 28) h em218_27 (by decide +kernel) rfl
  obtain ⟨hb28, h⟩ := tx_iast (len := 2) (p' := 29) h em218_28 rfl rfl
  replace hb28 : (0 : Int) ≤ s.toInt ∧ s.toInt < 2 := hb28
  replace h := tx_aload_n (p' := 30) h em218_29 rfl rfl
  replace h := tx_getc (c := 12) (j := 5) (p' := 33) h em218_30 ((congrFun xo_12 70).trans rfl) rfl rfl rfl
  replace h := tx_iload_n (p' := 34) h em218_33 rfl rfl
  replace h := tx_iconst (v := 0) (p' := 35) h em218_34 (by decide +kernel) rfl
  obtain ⟨hb35, h⟩ := tx_iast (len := 2) (p' := 36) h em218_35 rfl rfl
  replace hb35 : (0 : Int) ≤ s.toInt ∧ s.toInt < 2 := hb35
  replace h := tx_iconst (v := 0) (p' := 37) h em218_36 (by decide +kernel) rfl
  replace h := tx_istore_n (p' := 38) h em218_37 rfl
  replace h : eT xq_218 _ 38 [some (.inr (.inl (some 75))), some (.inl s), some (.inl (0 : Int32))] [] (xpi (xpi (xpi (xpi (xpi μ 84 s.toInt.toNat (0 : Int32)) 86 s.toInt.toNat (0 : Int32)) 91 s.toInt.toNat (20 : Int32)) 92 s.toInt.toNat (0 : Int32)) 93 s.toInt.toNat (0 : Int32)) r μ' := h
  obtain ⟨g1, g2⟩ := rk_pl38 _ _ _ h (fun _ _ _ _ => rfl) rfl
  have es : s.toInt.toNat = t := by omega
  rw [es] at g1
  have n84 : ∀ k j, 84 ≤ k → k ≤ 93 → k ≠ 84 → k ≠ 86 → k ≠ 91 → k ≠ 92 → k ≠ 93 → μ'.1 k j = μ.1 k j := fun k j a b c d e f g => by
    rw [g1 k j a b, xpi_ne (fun q => g q.1), xpi_ne (fun q => f q.1), xpi_ne (fun q => e q.1), xpi_ne (fun q => d q.1), xpi_ne (fun q => c q.1)]
  refine ⟨hOK_2 (g2.trans rfl) hO, ⟨fun k j a b => ?_, fun j _ => n84 85 j (by decide) (by decide) (by decide) (by decide) (by decide) (by decide) (by decide), fun k j a _ => n84 k j (by omega) (by omega) (by omega) (by omega) (by omega) (by omega) (by omega), fun j _ => n84 88 j (by decide) (by decide) (by decide) (by decide) (by decide) (by decide) (by decide)⟩, ⟨?_, ?_, ?_, ?_, ?_⟩, fun h l x _ => absurd x (Nat.not_lt_zero h), fun v x => absurd x (Nat.not_lt_zero v)⟩
  · rw [g1 k j (by omega) (by omega), xpi_ne (fun q => b q.2), xpi_ne (fun q => b q.2), xpi_ne (fun q => b q.2), xpi_ne (fun q => b q.2), xpi_ne (fun q => b q.2)]
  · rw [g1 84 t (by decide) (by decide), xpi_ne (fun q => absurd q.1 (by decide)), xpi_ne (fun q => absurd q.1 (by decide)), xpi_ne (fun q => absurd q.1 (by decide)), xpi_ne (fun q => absurd q.1 (by decide)), xpi_at]; rfl
  · rw [g1 86 t (by decide) (by decide), xpi_ne (fun q => absurd q.1 (by decide)), xpi_ne (fun q => absurd q.1 (by decide)), xpi_ne (fun q => absurd q.1 (by decide)), xpi_at]; rfl
  · rw [g1 91 t (by decide) (by decide), xpi_ne (fun q => absurd q.1 (by decide)), xpi_ne (fun q => absurd q.1 (by decide)), xpi_at]; rfl
  · rw [g1 92 t (by decide) (by decide), xpi_ne (fun q => absurd q.1 (by decide)), xpi_at]; rfl
  · rw [g1 93 t (by decide) (by decide), xpi_at]; rfl
theorem rLt_ok {μ : xM} {m t : Int} (hT : qzT μ m) (h0 : 0 ≤ t) (h1 : t ≤ m) (hk : rK μ t = 2) (hl : rl μ t = true) : (rLt μ t).length ≤ 8 ∧ ∀ x, x ∈ rLt μ t → 0 ≤ x ∧ x ≤ 7 := by
  obtain ⟨es, e1, e2⟩ := (hT.2.2.2.2 t h0 h1).2 hk
  obtain ⟨fs, f1, f2⟩ := bl2_t.mp hl
  have e : es = fs := qzR_inj e1.1 (fun d hd => ⟨(f1 d hd).1, by have := (f1 d hd).2; omega⟩) (e2.symm.trans f2)
  subst e
  unfold rLt
  rw [rEs_eq e1 e2]
  refine ⟨by rw [List.length_map, List.length_reverse]; exact e1.2, fun x hx => ?_⟩
  obtain ⟨d, hd, rfl⟩ := List.mem_map.mp hx
  have := f1 d (List.mem_reverse.mp hd)
  omega
/-- how the loop stands, with what is told: U in the end -/
def rkJ (lw : Int → kLw) (s : Nat) (T : Int × Int) (U : kSt) (ν ω : xM) : Prop := hOK ω ∧ oE s ν ω ∧ rSd ω = (s : Int) ∧ (rF ω = 0 → T.1 = 0 → ∃ (S : kSt) (f : Nat), sM s S ω ∧ kWf S ∧ 401 - rT ω ≤ (f : Int) ∧ U = kText (rK ν) (rLt ν) (rVl ν) lw f (rT ω) (rH ω) (rU ω) S)
theorem rkJ_s {lw : Int → kLw} {s : Nat} {m : Int} {T : Int × Int} {U : kSt} {ν ω ω' : xM} {ns : List Int} (hG : qzG ν ω) (hf : rF ω = 0) (hI : qzI m ω) (hk : ¬ rK ω (rT ω) = 0) (ho : rOT m ns ω ω') (hN : reI m T ν ω') (hJ : rkJ lw s T U ν ω) (hc : hOK ω' ∧ oE (rSd ω).toNat ω ω' ∧ (rF ω' = 0 → (rW ω').1 = 0 → ∀ S, kWf S → sM (rSd ω).toNat S ω → sM (rSd ω).toNat (kStep (rK ω) (rLt ω) (rVl ω) lw (rT ω) S) ω')) : rkJ lw s T U ν ω' := by
  obtain ⟨j1, j2, j3, j4⟩ := hJ
  obtain ⟨c1, c2, c3⟩ := hc
  obtain ⟨o1, o2, o3, o4⟩ := ho
  have es : (rSd ω).toNat = s := by omega
  rw [es] at c2 c3
  have e32 : rSd ω' = rSd ω := by unfold rSd; rw [o1.2.1 32 (by decide) (by decide) (by decide) (by decide) (by decide) (by decide)]
  refine ⟨c1, oE_tr j2 c2, by rw [e32]; exact j3, fun hz hT => ?_⟩
  obtain ⟨S, f, s1, s2, s3, s4⟩ := j4 hf hT
  obtain ⟨p1, p2, p3, p4, p5, p6⟩ := o4 hz
  have hw0 : (rW ω').1 = 0 := by
    rcases hN.2.2 with ⟨-, -, -, ns', f', -, -, a6⟩ | ⟨a1, -⟩
    · rw [a6] at hT
      exact pText_0 _ _ _ _ _ _ hT
    · omega
  have hsc : (pTell (rK ω) (rH ω) (rU ω) (rT ω)).2 = 0 ∧ rT ω' = (pTell (rK ω) (rH ω) (rU ω) (rT ω)).1 := by
    rcases o3 with ⟨d1, d2, d3⟩ | ⟨d1, d2, d3⟩
    · exact ⟨d1, d3⟩
    · omega
  have hb := hI.2.2 hf
  have hm := hI.1.1.2
  have hb' := p1.2.2 hz
  have eH : rH ω = (S.1.length : Int) := by have := s1.1.1; unfold rH; rw [es]; exact this
  have eU : rU ω = (S.2.1.length : Int) := by have := s1.1.2.1; unfold rU; rw [es]; exact this
  rw [p4] at hw0
  refine ⟨_, f - 1, c3 hz (by rw [p4]; exact hw0) S s2 s1, ?_, by omega, ?_⟩
  · have hsc' := hsc.1
    rw [eH, eU] at hsc'
    refine kWf_s s2 hsc' hw0 (fun t t0 t1 tk tl => ?_) (fun t t0 t1 tk => ?_)
    · rw [← eH, ← eU, ← hsc.2] at t1
      exact rLt_ok hI.1 (by omega) (by omega) tk tl
    · rw [← eH, ← eU, ← hsc.2] at t1
      exact (hI.1.2.2.2.2 t (by omega) (by omega)).1 tk
  · obtain ⟨f2, rfl⟩ : ∃ f2, f = f2 + 1 := ⟨f - 1, by omega⟩
    rw [s4, ← qzG_K hG, ← qzG_rLt hG, ← qzG_V hG]
    show (if rK ω (rT ω) = 0 then S else if (pTell (rK ω) (rH ω) (rU ω) (rT ω)).2 = 0 then kText _ _ _ _ _ _ _ _ _ else S) = _
    rw [if_neg hk, if_pos hsc.1, p5, p6, hsc.2]
    rfl
set_option maxRecDepth 10000 in
set_option maxHeartbeats 4000000 in
theorem rk_loop {lw : Int → kLw} {s : Nat} {U : kSt} {m : Int} {T : Int × Int} {ν μ' : xM} {r : Option zV} (hK0 : ∀ a, 0 ≤ a → a ≤ m → 0 ≤ rK ν a) : ∀ (n : Nat) (i : Int32) (ω : xM), eT xq_180 n 112 [some (.inr (.inl (some 75))), some (.inl i)] [] ω r μ' → reI m T ν ω → rkJ lw s T U ν ω → ∃ (ω' : xM) (n' : Nat) (i' : Int32), eT xq_180 n' 134 [some (.inr (.inl (some 75))), some (.inl i')] [] ω' r μ' ∧ qzG ν ω' ∧ reE T ω' ∧ hOK ω' ∧ oE s ν ω' ∧ rSd ω' = (s : Int) ∧ (rF ω' = 0 → T.1 = 0 → sM s U ω' ∧ kWf U) := by
  intro n
  induction n using Nat.strongRecOn with
  | ind n ih =>
  intro i ω h hI hJ
  replace h := tx_aload_n (p' := 113) h em180_112 rfl rfl
  replace h := tx_getf (c := 12) (j := 27) (p' := 116) h em180_113 ((congrFun xo_12 200).trans rfl) rfl rfl (by decide) rfl
  rcases tx_if (t := 134) (p' := 119) h em180_116 (by decide) rfl with ⟨c116, h⟩ | ⟨c116, h⟩
  · replace c116 : ¬ (ω.1 75 27).toInt = 0 := c116
    refine ⟨ω, _, _, h, hI.1, ?_, hJ.1, hJ.2.1, hJ.2.2.1, fun hz _ => ?_⟩
    · rcases hI.2.2 with ⟨a1, -⟩ | a1
      · unfold rF at a1; omega
      · exact Or.inl a1
    · exfalso; unfold rF at hz; omega
  · replace c116 : ¬ ¬ (ω.1 75 27).toInt = 0 := c116
    replace h := tx_aload_n (p' := 120) h em180_119 rfl rfl
    replace h := tx_iconst (v := 0) (p' := 121) h em180_120 (by decide +kernel) rfl
    obtain ⟨r121, μ121, hE121, h⟩ := tx_invV (na := 2) (mn := 149) (as := [.inr (.inl (some 75)), .inl (0 : Int32)]) (rest := []) (p' := 124) h em180_121 ((congrFun xo_12 218).trans rfl) xm_149 rfl rfl
    obtain ⟨hm, ⟨rfl, i1211, i1212, i1213⟩ | ⟨rfl, i1211⟩⟩ := ex_is hE121 (by decide)
    · rw [hm] at h
      replace h : eT xq_180 _ 124 [some (.inr (.inl (some 75))), some (.inl i)] [.inl (1 : Int32)] ω r μ' := h
      rcases tx_if (t := 134) (p' := 127) h em180_124 (by decide) rfl with ⟨c124, h⟩ | ⟨c124, h⟩
      · replace c124 : ¬ (1 : Int) = (0 : Int) := c124
        have hk9 : rF ω = 0 → rK ν (rT ω) = 0 := fun _ => by rw [← qzG_K hI.1]; exact i1212.trans (by decide)
        refine ⟨ω, _, _, h, hI.1, ?_, hJ.1, hJ.2.1, hJ.2.2.1, fun hz hT => ?_⟩
        · rcases hI.2.2 with ⟨a1, a2, a3, ns, f, a4, a5, a6⟩ | ⟨a1, -⟩
          · refine Or.inr ⟨a1, a3, ?_⟩
            have hb := a2.2.2 a1
            have hm := a2.1.1
            obtain ⟨f, rfl⟩ : ∃ f', f = f' + 1 := ⟨f - 1, by omega⟩
            rw [a6]
            unfold rTx pText
            rw [if_pos (hk9 a1)]
          · unfold rF at a1; omega
        · obtain ⟨S, f, s1, s2, s3, s4⟩ := hJ.2.2.2 hz hT
          have hb : rT ω ≤ 400 := by
            rcases hI.2.2 with ⟨a1, a2, -⟩ | ⟨a1, -⟩
            · have := (a2.2.2 a1).2.1; have := a2.1.1.2; omega
            · omega
          obtain ⟨f, rfl⟩ : ∃ f', f = f' + 1 := ⟨f - 1, by omega⟩
          have eU : U = S := by
            rw [s4]
            show (if rK ν (rT ω) = 0 then S else _) = S
            rw [if_pos (hk9 hz)]
          rw [eU]
          exact ⟨s1, s2⟩
      · replace c124 : ¬ ¬ (1 : Int) = (0 : Int) := c124
        exfalso
        omega
    · rw [hm] at h
      replace h : eT xq_180 _ 124 [some (.inr (.inl (some 75))), some (.inl i)] [.inl (0 : Int32)] ω r μ' := h
      rcases tx_if (t := 134) (p' := 127) h em180_124 (by decide) rfl with ⟨c124_1, h⟩ | ⟨c124_1, h⟩
      · replace c124_1 : ¬ (0 : Int) = (0 : Int) := c124_1
        exfalso
        omega
      · replace c124_1 : ¬ ¬ (0 : Int) = (0 : Int) := c124_1
        replace h := tx_aload_n (p' := 128) h em180_127 rfl rfl
        obtain ⟨r128, μ128, hE128, h⟩ := tx_invV (na := 1) (mn := 219) (as := [.inr (.inl (some 75))]) (rest := []) (p' := 131) h em180_128 ((congrFun xo_12 245).trans rfl) xm_219 rfl rfl
        obtain ⟨hG, hF0, hcase⟩ := hI
        have hf0 : rF ω = 0 := by unfold rF; omega
        have hc2 : qzI m ω ∧ 0 ≤ (rW ω).1 ∧ ∃ (ns : List Int) (f : Nat), rI ns ω ∧ 401 - rT ω ≤ (f : Int) ∧ T = rTx ν f (rT ω) (rH ω) (rU ω) ns (rW ω) := by
          rcases hcase with ⟨-, a2, a3, a4⟩ | ⟨a1, -⟩
          · exact ⟨a2, a3, a4⟩
          · omega
        obtain ⟨a2, a3, ns, f, a4, a5, a6⟩ := hc2
        have a1 := hf0
        have hk0 : 0 ≤ rK ω (rT ω) := by
          have hb := a2.2.2 a1
          rw [qzG_K hG]
          exact hK0 _ hb.1 hb.2.1
        have hc := rk_one (lw := lw) hE128 a2 a1 a4 hk0 hJ.1
        obtain ⟨rfl, ho⟩ := tell_one hE128 a2 a1 a4 hk0
        replace h : eT xq_180 _ 131 [some (.inr (.inl (some 75))), some (.inl i)] [] μ128 r μ' := h
        obtain ⟨n2, hn2, h⟩ := tx_gotoS (t := 112) h em180_131 (by decide)
        have hkn : ¬ rK ω (rT ω) = 0 := fun q => i1211 ⟨a1, q.trans (by decide)⟩
        have hN := reI_s hG a1 a2 a3 a4 a5 a6 hkn ho
        exact ih n2 hn2 _ _ h hN (rkJ_s hG a1 a2 hkn ho hN hJ hc)
