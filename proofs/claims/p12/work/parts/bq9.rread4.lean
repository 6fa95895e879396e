/-! ===== the reference's read: its laws ===== -/
def mE2 (μ μ' : xM) : Prop := hOK μ' ∧ ∀ k j, 84 ≤ k → k ≤ 102 → μ'.1 k j = μ.1 k j
noncomputable def mB2 (W : hW) : Bool := (List.range 19).all (fun k => hpA W (84 + k))
theorem mE2_w {W : hW} {μ μ' : xM} (hk : mB2 W = true) (h : hRm (hP W) (hQ W) μ μ') (hO : hOK μ) : mE2 μ μ' := by
  refine ⟨(h hO).1, fun k j h1 h2 => hSt h hO (by omega) (hpA_ok ?_ j)⟩
  have := List.all_eq_true.mp hk (k - 84) (List.mem_range.mpr (by omega))
  rw [show 84 + (k - 84) = k by omega] at this
  exact this
theorem oE_e {s : Nat} {μ ν : xM} (h : ∀ k j, 84 ≤ k → k ≤ 93 → ν.1 k j = μ.1 k j) : oE s μ ν := ⟨fun k j a _ => h k j (by omega) (by omega), fun j _ => h 85 j (by decide) (by decide), fun k j a _ => h k j (by omega) (by omega), fun j _ => h 88 j (by decide) (by decide)⟩
theorem oE_m2 {s : Nat} {μ ν : xM} (h : mE2 μ ν) : oE s μ ν := oE_m ⟨h.1, fun k j a b => h.2 k j a (by omega)⟩
theorem oL_m2 {s : Nat} {μ ν : xM} (h : mE2 μ ν) : oL s μ ν := oL_e (fun k j a b => h.2 k j (by omega) b)
/-- how the loop stands, with what is told: U in the end -/
def rzJ (lw : Int → kLw) (s : Nat) (T : Int × Int) (U : kSt) (ν ω : xM) : Prop := hOK ω ∧ (oE s ν ω ∧ oL s ν ω) ∧ rSd ω = (s : Int) ∧ (rF ω = 0 → rbd s ω) ∧ (rF ω = 0 → T.1 = 0 → ∃ (S : kSt) (f : Nat), (sM s S ω ∧ rLC s (rC9 ω) (rB ω) S.2.2.2 ω) ∧ kWf S ∧ 401 - rT ω ≤ (f : Int) ∧ U = kText (rK ν) (rLt ν) (rVl ν) lw f (rT ω) (rH ω) (rU ω) S)
theorem rzJ_s {lw : Int → kLw} {s : Nat} {m : Int} {T : Int × Int} {U : kSt} {ν ω ω' : xM} {ns : List Int} (hlw : lw = kLF (rK ν) (rVl ν) 4) (hG : qzG ν ω) (hf : rF ω = 0) (hI : qzI m ω) (hk : ¬ rK ω (rT ω) = 0) (ho : rOT m ns ω ω') (hN : reI m T ν ω') (hJ : rzJ lw s T U ν ω) (hc : hOK ω' ∧ oE (rSd ω).toNat ω ω' ∧ (rF ω' = 0 → (rW ω').1 = 0 → ∀ S, kWf S → sM (rSd ω).toNat S ω → sM (rSd ω).toNat (kStep (rK ω) (rLt ω) (rVl ω) lw (rT ω) S) ω')) (hd : rzQ s ω ω') : rzJ lw s T U ν ω' := by
  obtain ⟨j1, j2, j3, jb, j4⟩ := hJ
  obtain ⟨c1, c2, c3⟩ := hc
  obtain ⟨d1, d2, d3⟩ := hd
  obtain ⟨o1, o2, o3, o4⟩ := ho
  have es : (rSd ω).toNat = s := by omega
  rw [es] at c2 c3
  have e32 : rSd ω' = rSd ω := by unfold rSd; rw [o1.2.1 32 (by decide) (by decide) (by decide) (by decide) (by decide) (by decide)]
  refine ⟨c1, ⟨oE_tr j2.1 c2, oL_tr j2.2 d2⟩, by rw [e32]; exact j3, fun hz => (d3 hz).1 (jb hf), fun hz hT => ?_⟩
  obtain ⟨S, f, ⟨s1, sl⟩, s2, s3, s4⟩ := j4 hf hT
  obtain ⟨p1, p2, p3, p4, p5, p6⟩ := o4 hz
  have hw0 : (rW ω').1 = 0 := by
    rcases hN.2.2 with ⟨-, -, -, ns', f', -, -, a6⟩ | ⟨a1, -⟩
    · rw [a6] at hT
      exact pText_0 _ _ _ _ _ _ hT
    · omega
  have hsc : (pTell (rK ω) (rH ω) (rU ω) (rT ω)).2 = 0 ∧ rT ω' = (pTell (rK ω) (rH ω) (rU ω) (rT ω)).1 := by
    rcases o3 with ⟨d1, d2, d3⟩ | ⟨d1, d2, d3⟩
    · exact ⟨d1, d3⟩
    · omega
  have hb := hI.2.2 hf
  have hm := hI.1.1.2
  have hb' := p1.2.2 hz
  have eH : rH ω = (S.1.length : Int) := by have := s1.1.1; unfold rH; rw [es]; exact this
  have eU : rU ω = (S.2.1.length : Int) := by have := s1.1.2.1; unfold rU; rw [es]; exact this
  rw [p4] at hw0
  refine ⟨_, f - 1, ⟨c3 hz (by rw [p4]; exact hw0) S s2 s1, (d3 hz).2 (fun _ => by rw [hlw, qzG_K hG, qzG_V hG]) (jb hf) sl⟩, ?_, by omega, ?_⟩
  · have hsc' := hsc.1
    rw [eH, eU] at hsc'
    refine kWf_s s2 hsc' hw0 (fun t t0 t1 tk tl => ?_) (fun t t0 t1 tk => ?_)
    · rw [← eH, ← eU, ← hsc.2] at t1
      exact rLt_ok hI.1 (by omega) (by omega) tk tl
    · rw [← eH, ← eU, ← hsc.2] at t1
      exact (hI.1.2.2.2.2 t (by omega) (by omega)).1 tk
  · obtain ⟨f2, rfl⟩ : ∃ f2, f = f2 + 1 := ⟨f - 1, by omega⟩
    rw [s4, ← qzG_K hG, ← qzG_rLt hG, ← qzG_V hG]
    show (if rK ω (rT ω) = 0 then S else if (pTell (rK ω) (rH ω) (rU ω) (rT ω)).2 = 0 then kText _ _ _ _ _ _ _ _ _ else S) = _
    rw [if_neg hk, if_pos hsc.1, p5, p6, hsc.2]
    rfl
set_option maxRecDepth 10000 in
set_option maxHeartbeats 4000000 in
theorem rz_pl38 {s : Int32} {t : Nat} {ω0 μ' : xM} {r : Option zV} (hs : s.toInt = (t : Int)) (ht : t ≤ 1) : ∀ (n : Nat) (k : Int32) (ω : xM), eT xq_218 n 38 [some (.inr (.inl (some 75))), some (.inl s), some (.inl k)] [] ω r μ' → 0 ≤ k.toInt → k.toInt ≤ 4 → (∀ j : Nat, (j : Int) < k.toInt → (ω.1 94 (4 * t + j)).toInt = (ω.1 95 (4 * t + j)).toInt) → oL t ω0 ω → (∀ j : Nat, j < 4 → (μ'.1 94 (4 * t + j)).toInt = (μ'.1 95 (4 * t + j)).toInt) ∧ oL t ω0 μ' := by
  have e1i : (1 : Int32).toInt = 1 := by decide
  have e4i : (4 : Int32).toInt = 4 := by decide
  have em : ((4 : Int32) * s).toInt = 4 * (t : Int) := by rw [an_mul (by rw [e4i, hs]; omega) (by rw [e4i, hs]; omega), e4i, hs]
  intro n
  induction n using Nat.strongRecOn with
  | ind n ih =>
  intro k ω h hk0 hk4 hZ hF
  replace h := tx_iload_n (p' := 39) h em218_38 rfl rfl
  replace h := tx_iconst (v := 4) (p' := 40) h em218_39 (by decide +kernel) rfl
  rcases tx_icmp (t := 71) (p' := 43) h em218_40 (by decide) rfl with ⟨c40, h⟩ | ⟨c40, h⟩
  · replace c40 : 4 ≤ k.toInt := c40
    obtain ⟨rfl, hμ⟩ := tx_return h em218_71
    rw [hμ]
    exact ⟨fun j hj => hZ j (by omega), hF⟩
  · replace c40 : ¬ 4 ≤ k.toInt := c40
    replace h := tx_aload_n (p' := 44) h em218_43 rfl rfl
    replace h := tx_getc (c := 12) (j := 41) (p' := 47) h em218_44 ((congrFun xo_12 73).trans rfl) rfl rfl rfl
    replace h := tx_iconst (v := 4) (p' := 48) h em218_47 (by decide +kernel) rfl
    replace h := tx_iload_n (p' := 49) h em218_48 rfl rfl
    replace h := tx_imul (p' := 50) h em218_49 rfl
    replace h := tx_iload_n (p' := 51) h em218_50 rfl rfl
    replace h := tx_iadd (p' := 52) h em218_51 rfl
    replace h := tx_iconst (v := 0) (p' := 53) h em218_52 (by decide +kernel) rfl
    obtain ⟨hb53, h⟩ := tx_iast (len := 8) (p' := 54) h em218_53 rfl rfl
    replace hb53 : (0 : Int) ≤ (((4 : Int32) * s) + k).toInt ∧ (((4 : Int32) * s) + k).toInt < 8 := hb53
    replace h := tx_aload_n (p' := 55) h em218_54 rfl rfl
    replace h := tx_getc (c := 12) (j := 42) (p' := 58) h em218_55 ((congrFun xo_12 76).trans rfl) rfl rfl rfl
    replace h := tx_iconst (v := 4) (p' := 59) h em218_58 (by decide +kernel) rfl
    replace h := tx_iload_n (p' := 60) h em218_59 rfl rfl
    replace h := tx_imul (p' := 61) h em218_60 rfl
    replace h := tx_iload_n (p' := 62) h em218_61 rfl rfl
    replace h := tx_iadd (p' := 63) h em218_62 rfl
    replace h := tx_iconst (v := 0) (p' := 64) h em218_63 (by decide +kernel) rfl
    obtain ⟨hb64, h⟩ := tx_iast (len := 8) (p' := 65) h em218_64 rfl rfl
    replace hb64 : (0 : Int) ≤ (((4 : Int32) * s) + k).toInt ∧ (((4 : Int32) * s) + k).toInt < 8 := hb64
    replace h := tx_iinc (v := 1) (p' := 68) h em218_65 (by decide +kernel) rfl rfl
    replace h : eT xq_218 _ 68 [some (.inr (.inl (some 75))), some (.inl s), some (.inl (k + 1))] [] (xpi (xpi ω 94 (((4 : Int32) * s) + k).toInt.toNat (0 : Int32)) 95 (((4 : Int32) * s) + k).toInt.toNat (0 : Int32)) r μ' := h
    obtain ⟨n2, hn2, h⟩ := tx_gotoS (t := 38) h em218_68 (by decide)
    have ek : (((4 : Int32) * s) + k).toInt.toNat = 4 * t + k.toInt.toNat := by
      have : (((4 : Int32) * s) + k).toInt = 4 * (t : Int) + k.toInt := by rw [an_add (by rw [em]; omega) (by rw [em]; omega), em]
      omega
    have e1 : (k + 1).toInt = k.toInt + 1 := by rw [an_add (by rw [e1i]; omega) (by rw [e1i]; omega), e1i]
    rw [ek] at h
    refine ih n2 hn2 _ _ h (by omega) (by omega) (fun j hj => ?_) (oL_tr hF ⟨fun c j a b d => ?_, fun c j a b d => ?_, fun c j a b d => ?_⟩)
    · by_cases q : j = k.toInt.toNat
      · subst q
        rw [xpi_ne (fun q => absurd q.1 (by decide)), xpi_at, xpi_at]
      · rw [xpi_ne (fun q => absurd q.1 (by decide)), xpi_ne (fun z => q (by omega)), xpi_ne (fun z => q (by omega)), xpi_ne (fun q => absurd q.1 (by decide))]
        exact hZ j (by omega)
    · exact (xpi_ne (fun q => by omega)).trans (xpi_ne (fun q => by omega))
    · exact (xpi_ne (fun q => by omega)).trans (xpi_ne (fun q => by omega))
    · exact (xpi_ne (fun q => by omega)).trans (xpi_ne (fun q => by omega))
set_option maxRecDepth 10000 in
set_option maxHeartbeats 4000000 in
theorem rz_plain {s : Int32} {t : Nat} {μ μ' : xM} {r : Option zV} (h0 : Ex gx xq_218 [.inr (.inl (some 75)), .inl s] μ r μ') (hs : s.toInt = (t : Int)) (ht : t ≤ 1) : (∀ j : Nat, j < 4 → (μ'.1 94 (4 * t + j)).toInt = (μ'.1 95 (4 * t + j)).toInt) ∧ oL t μ μ' := by
  obtain ⟨n, h⟩ := tx_in (L := [some (.inr (.inl (some 75))), some (.inl s), none]) h0 rfl
  replace h := tx_aload_n (p' := 1) h em218_0 rfl rfl
  replace h := tx_getc (c := 12) (j := 3) (p' := 4) h em218_1 ((congrFun xo_12 43).trans rfl) rfl rfl rfl
  replace h := tx_iload_n (p' := 5) h em218_4 rfl rfl
  replace h := tx_iconst (v := 0) (p' := 6) h em218_5 (by decide +kernel) rfl
  obtain ⟨hb6, h⟩ := tx_iast (len := 2) (p' := 7) h em218_6 rfl rfl
  replace hb6 : (0 : Int) ≤ s.toInt ∧ s.toInt < 2 := hb6
  replace h := tx_aload_n (p' := 8) h em218_7 rfl rfl
  replace h := tx_getc (c := 12) (j := 4) (p' := 11) h em218_8 ((congrFun xo_12 49).trans rfl) rfl rfl rfl
  replace h := tx_iload_n (p' := 12) h em218_11 rfl rfl
  replace h := tx_iconst (v := 0) (p' := 13) h em218_12 (by decide +kernel) rfl
  obtain ⟨hb13, h⟩ := tx_iast (len := 2) (p' := 14) h em218_13 rfl rfl
  replace hb13 : (0 : Int) ≤ s.toInt ∧ s.toInt < 2 := hb13
  replace h := tx_aload_n (p' := 15) h em218_14 rfl rfl
  replace h := tx_getc (c := 12) (j := 40) (p' := 18) h em218_15 ((congrFun xo_12 64).trans rfl) rfl rfl rfl
  replace h := tx_iload_n (p' := 19) h em218_18 rfl rfl
  replace h := tx_bipush (v := 20) (p' := 21) h em218_19 (by decide +kernel) rfl
  obtain ⟨hb21, h⟩ := tx_iast (len := 2) (p' := 22) h em218_21 rfl rfl
  replace hb21 : (0 : Int) ≤ s.toInt ∧ s.toInt < 2 := hb21
  replace h := tx_aload_n (p' := 23) h em218_22 rfl rfl
  replace h := tx_getc (c := 12) (j := 9) (p' := 26) h em218_23 ((congrFun xo_12 67).trans rfl) rfl rfl rfl
  replace h := tx_iload_n (p' := 27) h em218_26 rfl rfl
  replace h := tx_iconst (v := 0) (p' := 28) h em218_27 (by decide +kernel) rfl
  obtain ⟨hb28, h⟩ := tx_iast (len := 2) (p' := 29) h em218_28 rfl rfl
  replace hb28 : (0 : Int) ≤ s.toInt ∧ s.toInt < 2 := hb28
  replace h := tx_aload_n (p' := 30) h em218_29 rfl rfl
  replace h := tx_getc (c := 12) (j := 5) (p' := 33) h em218_30 ((congrFun xo_12 70).trans rfl) rfl rfl rfl
  replace h := tx_iload_n (p' := 34) h em218_33 rfl rfl
  replace h := tx_iconst (v := 0) (p' := 35) h em218_34 (by decide +kernel) rfl
  obtain ⟨hb35, h⟩ := tx_iast (len := 2) (p' := 36) h em218_35 rfl rfl
  replace hb35 : (0 : Int) ≤ s.toInt ∧ s.toInt < 2 := hb35
  replace h := tx_iconst (v := 0) (p' := 37) h em218_36 (by decide +kernel) rfl
  replace h := tx_istore_n (p' := 38) h em218_37 rfl
  replace h : eT xq_218 _ 38 [some (.inr (.inl (some 75))), some (.inl s), some (.inl (0 : Int32))] [] (xpi (xpi (xpi (xpi (xpi μ 84 s.toInt.toNat (0 : Int32)) 86 s.toInt.toNat (0 : Int32)) 91 s.toInt.toNat (20 : Int32)) 92 s.toInt.toNat (0 : Int32)) 93 s.toInt.toNat (0 : Int32)) r μ' := h
  exact rz_pl38 hs ht _ _ _ h (by decide) (by decide) (fun j hj => j0y hj) (oL_e (fun k j a b => (xpi_ne (fun q => by omega)).trans ((xpi_ne (fun q => by omega)).trans ((xpi_ne (fun q => by omega)).trans ((xpi_ne (fun q => by omega)).trans (xpi_ne (fun q => by omega)))))))
set_option maxRecDepth 10000 in
set_option maxHeartbeats 4000000 in
theorem rz_loop {lw : Int → kLw} {s : Nat} {U : kSt} {m : Int} {T : Int × Int} {ν μ' : xM} {r : Option zV} (hlw : lw = kLF (rK ν) (rVl ν) 4) (hs1 : s ≤ 1) (hK0 : ∀ a, 0 ≤ a → a ≤ m → 0 ≤ rK ν a) : ∀ (n : Nat) (i : Int32) (ω : xM), eT xq_180 n 112 [some (.inr (.inl (some 75))), some (.inl i)] [] ω r μ' → reI m T ν ω → rzJ lw s T U ν ω → ∃ (ω' : xM) (n' : Nat) (i' : Int32), eT xq_180 n' 134 [some (.inr (.inl (some 75))), some (.inl i')] [] ω' r μ' ∧ qzG ν ω' ∧ reE T ω' ∧ hOK ω' ∧ (oE s ν ω' ∧ oL s ν ω') ∧ rSd ω' = (s : Int) ∧ (rF ω' = 0 → T.1 = 0 → (sM s U ω' ∧ rLC s (420 * s + 420) (130 * s + 130) U.2.2.2 ω') ∧ kWf U) := by
  intro n
  induction n using Nat.strongRecOn with
  | ind n ih =>
  intro i ω h hI hJ
  replace h := tx_aload_n (p' := 113) h em180_112 rfl rfl
  replace h := tx_getf (c := 12) (j := 27) (p' := 116) h em180_113 ((congrFun xo_12 200).trans rfl) rfl rfl (by decide) rfl
  rcases tx_if (t := 134) (p' := 119) h em180_116 (by decide) rfl with ⟨c116, h⟩ | ⟨c116, h⟩
  · replace c116 : ¬ (ω.1 75 27).toInt = 0 := c116
    refine ⟨ω, _, _, h, hI.1, ?_, hJ.1, hJ.2.1, hJ.2.2.1, fun hz _ => ?_⟩
    · rcases hI.2.2 with ⟨a1, -⟩ | a1
      · unfold rF at a1; omega
      · exact Or.inl a1
    · exfalso; unfold rF at hz; omega
  · replace c116 : ¬ ¬ (ω.1 75 27).toInt = 0 := c116
    replace h := tx_aload_n (p' := 120) h em180_119 rfl rfl
    replace h := tx_iconst (v := 0) (p' := 121) h em180_120 (by decide +kernel) rfl
    obtain ⟨r121, μ121, hE121, h⟩ := tx_invV (na := 2) (mn := 149) (as := [.inr (.inl (some 75)), .inl (0 : Int32)]) (rest := []) (p' := 124) h em180_121 ((congrFun xo_12 218).trans rfl) xm_149 rfl rfl
    obtain ⟨hm, ⟨rfl, i1211, i1212, i1213⟩ | ⟨rfl, i1211⟩⟩ := ex_is hE121 (by decide)
    · rw [hm] at h
      replace h : eT xq_180 _ 124 [some (.inr (.inl (some 75))), some (.inl i)] [.inl (1 : Int32)] ω r μ' := h
      rcases tx_if (t := 134) (p' := 127) h em180_124 (by decide) rfl with ⟨c124, h⟩ | ⟨c124, h⟩
      · replace c124 : ¬ (1 : Int) = (0 : Int) := c124
        have hk9 : rF ω = 0 → rK ν (rT ω) = 0 := fun _ => by rw [← qzG_K hI.1]; exact i1212.trans (by decide)
        refine ⟨ω, _, _, h, hI.1, ?_, hJ.1, hJ.2.1, hJ.2.2.1, fun hz hT => ?_⟩
        · rcases hI.2.2 with ⟨a1, a2, a3, ns, f, a4, a5, a6⟩ | ⟨a1, -⟩
          · refine Or.inr ⟨a1, a3, ?_⟩
            have hb := a2.2.2 a1
            have hm := a2.1.1
            obtain ⟨f, rfl⟩ : ∃ f', f = f' + 1 := ⟨f - 1, by omega⟩
            rw [a6]
            unfold rTx pText
            rw [if_pos (hk9 a1)]
          · unfold rF at a1; omega
        · obtain ⟨S, f, ⟨s1, sl⟩, s2, s3, s4⟩ := hJ.2.2.2.2 hz hT
          have hb : rT ω ≤ 400 := by
            rcases hI.2.2 with ⟨a1, a2, -⟩ | ⟨a1, -⟩
            · have := (a2.2.2 a1).2.1; have := a2.1.1.2; omega
            · omega
          obtain ⟨f, rfl⟩ : ∃ f', f = f' + 1 := ⟨f - 1, by omega⟩
          have eU : U = S := by
            rw [s4]
            show (if rK ν (rT ω) = 0 then S else _) = S
            rw [if_pos (hk9 hz)]
          rw [eU]
          have hbd := hJ.2.2.2.1 hz
          unfold rbd at hbd
          exact ⟨⟨s1, rLC_e sl (fun _ _ _ _ => rfl) (by omega) (by omega)⟩, s2⟩
      · replace c124 : ¬ ¬ (1 : Int) = (0 : Int) := c124
        exfalso
        omega
    · rw [hm] at h
      replace h : eT xq_180 _ 124 [some (.inr (.inl (some 75))), some (.inl i)] [.inl (0 : Int32)] ω r μ' := h
      rcases tx_if (t := 134) (p' := 127) h em180_124 (by decide) rfl with ⟨c124_1, h⟩ | ⟨c124_1, h⟩
      · replace c124_1 : ¬ (0 : Int) = (0 : Int) := c124_1
        exfalso
        omega
      · replace c124_1 : ¬ ¬ (0 : Int) = (0 : Int) := c124_1
        replace h := tx_aload_n (p' := 128) h em180_127 rfl rfl
        obtain ⟨r128, μ128, hE128, h⟩ := tx_invV (na := 1) (mn := 219) (as := [.inr (.inl (some 75))]) (rest := []) (p' := 131) h em180_128 ((congrFun xo_12 245).trans rfl) xm_219 rfl rfl
        obtain ⟨hG, hF0, hcase⟩ := hI
        have hf0 : rF ω = 0 := by unfold rF; omega
        have hc2 : qzI m ω ∧ 0 ≤ (rW ω).1 ∧ ∃ (ns : List Int) (f : Nat), rI ns ω ∧ 401 - rT ω ≤ (f : Int) ∧ T = rTx ν f (rT ω) (rH ω) (rU ω) ns (rW ω) := by
          rcases hcase with ⟨-, a2, a3, a4⟩ | ⟨a1, -⟩
          · exact ⟨a2, a3, a4⟩
          · omega
        obtain ⟨a2, a3, ns, f, a4, a5, a6⟩ := hc2
        have a1 := hf0
        have hk0 : 0 ≤ rK ω (rT ω) := by
          have hb := a2.2.2 a1
          rw [qzG_K hG]
          exact hK0 _ hb.1 hb.2.1
        have hc := rk_one (lw := lw) hE128 a2 a1 a4 hk0 hJ.1
        obtain ⟨rfl, ho⟩ := tell_one hE128 a2 a1 a4 hk0
        have hd := rz_one hE128 a2 a1 hJ.1 hJ.2.2.1 hs1 (hJ.2.2.2.1 a1) hk0 (fun q => by have := (ho.2.2.2 q).2.1; omega)
        replace h : eT xq_180 _ 131 [some (.inr (.inl (some 75))), some (.inl i)] [] μ128 r μ' := h
        obtain ⟨n2, hn2, h⟩ := tx_gotoS (t := 112) h em180_131 (by decide)
        have hkn : ¬ rK ω (rT ω) = 0 := fun q => i1211 ⟨a1, q.trans (by decide)⟩
        have hN := reI_s hG a1 a2 a3 a4 a5 a6 hkn ho
        exact ih n2 hn2 _ _ h hN (rzJ_s hlw hG a1 a2 hkn ho hN hJ hc hd)
set_option maxRecDepth 10000 in
set_option maxHeartbeats 4000000 in
theorem rz_219 {ω0 μ' : xM} {r : Option zV} : ∀ (n : Nat) (i : Int32) (ω : xM), eT xq_180 n 219 [some (.inr (.inl (some 75))), some (.inl i)] [] ω r μ' → hOK ω → (∀ k j, 84 ≤ k → k ≤ 102 → ω.1 k j = ω0.1 k j) → ω.1 75 2 = ω0.1 75 32 → ∃ x : Int32, r = some (.inl x) ∧ hOK μ' ∧ (∀ k j, 84 ≤ k → k ≤ 102 → μ'.1 k j = ω0.1 k j) ∧ (¬ x.toInt = 0 → μ'.1 75 2 = ω0.1 75 2) ∧ (x.toInt = 0 → μ'.1 75 2 = ω0.1 75 32) := by
  intro n
  induction n using Nat.strongRecOn with
  | ind n ih =>
  intro i ω h hO hF hL
  replace h := tx_iload_n (p' := 220) h em180_219 rfl rfl
  replace h := tx_iconst (v := 3) (p' := 221) h em180_220 (by decide +kernel) rfl
  rcases tx_icmp (t := 237) (p' := 224) h em180_221 (by decide) rfl with ⟨c221, h⟩ | ⟨c221, h⟩
  · replace c221 : 3 ≤ i.toInt := c221
    replace h := tx_iconst (v := 0) (p' := 238) h em180_237 (by decide +kernel) rfl
    obtain ⟨rfl, hμ⟩ := tx_ireturn h em180_238
    rw [hμ]
    exact ⟨_, rfl, hO, hF, fun q => absurd (by decide) q, fun _ => hL⟩
  · replace c221 : ¬ 3 ≤ i.toInt := c221
    replace h := tx_aload_n (p' := 225) h em180_224 rfl rfl
    replace h := tx_getc (c := 12) (j := 68) (p' := 228) h em180_225 ((congrFun xo_12 143).trans rfl) rfl rfl rfl
    replace h := tx_iload_n (p' := 229) h em180_228 rfl rfl
    replace h := tx_iconst (v := 0) (p' := 230) h em180_229 (by decide +kernel) rfl
    obtain ⟨hb230, h⟩ := tx_bast (len := 3) (p' := 231) h em180_230 rfl rfl
    replace hb230 : (0 : Int) ≤ i.toInt ∧ i.toInt < 3 := hb230
    replace h := tx_iinc (v := 1) (p' := 234) h em180_231 (by decide +kernel) rfl rfl
    replace h : eT xq_180 _ 234 [some (.inr (.inl (some 75))), some (.inl (i + 1))] [] (xpi ω 117 i.toInt.toNat ((0 : Int32)).toInt8.toInt32) r μ' := h
    obtain ⟨n2, hn2, h⟩ := tx_gotoS (t := 219) h em180_234 (by decide)
    exact ih n2 hn2 _ _ h hO (fun k j a b => (xpi_ne (fun q => by omega)).trans (hF k j a b)) ((xpi_ne (fun q => absurd q.1 (by decide))).trans hL)
set_option maxRecDepth 10000 in
set_option maxHeartbeats 4000000 in
theorem rz_134 {ω0 μ' : xM} {r : Option zV} (hO : hOK ω0) {n : Nat} {i : Int32} (h : eT xq_180 n 134 [some (.inr (.inl (some 75))), some (.inl i)] [] ω0 r μ') : ∃ x : Int32, r = some (.inl x) ∧ hOK μ' ∧ (∀ k j, 84 ≤ k → k ≤ 102 → μ'.1 k j = ω0.1 k j) ∧ (¬ x.toInt = 0 → μ'.1 75 2 = ω0.1 75 2) ∧ (x.toInt = 0 → μ'.1 75 2 = ω0.1 75 32) := by
  replace h := tx_aload_n (p' := 135) h em180_134 rfl rfl
  replace h := tx_aload_n (p' := 136) h em180_135 rfl rfl
  replace h := tx_getf (c := 12) (j := 27) (p' := 139) h em180_136 ((congrFun xo_12 200).trans rfl) rfl rfl (by decide) rfl
  rcases tx_if (t := 149) (p' := 142) h em180_139 (by decide) rfl with ⟨c139, h⟩ | ⟨c139, h⟩
  · replace c139 : (ω0.1 75 27).toInt ≤ 0 := c139
    replace h := tx_aload_n (p' := 150) h em180_149 rfl rfl
    replace h := tx_getf (c := 12) (j := 29) (p' := 153) h em180_150 ((congrFun xo_12 209).trans rfl) rfl rfl (by decide) rfl
    rcases tx_if (t := 163) (p' := 156) h em180_153 (by decide) rfl with ⟨c153, h⟩ | ⟨c153, h⟩
    · replace c153 : (ω0.1 75 29).toInt ≤ 0 := c153
      replace h := tx_iconst (v := (-1)) (p' := 164) h em180_163 (by decide +kernel) rfl
      replace h := tx_putf (a := 75) (c := 12) (j := 31) (p' := 167) h em180_164 ((congrFun xo_12 37).trans rfl) rfl
      replace h := tx_aload_n (p' := 168) h em180_167 rfl rfl
      replace h := tx_getf (c := 12) (j := 27) (p' := 171) h em180_168 ((congrFun xo_12 200).trans rfl) rfl rfl (by decide) rfl
      replace h : eT xq_180 _ 171 [some (.inr (.inl (some 75))), some (.inl i)] [.inl (ω0.1 75 27)] (xpi ω0 75 31 (-1 : Int32)) r μ' := h
      rcases tx_if (t := 179) (p' := 174) h em180_171 (by decide) rfl with ⟨c171, h⟩ | ⟨c171, h⟩
      · replace c171 : (ω0.1 75 27).toInt ≤ 0 := c171
        replace h := tx_aload_n (p' := 180) h em180_179 rfl rfl
        replace h := tx_getf (c := 12) (j := 29) (p' := 183) h em180_180 ((congrFun xo_12 209).trans rfl) rfl rfl (by decide) rfl
        replace h : eT xq_180 _ 183 [some (.inr (.inl (some 75))), some (.inl i)] [.inl (ω0.1 75 29)] (xpi ω0 75 31 (-1 : Int32)) r μ' := h
        rcases tx_if (t := 191) (p' := 186) h em180_183 (by decide) rfl with ⟨c183, h⟩ | ⟨c183, h⟩
        · replace c183 : (ω0.1 75 29).toInt ≤ 0 := c183
          replace h := tx_aload_n (p' := 192) h em180_191 rfl rfl
          replace h := tx_aload_n (p' := 193) h em180_192 rfl rfl
          replace h := tx_getf (c := 12) (j := 32) (p' := 196) h em180_193 ((congrFun xo_12 233).trans rfl) rfl rfl (by decide) rfl
          replace h : eT xq_180 _ 196 [some (.inr (.inl (some 75))), some (.inl i)] [.inl (ω0.1 75 32), .inr (.inl (some 75))] (xpi ω0 75 31 (-1 : Int32)) r μ' := h
          replace h := tx_putf (a := 75) (c := 12) (j := 2) (p' := 199) h em180_196 ((congrFun xo_12 230).trans rfl) rfl
          replace h := tx_aload_n (p' := 200) h em180_199 rfl rfl
          obtain ⟨r200, μ200, hE200, h⟩ := tx_invV (na := 1) (mn := 121) (as := [.inr (.inl (some 75))]) (rest := []) (p' := 203) h em180_200 ((congrFun xo_12 157).trans rfl) xm_121 rfl rfl
          have hm200 := mE2_w (μ := (xpi (xpi ω0 75 31 (-1 : Int32)) 75 2 (ω0.1 75 32))) (by decide +kernel) (hf_121_0 hE200 (hEn0 (by decide)) hO).2 hO
          have hl200 : μ200.1 75 2 = ((xpi (xpi ω0 75 31 (-1 : Int32)) 75 2 (ω0.1 75 32))).1 75 2 := hSt (hf_121_0 hE200 (hEn0 (by decide)) hO).2 hO (by decide) (by decide +kernel)
          have er200 := ex_void [0, 1, 2, 3, 6, 9, 10, 13, 14, 15, 16, 19, 22, 23, 24, 25, 27, 28, 31, 32, 35, 36, 37, 40, 41, 44, 45, 46, 49, 51, 52, 55, 56, 57, 58, 59, 60, 63, 66, 67, 68, 71, 72, 75, 76, 79, 80, 81, 84, 85, 86, 89, 90] (by decide +kernel) hE200
          subst er200
          replace h : eT xq_180 _ 203 [some (.inr (.inl (some 75))), some (.inl i)] [] μ200 r μ' := h
          replace h := tx_aload_n (p' := 204) h em180_203 rfl rfl
          obtain ⟨r204, μ204, hE204, h⟩ := tx_invV (na := 1) (mn := 157) (as := [.inr (.inl (some 75))]) (rest := []) (p' := 207) h em180_204 ((congrFun xo_12 160).trans rfl) xm_157 rfl rfl
          have hm204 := mE2_w (μ := μ200) (by decide +kernel) (hf_157_0 hE204 (hEn0 (by decide)) hm200.1).2 hm200.1
          have hl204 : μ204.1 75 2 = (μ200).1 75 2 := hSt (hf_157_0 hE204 (hEn0 (by decide)) hm200.1).2 hm200.1 (by decide) (by decide +kernel)
          have er204 := ex_void [0, 1, 2, 3, 6, 9, 10, 13, 14, 15, 18, 19, 20, 21, 24, 27, 28] (by decide +kernel) hE204
          subst er204
          replace h : eT xq_180 _ 207 [some (.inr (.inl (some 75))), some (.inl i)] [] μ204 r μ' := h
          replace h := tx_aload_n (p' := 208) h em180_207 rfl rfl
          replace h := tx_iconst (v := 0) (p' := 209) h em180_208 (by decide +kernel) rfl
          replace h := tx_putf (a := 75) (c := 12) (j := 10) (p' := 212) h em180_209 ((congrFun xo_12 248).trans rfl) rfl
          replace h := tx_aload_n (p' := 213) h em180_212 rfl rfl
          replace h := tx_iconst (v := 0) (p' := 214) h em180_213 (by decide +kernel) rfl
          replace h := tx_putf (a := 75) (c := 12) (j := 64) (p' := 217) h em180_214 ((congrFun xo_12 251).trans rfl) rfl
          replace h := tx_iconst (v := 0) (p' := 218) h em180_217 (by decide +kernel) rfl
          replace h := tx_istore_n (p' := 219) h em180_218 rfl
          replace h : eT xq_180 _ 219 [some (.inr (.inl (some 75))), some (.inl (0 : Int32))] [] (xpi (xpi μ204 75 10 (0 : Int32)) 75 64 (0 : Int32)) r μ' := h
          refine rz_219 _ _ _ h hm204.1 (fun k j c d => ?_) ?_
          · rw [xpi_ne (fun q => by omega), xpi_ne (fun q => by omega), hm204.2 k j c d, hm200.2 k j c d, xpi_ne (fun q => by omega), xpi_ne (fun q => by omega)]
          · rw [xpi_ne (fun q => absurd q.2 (by decide)), xpi_ne (fun q => absurd q.2 (by decide)), hl204, hl200, xpi_at]
            try exact xpi_ne (fun q => absurd q.2 (by decide))
        · replace c183 : ¬ (ω0.1 75 29).toInt ≤ 0 := c183
          replace h := tx_aload_n (p' := 187) h em180_186 rfl rfl
          replace h := tx_getf (c := 12) (j := 29) (p' := 190) h em180_187 ((congrFun xo_12 209).trans rfl) rfl rfl (by decide) rfl
          replace h : eT xq_180 _ 190 [some (.inr (.inl (some 75))), some (.inl i)] [.inl (ω0.1 75 29)] (xpi ω0 75 31 (-1 : Int32)) r μ' := h
          obtain ⟨rfl, hμ⟩ := tx_ireturn h em180_190
          rw [hμ]
          refine ⟨_, rfl, hO, fun k j a b => xpi_ne (fun q => by omega), fun _ => xpi_ne (fun q => absurd q.2 (by decide)), fun q => absurd q (by omega)⟩
      · replace c171 : ¬ (ω0.1 75 27).toInt ≤ 0 := c171
        replace h := tx_aload_n (p' := 175) h em180_174 rfl rfl
        replace h := tx_getf (c := 12) (j := 27) (p' := 178) h em180_175 ((congrFun xo_12 200).trans rfl) rfl rfl (by decide) rfl
        replace h : eT xq_180 _ 178 [some (.inr (.inl (some 75))), some (.inl i)] [.inl (ω0.1 75 27)] (xpi ω0 75 31 (-1 : Int32)) r μ' := h
        obtain ⟨rfl, hμ⟩ := tx_ireturn h em180_178
        rw [hμ]
        refine ⟨_, rfl, hO, fun k j a b => xpi_ne (fun q => by omega), fun _ => xpi_ne (fun q => absurd q.2 (by decide)), fun q => absurd q (by omega)⟩
    · replace c153 : ¬ (ω0.1 75 29).toInt ≤ 0 := c153
      replace h := tx_aload_n (p' := 157) h em180_156 rfl rfl
      replace h := tx_getf (c := 12) (j := 30) (p' := 160) h em180_157 ((congrFun xo_12 212).trans rfl) rfl rfl (by decide) rfl
      replace h := tx_goto (t := 164) h em180_160 (by decide)
      replace h := tx_putf (a := 75) (c := 12) (j := 31) (p' := 167) h em180_164 ((congrFun xo_12 37).trans rfl) rfl
      replace h := tx_aload_n (p' := 168) h em180_167 rfl rfl
      replace h := tx_getf (c := 12) (j := 27) (p' := 171) h em180_168 ((congrFun xo_12 200).trans rfl) rfl rfl (by decide) rfl
      replace h : eT xq_180 _ 171 [some (.inr (.inl (some 75))), some (.inl i)] [.inl (ω0.1 75 27)] (xpi ω0 75 31 (ω0.1 75 30)) r μ' := h
      rcases tx_if (t := 179) (p' := 174) h em180_171 (by decide) rfl with ⟨c171_1, h⟩ | ⟨c171_1, h⟩
      · replace c171_1 : (ω0.1 75 27).toInt ≤ 0 := c171_1
        replace h := tx_aload_n (p' := 180) h em180_179 rfl rfl
        replace h := tx_getf (c := 12) (j := 29) (p' := 183) h em180_180 ((congrFun xo_12 209).trans rfl) rfl rfl (by decide) rfl
        replace h : eT xq_180 _ 183 [some (.inr (.inl (some 75))), some (.inl i)] [.inl (ω0.1 75 29)] (xpi ω0 75 31 (ω0.1 75 30)) r μ' := h
        rcases tx_if (t := 191) (p' := 186) h em180_183 (by decide) rfl with ⟨c183_1, h⟩ | ⟨c183_1, h⟩
        · replace c183_1 : (ω0.1 75 29).toInt ≤ 0 := c183_1
          replace h := tx_aload_n (p' := 192) h em180_191 rfl rfl
          replace h := tx_aload_n (p' := 193) h em180_192 rfl rfl
          replace h := tx_getf (c := 12) (j := 32) (p' := 196) h em180_193 ((congrFun xo_12 233).trans rfl) rfl rfl (by decide) rfl
          replace h : eT xq_180 _ 196 [some (.inr (.inl (some 75))), some (.inl i)] [.inl (ω0.1 75 32), .inr (.inl (some 75))] (xpi ω0 75 31 (ω0.1 75 30)) r μ' := h
          replace h := tx_putf (a := 75) (c := 12) (j := 2) (p' := 199) h em180_196 ((congrFun xo_12 230).trans rfl) rfl
          replace h := tx_aload_n (p' := 200) h em180_199 rfl rfl
          obtain ⟨r200_1, μ200_1, hE200_1, h⟩ := tx_invV (na := 1) (mn := 121) (as := [.inr (.inl (some 75))]) (rest := []) (p' := 203) h em180_200 ((congrFun xo_12 157).trans rfl) xm_121 rfl rfl
          have hm200_1 := mE2_w (μ := (xpi (xpi ω0 75 31 (ω0.1 75 30)) 75 2 (ω0.1 75 32))) (by decide +kernel) (hf_121_0 hE200_1 (hEn0 (by decide)) hO).2 hO
          have hl200_1 : μ200_1.1 75 2 = ((xpi (xpi ω0 75 31 (ω0.1 75 30)) 75 2 (ω0.1 75 32))).1 75 2 := hSt (hf_121_0 hE200_1 (hEn0 (by decide)) hO).2 hO (by decide) (by decide +kernel)
          have er200_1 := ex_void [0, 1, 2, 3, 6, 9, 10, 13, 14, 15, 16, 19, 22, 23, 24, 25, 27, 28, 31, 32, 35, 36, 37, 40, 41, 44, 45, 46, 49, 51, 52, 55, 56, 57, 58, 59, 60, 63, 66, 67, 68, 71, 72, 75, 76, 79, 80, 81, 84, 85, 86, 89, 90] (by decide +kernel) hE200_1
          subst er200_1
          replace h : eT xq_180 _ 203 [some (.inr (.inl (some 75))), some (.inl i)] [] μ200_1 r μ' := h
          replace h := tx_aload_n (p' := 204) h em180_203 rfl rfl
          obtain ⟨r204_1, μ204_1, hE204_1, h⟩ := tx_invV (na := 1) (mn := 157) (as := [.inr (.inl (some 75))]) (rest := []) (p' := 207) h em180_204 ((congrFun xo_12 160).trans rfl) xm_157 rfl rfl
          have hm204_1 := mE2_w (μ := μ200_1) (by decide +kernel) (hf_157_0 hE204_1 (hEn0 (by decide)) hm200_1.1).2 hm200_1.1
          have hl204_1 : μ204_1.1 75 2 = (μ200_1).1 75 2 := hSt (hf_157_0 hE204_1 (hEn0 (by decide)) hm200_1.1).2 hm200_1.1 (by decide) (by decide +kernel)
          have er204_1 := ex_void [0, 1, 2, 3, 6, 9, 10, 13, 14, 15, 18, 19, 20, 21, 24, 27, 28] (by decide +kernel) hE204_1
          subst er204_1
          replace h : eT xq_180 _ 207 [some (.inr (.inl (some 75))), some (.inl i)] [] μ204_1 r μ' := h
          replace h := tx_aload_n (p' := 208) h em180_207 rfl rfl
          replace h := tx_iconst (v := 0) (p' := 209) h em180_208 (by decide +kernel) rfl
          replace h := tx_putf (a := 75) (c := 12) (j := 10) (p' := 212) h em180_209 ((congrFun xo_12 248).trans rfl) rfl
          replace h := tx_aload_n (p' := 213) h em180_212 rfl rfl
          replace h := tx_iconst (v := 0) (p' := 214) h em180_213 (by decide +kernel) rfl
          replace h := tx_putf (a := 75) (c := 12) (j := 64) (p' := 217) h em180_214 ((congrFun xo_12 251).trans rfl) rfl
          replace h := tx_iconst (v := 0) (p' := 218) h em180_217 (by decide +kernel) rfl
          replace h := tx_istore_n (p' := 219) h em180_218 rfl
          replace h : eT xq_180 _ 219 [some (.inr (.inl (some 75))), some (.inl (0 : Int32))] [] (xpi (xpi μ204_1 75 10 (0 : Int32)) 75 64 (0 : Int32)) r μ' := h
          refine rz_219 _ _ _ h hm204_1.1 (fun k j c d => ?_) ?_
          · rw [xpi_ne (fun q => by omega), xpi_ne (fun q => by omega), hm204_1.2 k j c d, hm200_1.2 k j c d, xpi_ne (fun q => by omega), xpi_ne (fun q => by omega)]
          · rw [xpi_ne (fun q => absurd q.2 (by decide)), xpi_ne (fun q => absurd q.2 (by decide)), hl204_1, hl200_1, xpi_at]
            try exact xpi_ne (fun q => absurd q.2 (by decide))
        · replace c183_1 : ¬ (ω0.1 75 29).toInt ≤ 0 := c183_1
          replace h := tx_aload_n (p' := 187) h em180_186 rfl rfl
          replace h := tx_getf (c := 12) (j := 29) (p' := 190) h em180_187 ((congrFun xo_12 209).trans rfl) rfl rfl (by decide) rfl
          replace h : eT xq_180 _ 190 [some (.inr (.inl (some 75))), some (.inl i)] [.inl (ω0.1 75 29)] (xpi ω0 75 31 (ω0.1 75 30)) r μ' := h
          obtain ⟨rfl, hμ⟩ := tx_ireturn h em180_190
          rw [hμ]
          refine ⟨_, rfl, hO, fun k j a b => xpi_ne (fun q => by omega), fun _ => xpi_ne (fun q => absurd q.2 (by decide)), fun q => absurd q (by omega)⟩
      · replace c171_1 : ¬ (ω0.1 75 27).toInt ≤ 0 := c171_1
        replace h := tx_aload_n (p' := 175) h em180_174 rfl rfl
        replace h := tx_getf (c := 12) (j := 27) (p' := 178) h em180_175 ((congrFun xo_12 200).trans rfl) rfl rfl (by decide) rfl
        replace h : eT xq_180 _ 178 [some (.inr (.inl (some 75))), some (.inl i)] [.inl (ω0.1 75 27)] (xpi ω0 75 31 (ω0.1 75 30)) r μ' := h
        obtain ⟨rfl, hμ⟩ := tx_ireturn h em180_178
        rw [hμ]
        refine ⟨_, rfl, hO, fun k j a b => xpi_ne (fun q => by omega), fun _ => xpi_ne (fun q => absurd q.2 (by decide)), fun q => absurd q (by omega)⟩
  · replace c139 : ¬ (ω0.1 75 27).toInt ≤ 0 := c139
    replace h := tx_aload_n (p' := 143) h em180_142 rfl rfl
    replace h := tx_getf (c := 12) (j := 28) (p' := 146) h em180_143 ((congrFun xo_12 206).trans rfl) rfl rfl (by decide) rfl
    replace h := tx_goto (t := 164) h em180_146 (by decide)
    replace h := tx_putf (a := 75) (c := 12) (j := 31) (p' := 167) h em180_164 ((congrFun xo_12 37).trans rfl) rfl
    replace h := tx_aload_n (p' := 168) h em180_167 rfl rfl
    replace h := tx_getf (c := 12) (j := 27) (p' := 171) h em180_168 ((congrFun xo_12 200).trans rfl) rfl rfl (by decide) rfl
    replace h : eT xq_180 _ 171 [some (.inr (.inl (some 75))), some (.inl i)] [.inl (ω0.1 75 27)] (xpi ω0 75 31 (ω0.1 75 28)) r μ' := h
    rcases tx_if (t := 179) (p' := 174) h em180_171 (by decide) rfl with ⟨c171_2, h⟩ | ⟨c171_2, h⟩
    · replace c171_2 : (ω0.1 75 27).toInt ≤ 0 := c171_2
      replace h := tx_aload_n (p' := 180) h em180_179 rfl rfl
      replace h := tx_getf (c := 12) (j := 29) (p' := 183) h em180_180 ((congrFun xo_12 209).trans rfl) rfl rfl (by decide) rfl
      replace h : eT xq_180 _ 183 [some (.inr (.inl (some 75))), some (.inl i)] [.inl (ω0.1 75 29)] (xpi ω0 75 31 (ω0.1 75 28)) r μ' := h
      rcases tx_if (t := 191) (p' := 186) h em180_183 (by decide) rfl with ⟨c183_2, h⟩ | ⟨c183_2, h⟩
      · replace c183_2 : (ω0.1 75 29).toInt ≤ 0 := c183_2
        replace h := tx_aload_n (p' := 192) h em180_191 rfl rfl
        replace h := tx_aload_n (p' := 193) h em180_192 rfl rfl
        replace h := tx_getf (c := 12) (j := 32) (p' := 196) h em180_193 ((congrFun xo_12 233).trans rfl) rfl rfl (by decide) rfl
        replace h : eT xq_180 _ 196 [some (.inr (.inl (some 75))), some (.inl i)] [.inl (ω0.1 75 32), .inr (.inl (some 75))] (xpi ω0 75 31 (ω0.1 75 28)) r μ' := h
        replace h := tx_putf (a := 75) (c := 12) (j := 2) (p' := 199) h em180_196 ((congrFun xo_12 230).trans rfl) rfl
        replace h := tx_aload_n (p' := 200) h em180_199 rfl rfl
        obtain ⟨r200_2, μ200_2, hE200_2, h⟩ := tx_invV (na := 1) (mn := 121) (as := [.inr (.inl (some 75))]) (rest := []) (p' := 203) h em180_200 ((congrFun xo_12 157).trans rfl) xm_121 rfl rfl
        have hm200_2 := mE2_w (μ := (xpi (xpi ω0 75 31 (ω0.1 75 28)) 75 2 (ω0.1 75 32))) (by decide +kernel) (hf_121_0 hE200_2 (hEn0 (by decide)) hO).2 hO
        have hl200_2 : μ200_2.1 75 2 = ((xpi (xpi ω0 75 31 (ω0.1 75 28)) 75 2 (ω0.1 75 32))).1 75 2 := hSt (hf_121_0 hE200_2 (hEn0 (by decide)) hO).2 hO (by decide) (by decide +kernel)
        have er200_2 := ex_void [0, 1, 2, 3, 6, 9, 10, 13, 14, 15, 16, 19, 22, 23, 24, 25, 27, 28, 31, 32, 35, 36, 37, 40, 41, 44, 45, 46, 49, 51, 52, 55, 56, 57, 58, 59, 60, 63, 66, 67, 68, 71, 72, 75, 76, 79, 80, 81, 84, 85, 86, 89, 90] (by decide +kernel) hE200_2
        subst er200_2
        replace h : eT xq_180 _ 203 [some (.inr (.inl (some 75))), some (.inl i)] [] μ200_2 r μ' := h
        replace h := tx_aload_n (p' := 204) h em180_203 rfl rfl
        obtain ⟨r204_2, μ204_2, hE204_2, h⟩ := tx_invV (na := 1) (mn := 157) (as := [.inr (.inl (some 75))]) (rest := []) (p' := 207) h em180_204 ((congrFun xo_12 160).trans rfl) xm_157 rfl rfl
        have hm204_2 := mE2_w (μ := μ200_2) (by decide +kernel) (hf_157_0 hE204_2 (hEn0 (by decide)) hm200_2.1).2 hm200_2.1
        have hl204_2 : μ204_2.1 75 2 = (μ200_2).1 75 2 := hSt (hf_157_0 hE204_2 (hEn0 (by decide)) hm200_2.1).2 hm200_2.1 (by decide) (by decide +kernel)
        have er204_2 := ex_void [0, 1, 2, 3, 6, 9, 10, 13, 14, 15, 18, 19, 20, 21, 24, 27, 28] (by decide +kernel) hE204_2
        subst er204_2
        replace h : eT xq_180 _ 207 [some (.inr (.inl (some 75))), some (.inl i)] [] μ204_2 r μ' := h
        replace h := tx_aload_n (p' := 208) h em180_207 rfl rfl
        replace h := tx_iconst (v := 0) (p' := 209) h em180_208 (by decide +kernel) rfl
        replace h := tx_putf (a := 75) (c := 12) (j := 10) (p' := 212) h em180_209 ((congrFun xo_12 248).trans rfl) rfl
        replace h := tx_aload_n (p' := 213) h em180_212 rfl rfl
        replace h := tx_iconst (v := 0) (p' := 214) h em180_213 (by decide +kernel) rfl
        replace h := tx_putf (a := 75) (c := 12) (j := 64) (p' := 217) h em180_214 ((congrFun xo_12 251).trans rfl) rfl
        replace h := tx_iconst (v := 0) (p' := 218) h em180_217 (by decide +kernel) rfl
        replace h := tx_istore_n (p' := 219) h em180_218 rfl
        replace h : eT xq_180 _ 219 [some (.inr (.inl (some 75))), some (.inl (0 : Int32))] [] (xpi (xpi μ204_2 75 10 (0 : Int32)) 75 64 (0 : Int32)) r μ' := h
        refine rz_219 _ _ _ h hm204_2.1 (fun k j c d => ?_) ?_
        · rw [xpi_ne (fun q => by omega), xpi_ne (fun q => by omega), hm204_2.2 k j c d, hm200_2.2 k j c d, xpi_ne (fun q => by omega), xpi_ne (fun q => by omega)]
        · rw [xpi_ne (fun q => absurd q.2 (by decide)), xpi_ne (fun q => absurd q.2 (by decide)), hl204_2, hl200_2, xpi_at]
          try exact xpi_ne (fun q => absurd q.2 (by decide))
      · replace c183_2 : ¬ (ω0.1 75 29).toInt ≤ 0 := c183_2
        replace h := tx_aload_n (p' := 187) h em180_186 rfl rfl
        replace h := tx_getf (c := 12) (j := 29) (p' := 190) h em180_187 ((congrFun xo_12 209).trans rfl) rfl rfl (by decide) rfl
        replace h : eT xq_180 _ 190 [some (.inr (.inl (some 75))), some (.inl i)] [.inl (ω0.1 75 29)] (xpi ω0 75 31 (ω0.1 75 28)) r μ' := h
        obtain ⟨rfl, hμ⟩ := tx_ireturn h em180_190
        rw [hμ]
        refine ⟨_, rfl, hO, fun k j a b => xpi_ne (fun q => by omega), fun _ => xpi_ne (fun q => absurd q.2 (by decide)), fun q => absurd q (by omega)⟩
    · replace c171_2 : ¬ (ω0.1 75 27).toInt ≤ 0 := c171_2
      replace h := tx_aload_n (p' := 175) h em180_174 rfl rfl
      replace h := tx_getf (c := 12) (j := 27) (p' := 178) h em180_175 ((congrFun xo_12 200).trans rfl) rfl rfl (by decide) rfl
      replace h : eT xq_180 _ 178 [some (.inr (.inl (some 75))), some (.inl i)] [.inl (ω0.1 75 27)] (xpi ω0 75 31 (ω0.1 75 28)) r μ' := h
      obtain ⟨rfl, hμ⟩ := tx_ireturn h em180_178
      rw [hμ]
      refine ⟨_, rfl, hO, fun k j a b => xpi_ne (fun q => by omega), fun _ => xpi_ne (fun q => absurd q.2 (by decide)), fun q => absurd q (by omega)⟩
/-- what the reference's read leaves of what is told: s: the side that is read, ν: its tokens -/
def rzR (s : Int32) (μ μ' : xM) (x : Int32) (ν : xM) : Prop := hOK μ' ∧ (0 ≤ s.toInt ∧ s.toInt < 2) ∧ (oE s.toInt.toNat μ μ' ∧ oL s.toInt.toNat μ μ') ∧ (¬ x.toInt = 0 → μ'.1 75 2 = μ.1 75 2) ∧ (x.toInt = 0 → μ'.1 75 2 = s ∧ (sM s.toInt.toNat (kText (rK ν) (rLt ν) (rVl ν) (kLF (rK ν) (rVl ν) 4) 401 0 0 0 kS0) μ' ∧ rLC s.toInt.toNat (420 * (s.toInt.toNat : Int) + 420) (130 * (s.toInt.toNat : Int) + 130) (kText (rK ν) (rLt ν) (rVl ν) (kLF (rK ν) (rVl ν) 4) 401 0 0 0 kS0).2.2.2 μ') ∧ kWf (kText (rK ν) (rLt ν) (rVl ν) (kLF (rK ν) (rVl ν) 4) 401 0 0 0 kS0))
theorem rzR_l {s : Int32} {μ0 μ μ' : xM} {x : Int32} {ν : xM} (h : ∀ k j, 84 ≤ k → k ≤ 102 → μ.1 k j = μ0.1 k j) (h2 : μ.1 75 2 = μ0.1 75 2) (hr : rzR s μ μ' x ν) : rzR s μ0 μ' x ν := by
  obtain ⟨a1, a2, ⟨a3, a6⟩, a4, a5⟩ := hr
  exact ⟨a1, a2, ⟨oE_tr (oE_e (fun k j a b => h k j a (by omega))) a3, oL_tr (oL_e (fun k j a b => h k j (by omega) b)) a6⟩, fun q => (a4 q).trans h2, a5⟩
set_option maxRecDepth 10000 in
set_option maxHeartbeats 4000000 in
theorem rz_36 {μ0 μ μ' : xM} {r : Option zV} (hO : hOK μ) (hn : 0 ≤ rN μ ∧ rN μ ≤ 2000) (hbB : ∀ i, 0 ≤ i → i < rN μ → kB μ 77 i = kB μ0 76 i) (hr : ∀ i, 0 ≤ i → i < rN μ → -128 ≤ kB μ0 76 i ∧ kB μ0 76 i ≤ 127) (hkey : ∀ j : Nat, j < 21 → (μ.2.1 82 j).toInt = wKey j) {n : Nat} {i : Int32} (h : eT xq_180 n 36 [some (.inr (.inl (some 75))), some (.inl i)] [] μ r μ') : ∃ (x : Int32) (ν : xM) (m : Int) (S : Int → Int) (w : Int × Int), r = some (.inl x) ∧ rzR ((1 : Int32) - (μ.1 75 2)) μ μ' x ν ∧ tkC (kB μ 77) (rN μ) (rP ν) S (rK ν) m ∧ (m < 400 → rK ν m = 0) ∧ rkV (kB μ 77) S ν (m + 1) ∧ w.1 = 0 ∧ x.toInt = (rTx ν 401 0 0 0 [] w).1 ∧ (¬ (rTx ν 401 0 0 0 [] w).1 = 0 → (μ'.1 75 31).toInt = (rTx ν 401 0 0 0 [] w).2) ∧ reF μ μ' := by
  replace h := tx_aload_n (p' := 37) h em180_36 rfl rfl
  replace h := tx_iconst (v := 0) (p' := 38) h em180_37 (by decide +kernel) rfl
  replace h := tx_putf (a := 75) (c := 12) (j := 12) (p' := 41) h em180_38 ((congrFun xo_12 163).trans rfl) rfl
  replace h := tx_aload_n (p' := 42) h em180_41 rfl rfl
  obtain ⟨r42, μ42, hE42, h⟩ := tx_invV (na := 1) (mn := 214) (as := [.inr (.inl (some 75))]) (rest := []) (p' := 45) h em180_42 ((congrFun xo_12 224).trans rfl) xm_214 rfl rfl
  have hmc := mE2_w (μ := (xpi μ 75 12 (0 : Int32))) (by decide +kernel) (hf_214_0 hE42 (hEn0 (by decide)) hO).2 hO
  have hlc : μ42.1 75 2 = μ.1 75 2 := hSt (hf_214_0 hE42 (hEn0 (by decide)) hO).2 hO (by decide) (by decide +kernel)
  have eB9 : ∀ i, 0 ≤ i → i < rN μ → kB (xpi μ 75 12 (0 : Int32)) 77 i = kB μ0 76 i := fun i i0 i1 => hbB i i0 i1
  have eN9 : rN (xpi μ 75 12 (0 : Int32)) = rN μ := rfl
  obtain ⟨rfl, hkF, m, TS, htC, htK, htV⟩ := ex_cut hE42 (by rw [eN9]; omega) (by rw [eN9]; omega) (fun i i0 i1 => by rw [eN9] at i1; rw [eB9 i i0 i1]; exact hr i i0 i1) hkey
  replace h : eT xq_180 _ 45 [some (.inr (.inl (some 75))), some (.inl i)] [] μ42 r μ' := h
  replace h := tx_aload_n (p' := 46) h em180_45 rfl rfl
  replace h := tx_iconst (v := 0) (p' := 47) h em180_46 (by decide +kernel) rfl
  replace h := tx_putf (a := 75) (c := 12) (j := 25) (p' := 50) h em180_47 ((congrFun xo_12 203).trans rfl) rfl
  replace h := tx_aload_n (p' := 51) h em180_50 rfl rfl
  replace h := tx_iconst (v := 0) (p' := 52) h em180_51 (by decide +kernel) rfl
  replace h := tx_putf (a := 75) (c := 12) (j := 26) (p' := 55) h em180_52 ((congrFun xo_12 227).trans rfl) rfl
  replace h := tx_aload_n (p' := 56) h em180_55 rfl rfl
  replace h := tx_iconst (v := 0) (p' := 57) h em180_56 (by decide +kernel) rfl
  replace h := tx_putf (a := 75) (c := 12) (j := 27) (p' := 60) h em180_57 ((congrFun xo_12 200).trans rfl) rfl
  replace h := tx_aload_n (p' := 61) h em180_60 rfl rfl
  replace h := tx_iconst (v := 0) (p' := 62) h em180_61 (by decide +kernel) rfl
  replace h := tx_putf (a := 75) (c := 12) (j := 29) (p' := 65) h em180_62 ((congrFun xo_12 209).trans rfl) rfl
  replace h := tx_aload_n (p' := 66) h em180_65 rfl rfl
  replace h := tx_iconst (v := 1) (p' := 67) h em180_66 (by decide +kernel) rfl
  replace h := tx_aload_n (p' := 68) h em180_67 rfl rfl
  replace h := tx_getf (c := 12) (j := 2) (p' := 71) h em180_68 ((congrFun xo_12 230).trans rfl) rfl rfl (by decide) rfl
  replace h : eT xq_180 _ 71 [some (.inr (.inl (some 75))), some (.inl i)] [.inl (μ42.1 75 2), .inl (1 : Int32), .inr (.inl (some 75))] (xpi (xpi (xpi (xpi μ42 75 25 (0 : Int32)) 75 26 (0 : Int32)) 75 27 (0 : Int32)) 75 29 (0 : Int32)) r μ' := h
  replace h := tx_isub (p' := 72) h em180_71 rfl
  replace h := tx_putf (a := 75) (c := 12) (j := 32) (p' := 75) h em180_72 ((congrFun xo_12 233).trans rfl) rfl
  replace h := tx_aload_n (p' := 76) h em180_75 rfl rfl
  replace h := tx_iconst (v := 0) (p' := 77) h em180_76 (by decide +kernel) rfl
  replace h := tx_putf (a := 75) (c := 12) (j := 33) (p' := 80) h em180_77 ((congrFun xo_12 236).trans rfl) rfl
  replace h := tx_aload_n (p' := 81) h em180_80 rfl rfl
  replace h := tx_aload_n (p' := 82) h em180_81 rfl rfl
  replace h := tx_getf (c := 12) (j := 32) (p' := 85) h em180_82 ((congrFun xo_12 233).trans rfl) rfl rfl (by decide) rfl
  replace h : eT xq_180 _ 85 [some (.inr (.inl (some 75))), some (.inl i)] [.inl ((1 : Int32) - (μ42.1 75 2)), .inr (.inl (some 75))] (xpi (xpi (xpi (xpi (xpi (xpi μ42 75 25 (0 : Int32)) 75 26 (0 : Int32)) 75 27 (0 : Int32)) 75 29 (0 : Int32)) 75 32 ((1 : Int32) - (μ42.1 75 2))) 75 33 (0 : Int32)) r μ' := h
  obtain ⟨r85, μ85, hE85, h⟩ := tx_invV (na := 2) (mn := 218) (as := [.inr (.inl (some 75)), .inl ((1 : Int32) - (μ42.1 75 2))]) (rest := []) (p' := 88) h em180_85 ((congrFun xo_12 149).trans rfl) xm_218 rfl rfl
  have hEp := hE85
  obtain ⟨rfl, hsd, hpF, hp84, hp86⟩ := ex_plain hE85
  replace h : eT xq_180 _ 88 [some (.inr (.inl (some 75))), some (.inl i)] [] μ85 r μ' := h
  replace h := tx_aload_n (p' := 89) h em180_88 rfl rfl
  replace h := tx_sipush (v := 130) (p' := 92) h em180_89 (by decide +kernel) rfl
  replace h := tx_aload_n (p' := 93) h em180_92 rfl rfl
  replace h := tx_getf (c := 12) (j := 32) (p' := 96) h em180_93 ((congrFun xo_12 233).trans rfl) rfl rfl (by decide) rfl
  replace h := tx_imul (p' := 97) h em180_96 rfl
  replace h := tx_putf (a := 75) (c := 12) (j := 43) (p' := 100) h em180_97 ((congrFun xo_12 239).trans rfl) rfl
  replace h := tx_aload_n (p' := 101) h em180_100 rfl rfl
  replace h := tx_sipush (v := 420) (p' := 104) h em180_101 (by decide +kernel) rfl
  replace h := tx_aload_n (p' := 105) h em180_104 rfl rfl
  replace h := tx_getf (c := 12) (j := 32) (p' := 108) h em180_105 ((congrFun xo_12 233).trans rfl) rfl rfl (by decide) rfl
  replace h : eT xq_180 _ 108 [some (.inr (.inl (some 75))), some (.inl i)] [.inl (μ85.1 75 32), .inl (420 : Int32), .inr (.inl (some 75))] (xpi μ85 75 43 ((130 : Int32) * (μ85.1 75 32))) r μ' := h
  replace h := tx_imul (p' := 109) h em180_108 rfl
  replace h := tx_putf (a := 75) (c := 12) (j := 49) (p' := 112) h em180_109 ((congrFun xo_12 242).trans rfl) rfl
  have hsi : ∀ k j, k ≠ 75 → ¬ (84 ≤ k ∧ k ≤ 95) → (xpi (xpi μ85 75 43 ((130 : Int32) * (μ85.1 75 32))) 75 49 ((420 : Int32) * (μ85.1 75 32))).1 k j = μ42.1 k j := fun k j a b => by
    rw [xpi_ne (fun q => a q.1), xpi_ne (fun q => a q.1), hpF.1 k j b]
    rw [xpi_ne (fun q => a q.1), xpi_ne (fun q => a q.1), xpi_ne (fun q => a q.1), xpi_ne (fun q => a q.1), xpi_ne (fun q => a q.1), xpi_ne (fun q => a q.1)]
  have hf75 : ∀ j, j ≠ 43 → j ≠ 49 → (xpi (xpi μ85 75 43 ((130 : Int32) * (μ85.1 75 32))) 75 49 ((420 : Int32) * (μ85.1 75 32))).1 75 j = (xpi (xpi (xpi (xpi (xpi (xpi μ42 75 25 (0 : Int32)) 75 26 (0 : Int32)) 75 27 (0 : Int32)) 75 29 (0 : Int32)) 75 32 ((1 : Int32) - (μ42.1 75 2))) 75 33 (0 : Int32)).1 75 j := fun j a b => by
    rw [xpi_ne (fun q => b q.2), xpi_ne (fun q => a q.2), hpF.1 75 j (by decide)]
  have h2 : (xpi (xpi μ85 75 43 ((130 : Int32) * (μ85.1 75 32))) 75 49 ((420 : Int32) * (μ85.1 75 32))).2 = μ42.2 := hpF.2
  have eK : rK (xpi (xpi μ85 75 43 ((130 : Int32) * (μ85.1 75 32))) 75 49 ((420 : Int32) * (μ85.1 75 32))) = rK μ42 := by funext a; unfold rK; rw [hsi 78 _ (by decide) (by decide)]
  have eP : rP (xpi (xpi μ85 75 43 ((130 : Int32) * (μ85.1 75 32))) 75 49 ((420 : Int32) * (μ85.1 75 32))) = rP μ42 := by funext a; unfold rP; rw [hsi 79 _ (by decide) (by decide)]
  have eV : rVl (xpi (xpi μ85 75 43 ((130 : Int32) * (μ85.1 75 32))) 75 49 ((420 : Int32) * (μ85.1 75 32))) = rVl μ42 := by funext a; unfold rVl; rw [hsi 80 _ (by decide) (by decide)]
  have eNm : rNm (xpi (xpi μ85 75 43 ((130 : Int32) * (μ85.1 75 32))) 75 49 ((420 : Int32) * (μ85.1 75 32))) = rNm μ42 := by funext a; unfold rNm; rw [h2]
  have hT0 := qzT_of htC htK htV
  have hTT : qzT (xpi (xpi μ85 75 43 ((130 : Int32) * (μ85.1 75 32))) 75 49 ((420 : Int32) * (μ85.1 75 32))) m := by unfold qzT; rw [eK, eP, eV, eNm]; exact hT0
  have g25 : (xpi (xpi μ85 75 43 ((130 : Int32) * (μ85.1 75 32))) 75 49 ((420 : Int32) * (μ85.1 75 32))).1 75 25 = 0 := (hf75 25 (by decide) (by decide)).trans rfl
  have g26 : (xpi (xpi μ85 75 43 ((130 : Int32) * (μ85.1 75 32))) 75 49 ((420 : Int32) * (μ85.1 75 32))).1 75 26 = 0 := (hf75 26 (by decide) (by decide)).trans rfl
  have g27 : (xpi (xpi μ85 75 43 ((130 : Int32) * (μ85.1 75 32))) 75 49 ((420 : Int32) * (μ85.1 75 32))).1 75 27 = 0 := (hf75 27 (by decide) (by decide)).trans rfl
  have g29 : (xpi (xpi μ85 75 43 ((130 : Int32) * (μ85.1 75 32))) 75 49 ((420 : Int32) * (μ85.1 75 32))).1 75 29 = 0 := (hf75 29 (by decide) (by decide)).trans rfl
  have g33 : (xpi (xpi μ85 75 43 ((130 : Int32) * (μ85.1 75 32))) 75 49 ((420 : Int32) * (μ85.1 75 32))).1 75 33 = 0 := (hf75 33 (by decide) (by decide)).trans rfl
  have g32 : (xpi (xpi μ85 75 43 ((130 : Int32) * (μ85.1 75 32))) 75 49 ((420 : Int32) * (μ85.1 75 32))).1 75 32 = ((1 : Int32) - (μ42.1 75 2)) := (hf75 32 (by decide) (by decide)).trans rfl
  have zF : rF (xpi (xpi μ85 75 43 ((130 : Int32) * (μ85.1 75 32))) 75 49 ((420 : Int32) * (μ85.1 75 32))) = 0 := by unfold rF; rw [g27]; decide
  have zT : rT (xpi (xpi μ85 75 43 ((130 : Int32) * (μ85.1 75 32))) 75 49 ((420 : Int32) * (μ85.1 75 32))) = 0 := by unfold rT; rw [g25]; decide
  have zQ : rQ (xpi (xpi μ85 75 43 ((130 : Int32) * (μ85.1 75 32))) 75 49 ((420 : Int32) * (μ85.1 75 32))) = 0 := by unfold rQ; rw [g26]; decide
  have zW : (rW (xpi (xpi μ85 75 43 ((130 : Int32) * (μ85.1 75 32))) 75 49 ((420 : Int32) * (μ85.1 75 32)))).1 = 0 := by unfold rW; dsimp only; rw [g29]; decide
  have zS : rSd (xpi (xpi μ85 75 43 ((130 : Int32) * (μ85.1 75 32))) 75 49 ((420 : Int32) * (μ85.1 75 32))) = (((1 : Int32) - (μ42.1 75 2))).toInt := by unfold rSd; rw [g32]
  have zH : rH (xpi (xpi μ85 75 43 ((130 : Int32) * (μ85.1 75 32))) 75 49 ((420 : Int32) * (μ85.1 75 32))) = 0 := by
    unfold rH
    rw [zS, xpi_ne (fun q => absurd q.1 (by decide)), xpi_ne (fun q => absurd q.1 (by decide)), hp84]
    decide
  have zU : rU (xpi (xpi μ85 75 43 ((130 : Int32) * (μ85.1 75 32))) 75 49 ((420 : Int32) * (μ85.1 75 32))) = 0 := by
    unfold rU
    rw [zS, xpi_ne (fun q => absurd q.1 (by decide)), xpi_ne (fun q => absurd q.1 (by decide)), hp86]
    decide
  have hI0 : reI m (rTx (xpi (xpi μ85 75 43 ((130 : Int32) * (μ85.1 75 32))) 75 49 ((420 : Int32) * (μ85.1 75 32))) 401 0 0 0 [] (rW (xpi (xpi μ85 75 43 ((130 : Int32) * (μ85.1 75 32))) 75 49 ((420 : Int32) * (μ85.1 75 32))))) (xpi (xpi μ85 75 43 ((130 : Int32) * (μ85.1 75 32))) 75 49 ((420 : Int32) * (μ85.1 75 32))) (xpi (xpi μ85 75 43 ((130 : Int32) * (μ85.1 75 32))) 75 49 ((420 : Int32) * (μ85.1 75 32))) := by
    refine ⟨qzG_s qzS_rf, by rw [zF]; exact Int.le_refl 0, Or.inl ⟨zF, ⟨hTT, by rw [zF]; exact Int.le_refl 0, fun _ => ⟨by rw [zT]; exact Int.le_refl 0, by rw [zT]; exact hTT.1.1, zQ, fun q => absurd zW q⟩⟩, by rw [zW]; exact Int.le_refl 0, [], 401, ⟨⟨by rw [g33]; decide, fun k hk => absurd hk (Nat.not_lt_zero k)⟩, by rw [zH]; decide, by rw [zU]; decide, by rw [zS]; omega, by rw [zH, zU]; decide⟩, by rw [zT]; decide, by rw [zT, zH, zU]⟩⟩
  have hK0 : ∀ a, 0 ≤ a → a ≤ m → 0 ≤ rK (xpi (xpi μ85 75 43 ((130 : Int32) * (μ85.1 75 32))) 75 49 ((420 : Int32) * (μ85.1 75 32))) a := fun a a0 a1 => by
    rw [eK]
    rcases tkC_at htC a0 a1 with ⟨-, -, q⟩ | ⟨-, -, -, q, -⟩
    · omega
    · exact tkKd_p q
  have hsN : (((1 : Int32) - (μ42.1 75 2))).toInt = (((((1 : Int32) - (μ42.1 75 2))).toInt.toNat : Nat) : Int) := by omega
  obtain ⟨p1, p2, p3⟩ := rk_plain hEp hsN hmc.1
  obtain ⟨q1, q2⟩ := rz_plain hEp hsN (by omega)
  have e130 : (130 : Int32).toInt = 130 := by decide
  have e420 : (420 : Int32).toInt = 420 := by decide
  have hJ0 : rzJ (kLF (rK (xpi (xpi μ85 75 43 ((130 : Int32) * (μ85.1 75 32))) 75 49 ((420 : Int32) * (μ85.1 75 32)))) (rVl (xpi (xpi μ85 75 43 ((130 : Int32) * (μ85.1 75 32))) 75 49 ((420 : Int32) * (μ85.1 75 32)))) 4) (((1 : Int32) - (μ42.1 75 2))).toInt.toNat (rTx (xpi (xpi μ85 75 43 ((130 : Int32) * (μ85.1 75 32))) 75 49 ((420 : Int32) * (μ85.1 75 32))) 401 0 0 0 [] (rW (xpi (xpi μ85 75 43 ((130 : Int32) * (μ85.1 75 32))) 75 49 ((420 : Int32) * (μ85.1 75 32))))) (kText (rK (xpi (xpi μ85 75 43 ((130 : Int32) * (μ85.1 75 32))) 75 49 ((420 : Int32) * (μ85.1 75 32)))) (rLt (xpi (xpi μ85 75 43 ((130 : Int32) * (μ85.1 75 32))) 75 49 ((420 : Int32) * (μ85.1 75 32)))) (rVl (xpi (xpi μ85 75 43 ((130 : Int32) * (μ85.1 75 32))) 75 49 ((420 : Int32) * (μ85.1 75 32)))) (kLF (rK (xpi (xpi μ85 75 43 ((130 : Int32) * (μ85.1 75 32))) 75 49 ((420 : Int32) * (μ85.1 75 32)))) (rVl (xpi (xpi μ85 75 43 ((130 : Int32) * (μ85.1 75 32))) 75 49 ((420 : Int32) * (μ85.1 75 32)))) 4) 401 0 0 0 kS0) (xpi (xpi μ85 75 43 ((130 : Int32) * (μ85.1 75 32))) 75 49 ((420 : Int32) * (μ85.1 75 32))) (xpi (xpi μ85 75 43 ((130 : Int32) * (μ85.1 75 32))) 75 49 ((420 : Int32) * (μ85.1 75 32))) := by
    refine ⟨p1, ⟨oE_rf, oL_rf⟩, by rw [zS]; exact hsN, fun _ => ?_, fun _ _ => ⟨kS0, 401, ⟨?_, ?_⟩, kWf_0, by rw [zT]; decide, by rw [zT, zH, zU]⟩⟩
    · have e32x : (μ85.1 75 32).toInt = (((1 : Int32) - (μ42.1 75 2))).toInt := by have := zS; unfold rSd at this; exact this
      have c9 : rC9 (xpi (xpi μ85 75 43 ((130 : Int32) * (μ85.1 75 32))) 75 49 ((420 : Int32) * (μ85.1 75 32))) = 420 * (((1 : Int32) - (μ42.1 75 2))).toInt := by
        show ((420 : Int32) * (μ85.1 75 32)).toInt = _
        rw [an_mul (by rw [e420, e32x]; omega) (by rw [e420, e32x]; omega), e420, e32x]
      have b9 : rB (xpi (xpi μ85 75 43 ((130 : Int32) * (μ85.1 75 32))) 75 49 ((420 : Int32) * (μ85.1 75 32))) = 130 * (((1 : Int32) - (μ42.1 75 2))).toInt := by
        show ((130 : Int32) * (μ85.1 75 32)).toInt = _
        rw [an_mul (by rw [e130, e32x]; omega) (by rw [e130, e32x]; omega), e130, e32x]
      unfold rbd
      rw [c9, b9, zT]
      omega
    · exact sM_cg (fun k j a b => (xpi_ne (fun q => by omega)).trans (xpi_ne (fun q => by omega))) p3
    · intro k hk
      show ((xpi _ _ _ _).1 94 (4 * (((1 : Int32) - (μ42.1 75 2))).toInt.toNat + k)).toInt = ((xpi _ _ _ _).1 95 (4 * (((1 : Int32) - (μ42.1 75 2))).toInt.toNat + k)).toInt
      rw [xpi_ne (fun q => absurd q.1 (by decide)), xpi_ne (fun q => absurd q.1 (by decide)), xpi_ne (fun q => absurd q.1 (by decide)), xpi_ne (fun q => absurd q.1 (by decide))]
      exact q1 k hk
  obtain ⟨ω', n', i', h', hG', hE', o1, o2, o3, o4⟩ := rz_loop rfl (by omega) hK0 _ _ _ h hI0 hJ0
  obtain ⟨y, y1, y2, y3, y4, y5⟩ := rz_134 o1 h'
  obtain ⟨x, x1, x2, x3, x4, x5⟩ := re_end hE' h'
  have exy : x = y := by rw [x1] at y1; cases y1; rfl
  have e32 : ω'.1 75 32 = ((1 : Int32) - (μ42.1 75 2)) := Int32.toInt_inj.mp (by have o3 : (ω'.1 75 32).toInt = _ := o3; rw [o3]; exact hsN.symm)
  have e2 : ω'.1 75 2 = μ.1 75 2 := by
    rw [hG'.2.1 2 (by decide) (by decide) (by decide) (by decide) (by decide) (by decide), hf75 2 (by decide) (by decide)]
    rw [xpi_ne (fun q => absurd q.2 (by decide)), xpi_ne (fun q => absurd q.2 (by decide)), xpi_ne (fun q => absurd q.2 (by decide)), xpi_ne (fun q => absurd q.2 (by decide)), xpi_ne (fun q => absurd q.2 (by decide)), xpi_ne (fun q => absurd q.2 (by decide))]
    exact hlc
  have hoE : oE (((1 : Int32) - (μ42.1 75 2))).toInt.toNat μ μ' ∧ oL (((1 : Int32) - (μ42.1 75 2))).toInt.toNat μ μ' := by
    have hl1 : oL (((1 : Int32) - (μ42.1 75 2))).toInt.toNat μ μ42 := oL_e (fun k j a b => (hmc.2 k j (by omega) b).trans (xpi_ne (fun q => by omega)))
    have hl2 : oL (((1 : Int32) - (μ42.1 75 2))).toInt.toNat μ42 μ85 := oL_tr (oL_e (μ := μ42) (ν := (xpi (xpi (xpi (xpi (xpi (xpi μ42 75 25 (0 : Int32)) 75 26 (0 : Int32)) 75 27 (0 : Int32)) 75 29 (0 : Int32)) 75 32 ((1 : Int32) - (μ42.1 75 2))) 75 33 (0 : Int32))) (fun k j a b => by rw [xpi_ne (fun q => by omega), xpi_ne (fun q => by omega), xpi_ne (fun q => by omega), xpi_ne (fun q => by omega), xpi_ne (fun q => by omega), xpi_ne (fun q => by omega)])) q2
    have hl3 : oL (((1 : Int32) - (μ42.1 75 2))).toInt.toNat μ85 (xpi (xpi μ85 75 43 ((130 : Int32) * (μ85.1 75 32))) 75 49 ((420 : Int32) * (μ85.1 75 32))) := oL_e (fun k j a b => (xpi_ne (fun q => by omega)).trans (xpi_ne (fun q => by omega)))
    have hx1 : oE (((1 : Int32) - (μ42.1 75 2))).toInt.toNat μ μ42 := oE_m ⟨hmc.1, fun k j a b => (hmc.2 k j a (by omega)).trans (xpi_ne (fun q => by omega))⟩
    have hx2 : oE (((1 : Int32) - (μ42.1 75 2))).toInt.toNat μ42 μ85 := oE_tr (oE_m (μ := μ42) (ν := (xpi (xpi (xpi (xpi (xpi (xpi μ42 75 25 (0 : Int32)) 75 26 (0 : Int32)) 75 27 (0 : Int32)) 75 29 (0 : Int32)) 75 32 ((1 : Int32) - (μ42.1 75 2))) 75 33 (0 : Int32))) ⟨hmc.1, fun k j a b => by rw [xpi_ne (fun q => by omega), xpi_ne (fun q => by omega), xpi_ne (fun q => by omega), xpi_ne (fun q => by omega), xpi_ne (fun q => by omega), xpi_ne (fun q => by omega)]⟩) p2
    have hx3 : oE (((1 : Int32) - (μ42.1 75 2))).toInt.toNat μ85 (xpi (xpi μ85 75 43 ((130 : Int32) * (μ85.1 75 32))) 75 49 ((420 : Int32) * (μ85.1 75 32))) := oE_m ⟨p1, fun k j a b => (xpi_ne (fun q => by omega)).trans (xpi_ne (fun q => by omega))⟩
    exact ⟨oE_tr hx1 (oE_tr hx2 (oE_tr hx3 (oE_tr o2.1 (oE_m2 ⟨y2, y3⟩)))), oL_tr hl1 (oL_tr hl2 (oL_tr hl3 (oL_tr o2.2 (oL_m2 ⟨y2, y3⟩))))⟩
  have hK9 : rzR (((1 : Int32) - (μ42.1 75 2))) μ μ' x (xpi (xpi μ85 75 43 ((130 : Int32) * (μ85.1 75 32))) 75 49 ((420 : Int32) * (μ85.1 75 32))) := by
    refine ⟨y2, hsd, hoE, fun q => ?_, fun q => ?_⟩
    · rw [exy] at q; rw [y4 q, e2]
    · have hT0 : (rTx (xpi (xpi μ85 75 43 ((130 : Int32) * (μ85.1 75 32))) 75 49 ((420 : Int32) * (μ85.1 75 32))) 401 0 0 0 [] (rW (xpi (xpi μ85 75 43 ((130 : Int32) * (μ85.1 75 32))) 75 49 ((420 : Int32) * (μ85.1 75 32))))).1 = 0 := by rw [← x2]; exact q
      have hF0 : rF ω' = 0 := by
        rcases hE' with ⟨a1, a2⟩ | ⟨a1, -⟩
        · rw [a2] at hT0; have hT0 : rF ω' = 0 := hT0; exact hT0
        · exact a1
      obtain ⟨s1, s2⟩ := o4 hF0 hT0
      rw [exy] at q
      exact ⟨by rw [y5 q, e32], ⟨sM_cg (fun k j a b => y3 k j a (by omega)) s1.1, rLC_e s1.2 (fun k j a b => y3 k j (by omega) b) (Int.le_refl _) (Int.le_refl _)⟩, s2⟩
  rw [hlc] at hK9
  refine ⟨x, (xpi (xpi μ85 75 43 ((130 : Int32) * (μ85.1 75 32))) 75 49 ((420 : Int32) * (μ85.1 75 32))), m, TS, rW (xpi (xpi μ85 75 43 ((130 : Int32) * (μ85.1 75 32))) 75 49 ((420 : Int32) * (μ85.1 75 32))), x1, hK9, by rw [eK, eP]; exact htC, by rw [eK]; exact htK, ?_, zW, x2, x3, ?_⟩
  · unfold rkV
    rw [eK, eP, eV, eNm]
    exact htV
  · intro h119
    have e0 : ω'.2.2.2 = μ.2.2.2 := by rw [hG'.2.2.2, h2, hkF.2.2.2]; rfl
    obtain ⟨y1, y2, y3, y4⟩ := x5 (by omega)
    have yk : ∀ k j, k ≠ 75 → k < 77 → ω'.1 k j = μ.1 k j := fun k j a b => by
      rw [hG'.1 k j a (by omega), hsi k j a (by omega), hkF.1 k j a (by omega) (by omega) (by omega)]
      exact xpi_ne (fun q => a q.1)
    refine ⟨y1, fun j => ?_, fun j => ?_, fun j => ?_, ?_, ?_⟩
    · rw [y2 1 (by decide) (by decide) j]; exact yk 1 j (by decide) (by decide)
    · rw [y2 76 (by decide) (by decide) j]; exact yk 76 j (by decide) (by decide)
    · rw [y3, hG'.2.2.1 82 j (by decide), h2, hkF.2.2.1 82 j (by decide)]; rfl
    · have q := y4 (0, 11, 6) (by decide)
      have q : μ'.1 0 6 = ω'.1 0 6 := q
      rw [q]; exact yk 0 6 (by decide) (by decide)
    · have q := y4 (75, 12, 12) (by decide)
      have q : μ'.1 75 12 = ω'.1 75 12 := q
      rw [q, hG'.2.1 12 (by decide) (by decide) (by decide) (by decide) (by decide) (by decide), hf75 12 (by decide) (by decide)]
      rw [xpi_ne (fun q => absurd q.2 (by decide)), xpi_ne (fun q => absurd q.2 (by decide)), xpi_ne (fun q => absurd q.2 (by decide)), xpi_ne (fun q => absurd q.2 (by decide)), xpi_ne (fun q => absurd q.2 (by decide)), xpi_ne (fun q => absurd q.2 (by decide)), hkF.2.1 12 (by decide)]
      exact xpi_at
set_option maxRecDepth 10000 in
set_option maxHeartbeats 4000000 in
theorem kz_rread {μ μ' : xM} {r : Option zV} (h0 : Ex gx xq_180 [.inr (.inl (some 75))] μ r μ') (hO : hOK μ) (h119 : 119 ≤ μ.2.2.2) (hn : 0 ≤ (μ.1 75 12).toInt ∧ (μ.1 75 12).toInt ≤ 2000) (hb : ∀ j : Nat, (j : Int) < (μ.1 75 12).toInt → -128 ≤ (μ.1 76 j).toInt ∧ (μ.1 76 j).toInt ≤ 127) (hkey : ∀ j : Nat, j < 21 → (μ.2.1 82 j).toInt = wKey j) : ∃ (x : Int32) (B : Int → Int) (ν : xM) (m : Int) (S : Int → Int) (w : Int × Int), r = some (.inl x) ∧ rzR ((1 : Int32) - (μ.1 75 2)) μ μ' x ν ∧ (∀ i, 0 ≤ i → i < (μ.1 75 12).toInt → B i = kB μ 76 i) ∧ tkC B (μ.1 75 12).toInt (rP ν) S (rK ν) m ∧ (m < 400 → rK ν m = 0) ∧ rkV B S ν (m + 1) ∧ w.1 = 0 ∧ x.toInt = (rTx ν 401 0 0 0 [] w).1 ∧ (¬ (rTx ν 401 0 0 0 [] w).1 = 0 → (μ'.1 75 31).toInt = (rTx ν 401 0 0 0 [] w).2) ∧ reF μ μ' := by
  obtain ⟨n, h⟩ := tx_in (L := [some (.inr (.inl (some 75))), none]) h0 rfl
  replace h := tx_aload_n (p' := 1) h em180_0 rfl rfl
  replace h := tx_aload_n (p' := 2) h em180_1 rfl rfl
  replace h := tx_getf (c := 12) (j := 12) (p' := 5) h em180_2 ((congrFun xo_12 163).trans rfl) rfl rfl (by decide) rfl
  replace h := tx_putf (a := 75) (c := 12) (j := 18) (p' := 8) h em180_5 ((congrFun xo_12 169).trans rfl) rfl
  replace h := tx_iconst (v := 0) (p' := 9) h em180_8 (by decide +kernel) rfl
  replace h := tx_istore_n (p' := 10) h em180_9 rfl
  replace h : eT xq_180 _ 10 [some (.inr (.inl (some 75))), some (.inl (0 : Int32))] [] (xpi μ 75 18 (μ.1 75 12)) r μ' := h
  obtain ⟨ω', n', i', h', c1, c2, c3⟩ := re_copy hb _ _ _ h (by decide) ⟨fun _ _ _ => rfl, rfl, fun j hj => by have hj : (j : Int) < 0 := hj; omega⟩
  have eN : rN ω' = (μ.1 75 12).toInt := by unfold rN; rw [c1 75 18 (by decide), xpi_at]
  have eB : ∀ i, 0 ≤ i → i < rN ω' → kB ω' 77 i = kB μ 76 i := fun i i0 i1 => by unfold kB; rw [c3 i.toNat (by omega)]
  have hr : ∀ i, 0 ≤ i → i < rN ω' → -128 ≤ kB μ 76 i ∧ kB μ 76 i ≤ 127 := fun i i0 i1 => hb i.toNat (by omega)
  obtain ⟨x, ν, m, S, w, x1, x2, x3, x4, x5, x6, x7, x8, x9⟩ := rz_36 (hOK_2 c2 hO) (by rw [eN]; exact hn) eB hr (fun j hj => by rw [c2]; exact hkey j hj) h'
  have e2c : ω'.1 75 2 = μ.1 75 2 := (c1 75 2 (by decide)).trans (xpi_ne (fun q => absurd q.2 (by decide)))
  rw [e2c] at x2
  refine ⟨x, kB ω' 77, ν, m, S, w, x1, rzR_l (fun k j a b => (c1 k j (by omega)).trans (xpi_ne (fun q => by omega))) e2c x2, fun i i0 i1 => eB i i0 (by omega), by rw [← eN]; exact x3, x4, x5, x6, x7, x8, fun g => ?_⟩
  obtain ⟨y1, y2, y3, y4, y5, y6⟩ := x9 (by rw [c2]; exact g)
  have ck : ∀ k j, k ≠ 75 → k ≠ 77 → ω'.1 k j = μ.1 k j := fun k j a b => (c1 k j b).trans (xpi_ne (fun q => a q.1))
  exact ⟨y1, fun j => (y2 j).trans (ck 1 j (by decide) (by decide)), fun j => (y3 j).trans (ck 76 j (by decide) (by decide)), fun j => (y4 j).trans (by rw [c2]), y5.trans (ck 0 6 (by decide) (by decide)), y6⟩
