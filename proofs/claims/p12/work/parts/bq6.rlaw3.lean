theorem lI_out {k : Int32} {μ ω m : xM} {mm : Nat} (h : lI μ ω mm) (hp : pM ω m) (hz : 0 < rF m) : rlZ k μ m := by
  obtain ⟨⟨a1, a2⟩, ⟨b1, b2, b3⟩, c, ⟨d1, d2, d3, d4⟩, ⟨e1, e2, e3⟩, f⟩ := h
  obtain ⟨⟨⟨⟨u1, u2, u3⟩, u4, u5, u6⟩, p2⟩, p3, p4⟩ := hp
  have eB : rB m = rB ω := by unfold rB; rw [u3]
  have eC : rC9 m = rC9 ω := by unfold rC9; rw [u6]
  refine ⟨⟨u1, rE_tr a2 p2, by omega⟩, fun i j h1 h2 h3 => (u2 i j (by omega) h2).trans (b3 i j h1 h2 (by omega)), fP_e c u4 u5 u6, ⟨by omega, by omega, by omega, by omega⟩, ⟨by omega, by omega⟩, fun _ j => ⟨(u2 94 j (by decide) (by decide)).trans (b1 j), (u2 95 j (by decide) (by decide)).trans (b2 j)⟩, fun q => by omega⟩
theorem sgA {ν m m' : xM} {lo : Int} {C : List kOp} (hb : bP ν m C) (hf : fP m m') (h0 : 0 ≤ lo) (h1 : lo ≤ rC9 ν) (h2 : rC9 m ≤ rC9 m') : sg m' lo (rC9 m') (rC9 ν) (rC9 m) C := sg_f (sg_b hb h1) hf h0 (Int.le_refl _) h2
theorem gdl {α : Type} {l : List α} {y d : α} : (l ++ [y]).getD l.length d = y := by rw [kGd, if_neg (Nat.lt_irrefl _), if_pos rfl]
theorem gdlt {α : Type} {l : List α} {y d : α} {i : Nat} (h : i < l.length) : (l ++ [y]).getD i d = l.getD i d := by rw [kGd, if_pos h]
set_option maxRecDepth 10000 in
set_option maxHeartbeats 4000000 in
theorem law_loop2 {k : Int32} {μ μ' : xM} {r : Option zV} (hwt : 0 ≤ rT μ) (hc0' : 0 ≤ rC9 μ) (hb0' : 0 ≤ rB μ) (hsd : 0 ≤ (μ.1 75 32).toInt ∧ (μ.1 75 32).toInt ≤ 1) (hk4 : 0 ≤ k.toInt ∧ k.toInt ≤ 3) : ∀ (n : Nat) (f0 ifs : Int32) (mm : Nat) (ω : xM), eT xq_226 n 12 [some (.inr (.inl (some 75))), some (.inl k), some (.inl f0), some (.inl ifs)] [] ω r μ' → 0 ≤ ifs.toInt → ifs.toInt + (mm : Int) = 4 → lI μ ω mm → f0.toInt = rB μ → (r = none ∧ rlZ k μ μ') := by
  have e1i : (1 : Int32).toInt = 1 := by decide
  have e4i : (4 : Int32).toInt = 4 := by decide
  intro n
  induction n using Nat.strongRecOn with
  | ind n ih =>
  intro f0 ifs mm ω h hi0' hi4 hL hf0k
  have hw : 0 ≤ rT ω := by have := hL.2.2.2.2.1; omega
  have hc0 : 0 ≤ rC9 ω := by have := hL.2.2.2.1; omega
  have hI0 : iB ω ω (rB ω).toNat := iB_rf hL.1.1 hL.2.2.2.2.1.2.1 hL.2.2.2.2.1.2.2 (fun q => (hL.2.2.2.2.2 q).1.2.2)
  have h46 : eT xq_226 n 46 [some (.inr (.inl (some 75))), some (.inl k), some (.inl f0), some (.inl ifs)] [] ω r μ' → rF ω = 0 → rK ω (rT ω) = 137 → ¬ ifs.toInt = 4 → (r = none ∧ rlZ k μ μ') := by
    intro h hf0 hk137 hn4
    replace h := tx_iinc (v := 1) (p' := 49) h em226_46 (by decide +kernel) rfl rfl
    replace h : eT xq_226 _ 49 [some (.inr (.inl (some 75))), some (.inl k), some (.inl f0), some (.inl (ifs + 1))] [] ω r μ' := h
    replace h := tx_aload_n (p' := 50) h em226_49 rfl rfl
    obtain ⟨r50, μ50, hE50, h⟩ := tx_invV (na := 1) (mn := 144) (as := [.inr (.inl (some 75))]) (rest := []) (p' := 53) h em226_50 ((congrFun xo_12 221).trans rfl) xm_144 rfl rfl
    obtain ⟨rfl, hp50, hI50⟩ := iG hI0 hw hE50
    replace h : eT xq_226 _ 53 [some (.inr (.inl (some 75))), some (.inl k), some (.inl f0), some (.inl (ifs + 1))] [] μ50 r μ' := h
    replace h := tx_aload_n (p' := 54) h em226_53 rfl rfl
    replace h := tx_getc (c := 12) (j := 44) (p' := 57) h em226_54 ((congrFun xo_12 79).trans rfl) rfl rfl rfl
    replace h := tx_aload_n (p' := 58) h em226_57 rfl rfl
    replace h := tx_getf (c := 12) (j := 43) (p' := 61) h em226_58 ((congrFun xo_12 239).trans rfl) rfl rfl (by decide) rfl
    replace h := tx_iconst (v := 1) (p' := 62) h em226_61 (by decide +kernel) rfl
    obtain ⟨hb62, h⟩ := tx_bast (len := 260) (p' := 63) h em226_62 rfl rfl
    replace hb62 : (0 : Int) ≤ (μ50.1 75 43).toInt ∧ (μ50.1 75 43).toInt < 260 := hb62
    replace h := tx_aload_n (p' := 64) h em226_63 rfl rfl
    replace h := tx_getc (c := 12) (j := 45) (p' := 67) h em226_64 ((congrFun xo_12 83).trans rfl) rfl rfl rfl
    replace h := tx_aload_n (p' := 68) h em226_67 rfl rfl
    replace h := tx_getf (c := 12) (j := 43) (p' := 71) h em226_68 ((congrFun xo_12 239).trans rfl) rfl rfl (by decide) rfl
    replace h : eT xq_226 _ 71 [some (.inr (.inl (some 75))), some (.inl k), some (.inl f0), some (.inl (ifs + 1))] [.inl (μ50.1 75 43), .inr (.inl (some 97))] (xpi μ50 96 (μ50.1 75 43).toInt.toNat ((1 : Int32)).toInt8.toInt32) r μ' := h
    replace h := tx_aload_n (p' := 72) h em226_71 rfl rfl
    replace h := tx_getf (c := 12) (j := 49) (p' := 75) h em226_72 ((congrFun xo_12 242).trans rfl) rfl rfl (by decide) rfl
    replace h : eT xq_226 _ 75 [some (.inr (.inl (some 75))), some (.inl k), some (.inl f0), some (.inl (ifs + 1))] [.inl (μ50.1 75 49), .inl (μ50.1 75 43), .inr (.inl (some 97))] (xpi μ50 96 (μ50.1 75 43).toInt.toNat ((1 : Int32)).toInt8.toInt32) r μ' := h
    obtain ⟨hb75, h⟩ := tx_iast (len := 260) (p' := 76) h em226_75 rfl rfl
    replace hb75 : (0 : Int) ≤ (μ50.1 75 43).toInt ∧ (μ50.1 75 43).toInt < 260 := hb75
    replace h := tx_aload_n (p' := 77) h em226_76 rfl rfl
    obtain ⟨r77, μ77, hE77, h⟩ := tx_invV (na := 1) (mn := 230) (as := [.inr (.inl (some 75))]) (rest := []) (p' := 80) h em226_77 ((congrFun xo_12 301).trans rfl) xm_230 rfl rfl
    obtain ⟨rfl, hx77, hI77⟩ := iX (iB_w' (j := (μ50.1 75 43).toInt.toNat) (iB_w' (j := (μ50.1 75 43).toInt.toNat) hI50 (by decide) (congrArg Int.toNat hI50.2.2.1.2)) (by decide) (congrArg Int.toNat hI50.2.2.1.2)) hw hc0 hE77
    replace h : eT xq_226 _ 80 [some (.inr (.inl (some 75))), some (.inl k), some (.inl f0), some (.inl (ifs + 1))] [] μ77 r μ' := h
    replace h := tx_aload_n (p' := 81) h em226_80 rfl rfl
    replace h := tx_bipush (v := 13) (p' := 83) h em226_81 (by decide +kernel) rfl
    obtain ⟨r83, μ83, hE83, h⟩ := tx_invV (na := 2) (mn := 169) (as := [.inr (.inl (some 75)), .inl (13 : Int32)]) (rest := []) (p' := 86) h em226_83 ((congrFun xo_12 258).trans rfl) xm_169 rfl rfl
    obtain ⟨rfl, hp83, hI83⟩ := iM hI77 hw (by decide) hE83
    replace h : eT xq_226 _ 86 [some (.inr (.inl (some 75))), some (.inl k), some (.inl f0), some (.inl (ifs + 1))] [] μ83 r μ' := h
    replace h := tx_aload_n (p' := 87) h em226_86 rfl rfl
    replace h := tx_getc (c := 12) (j := 46) (p' := 90) h em226_87 ((congrFun xo_12 86).trans rfl) rfl rfl rfl
    replace h := tx_aload_n (p' := 91) h em226_90 rfl rfl
    replace h := tx_getf (c := 12) (j := 43) (p' := 94) h em226_91 ((congrFun xo_12 239).trans rfl) rfl rfl (by decide) rfl
    replace h := tx_aload_n (p' := 95) h em226_94 rfl rfl
    replace h := tx_getf (c := 12) (j := 49) (p' := 98) h em226_95 ((congrFun xo_12 242).trans rfl) rfl rfl (by decide) rfl
    obtain ⟨hb98, h⟩ := tx_iast (len := 260) (p' := 99) h em226_98 rfl rfl
    replace hb98 : (0 : Int) ≤ (μ83.1 75 43).toInt ∧ (μ83.1 75 43).toInt < 260 := hb98
    replace h := tx_aload_n (p' := 100) h em226_99 rfl rfl
    replace h := tx_getf (c := 12) (j := 27) (p' := 103) h em226_100 ((congrFun xo_12 200).trans rfl) rfl rfl (by decide) rfl
    replace h : eT xq_226 _ 103 [some (.inr (.inl (some 75))), some (.inl k), some (.inl f0), some (.inl (ifs + 1))] [.inl (μ83.1 75 27)] (xpi μ83 98 (μ83.1 75 43).toInt.toNat (μ83.1 75 49)) r μ' := h
    rcases tx_if (t := 110) (p' := 106) h em226_103 (by decide) rfl with ⟨c103, h⟩ | ⟨c103, h⟩
    · replace c103 : ¬ (μ83.1 75 27).toInt = 0 := c103
      replace h := tx_aload_n (p' := 111) h em226_110 rfl rfl
      replace h := tx_bipush (v := 30) (p' := 113) h em226_111 (by decide +kernel) rfl
      obtain ⟨r113, μ113, hE113, h⟩ := tx_invV (na := 2) (mn := 169) (as := [.inr (.inl (some 75)), .inl (30 : Int32)]) (rest := []) (p' := 116) h em226_113 ((congrFun xo_12 258).trans rfl) xm_169 rfl rfl
      obtain ⟨rfl, hp113, hI113⟩ := iM (iB_w' (j := (μ83.1 75 43).toInt.toNat) hI83 (by decide) (congrArg Int.toNat hI83.2.2.1.2)) hw (by decide) hE113
      replace h : eT xq_226 _ 116 [some (.inr (.inl (some 75))), some (.inl k), some (.inl f0), some (.inl (ifs + 1))] [] μ113 r μ' := h
      replace h := tx_aload_n (p' := 117) h em226_116 rfl rfl
      obtain ⟨r117, μ117, hE117, h⟩ := tx_invV (na := 1) (mn := 227) (as := [.inr (.inl (some 75))]) (rest := []) (p' := 120) h em226_117 ((congrFun xo_12 304).trans rfl) xm_227 rfl rfl
      obtain ⟨rfl, ht117⟩ := iT hI113 hw hc0 hE117
      replace h : eT xq_226 _ 120 [some (.inr (.inl (some 75))), some (.inl k), some (.inl f0), some (.inl (ifs + 1))] [] μ117 r μ' := h
      replace h := tx_aload_n (p' := 121) h em226_120 rfl rfl
      replace h := tx_bipush (v := 31) (p' := 123) h em226_121 (by decide +kernel) rfl
      obtain ⟨r123, μ123, hE123, h⟩ := tx_invV (na := 2) (mn := 169) (as := [.inr (.inl (some 75)), .inl (31 : Int32)]) (rest := []) (p' := 126) h em226_123 ((congrFun xo_12 258).trans rfl) xm_169 rfl rfl
      obtain ⟨rfl, hp123⟩ := ex_muW hE123 (by decide) (by have q := ht117.2.2.2.2.1.2.2.2.1; have q2 := hI113.2.2.2.2.1.1; omega) ht117.2.2.2.2.1.2.2.2.2 ht117.2.2.2.1.1 ht117.1.1
      replace h : eT xq_226 _ 126 [some (.inr (.inl (some 75))), some (.inl k), some (.inl f0), some (.inl (ifs + 1))] [] μ123 r μ' := h
      obtain ⟨n2, hn2, h⟩ := tx_gotoS (t := 12) h em226_126 (by decide)
      obtain ⟨m2, rfl⟩ : ∃ m2, mm = m2 + 1 := ⟨mm - 1, by omega⟩
      have hi1 : (ifs + 1).toInt = ifs.toInt + 1 := by rw [an_add (by rw [e1i]; omega) (by rw [e1i]; omega), e1i]
      have fz : rF μ123 = 0 → rF μ117 = 0 ∧ rT μ123 = rT μ117 + 1 := fun q => by
        rcases hp123.2.2 with ⟨a, b⟩ | ⟨a, b, c⟩
        · exfalso; omega
        · exact ⟨by omega, a⟩
      have hnz : ¬ rF μ123 = 0 := fun q => by
        have q1 := (ht117.2.2.2.2.2.2 (fz q).1).1
        rcases hp113.2.2 with ⟨a, b⟩ | ⟨a, b, c⟩
        · omega
        · have b : rF μ113 = rF μ83 := b
          unfold rF at *
          omega
      have HT := ht117
      obtain ⟨⟨t1, t2⟩, ⟨t3, t4, t5, t6⟩, t7, t8, t9, t10, t11⟩ := HT
      obtain ⟨⟨⟨⟨u1, u2, u3⟩, u4, u5, u6⟩, p2⟩, p3, p4⟩ := hp123
      obtain ⟨⟨i1, i2⟩, ⟨i3, i4, i5⟩, ⟨i6, i7⟩, ⟨i8, i9, i10⟩, ⟨i11, i12⟩, i13, i14⟩ := hI113
      obtain ⟨⟨a1, a2⟩, ⟨b1, b2, b3⟩, c, ⟨d1, d2, d3, d4⟩, ⟨e1, e2, e3⟩, f⟩ := hL
      obtain ⟨y1, y2, y3, y4, y5⟩ := t9
      have y1 : rC9 μ113 ≤ rC9 μ117 := y1
      have y2 : rF μ117 = 0 → rC9 μ117 ≤ rC9 μ113 + (rT μ117 - rT μ113) := y2
      have y3 : rC9 μ117 ≤ rC9 μ113 + (rT μ117 - rT μ113) + 1 := y3
      have eB : rB μ123 = rB ω + 1 := by
        have : rB μ123 = rB μ117 := by unfold rB; rw [u3]
        omega
      have eC : rC9 μ123 = rC9 μ117 := by unfold rC9; rw [u6]
      have hb0 : (rB μ113).toNat = (rB ω).toNat := by rw [i7]
      have lI2 : lI μ μ123 m2 := by
        refine ⟨⟨u1, rE_tr a2 (rE_tr i2 (rE_tr t2 p2))⟩, ⟨fun j => (u2 94 j (by decide) (by decide)).trans ((t3 94 j (by decide) (by decide)).trans ((i3 j).trans (b1 j))), fun j => (u2 95 j (by decide) (by decide)).trans ((t3 95 j (by decide) (by decide)).trans ((i4 j).trans (b2 j))), fun w j h1 h2 h3 => ?_⟩, fP_e (fP_tr c (fP_tr i6 t10 i8 y1) d1 (by show rC9 ω ≤ rC9 μ117; omega)) u4 u5 u6, ⟨by omega, by omega, ?_, ?_⟩, ⟨by omega, by omega, by omega⟩, ?_⟩
        · have hj : ¬ j = (rB ω).toNat := by omega
          refine (u2 w j (by omega) h2).trans (Eq.trans ?_ ((i5 w j h1 h2 hj).trans (b3 w j h1 h2 (by omega))))
          by_cases q : w ≤ 98
          · exact t3 w j (by omega) q
          · exact t4 w j (by omega) h2 (by rw [hb0]; exact hj)
        · by_cases q : rF μ113 = 0
          · have := i9 q
            have := (f hf0).1
            omega
          · have := t8.2 (by omega)
            have := (f hf0).1
            omega
        · have := (f hf0).1
          omega
        · intro hz
          exact absurd hz hnz
      obtain hcc := ih n2 hn2 _ _ m2 _ h (by rw [hi1]; omega) (by rw [hi1]; omega) lI2 hf0k
      exact hcc
    · replace c103 : ¬ ¬ (μ83.1 75 27).toInt = 0 := c103
      replace h := tx_aload_n (p' := 107) h em226_106 rfl rfl
      obtain ⟨r107, μ107, hE107, h⟩ := tx_invV (na := 1) (mn := 230) (as := [.inr (.inl (some 75))]) (rest := []) (p' := 110) h em226_107 ((congrFun xo_12 301).trans rfl) xm_230 rfl rfl
      obtain ⟨rfl, hx107, hI107⟩ := iX (iB_w' (j := (μ83.1 75 43).toInt.toNat) hI83 (by decide) (congrArg Int.toNat hI83.2.2.1.2)) hw hc0 hE107
      replace h : eT xq_226 _ 110 [some (.inr (.inl (some 75))), some (.inl k), some (.inl f0), some (.inl (ifs + 1))] [] μ107 r μ' := h
      replace h := tx_aload_n (p' := 111) h em226_110 rfl rfl
      replace h := tx_bipush (v := 30) (p' := 113) h em226_111 (by decide +kernel) rfl
      obtain ⟨r113_1, μ113_1, hE113_1, h⟩ := tx_invV (na := 2) (mn := 169) (as := [.inr (.inl (some 75)), .inl (30 : Int32)]) (rest := []) (p' := 116) h em226_113 ((congrFun xo_12 258).trans rfl) xm_169 rfl rfl
      obtain ⟨rfl, hp113_1, hI113_1⟩ := iM hI107 hw (by decide) hE113_1
      replace h : eT xq_226 _ 116 [some (.inr (.inl (some 75))), some (.inl k), some (.inl f0), some (.inl (ifs + 1))] [] μ113_1 r μ' := h
      replace h := tx_aload_n (p' := 117) h em226_116 rfl rfl
      obtain ⟨r117_1, μ117_1, hE117_1, h⟩ := tx_invV (na := 1) (mn := 227) (as := [.inr (.inl (some 75))]) (rest := []) (p' := 120) h em226_117 ((congrFun xo_12 304).trans rfl) xm_227 rfl rfl
      obtain ⟨rfl, ht117_1⟩ := iT hI113_1 hw hc0 hE117_1
      replace h : eT xq_226 _ 120 [some (.inr (.inl (some 75))), some (.inl k), some (.inl f0), some (.inl (ifs + 1))] [] μ117_1 r μ' := h
      replace h := tx_aload_n (p' := 121) h em226_120 rfl rfl
      replace h := tx_bipush (v := 31) (p' := 123) h em226_121 (by decide +kernel) rfl
      obtain ⟨r123_1, μ123_1, hE123_1, h⟩ := tx_invV (na := 2) (mn := 169) (as := [.inr (.inl (some 75)), .inl (31 : Int32)]) (rest := []) (p' := 126) h em226_123 ((congrFun xo_12 258).trans rfl) xm_169 rfl rfl
      obtain ⟨rfl, hp123_1⟩ := ex_muW hE123_1 (by decide) (by have q := ht117_1.2.2.2.2.1.2.2.2.1; have q2 := hI113_1.2.2.2.2.1.1; omega) ht117_1.2.2.2.2.1.2.2.2.2 ht117_1.2.2.2.1.1 ht117_1.1.1
      replace h : eT xq_226 _ 126 [some (.inr (.inl (some 75))), some (.inl k), some (.inl f0), some (.inl (ifs + 1))] [] μ123_1 r μ' := h
      obtain ⟨n2, hn2, h⟩ := tx_gotoS (t := 12) h em226_126 (by decide)
      obtain ⟨m2, rfl⟩ : ∃ m2, mm = m2 + 1 := ⟨mm - 1, by omega⟩
      have hi1 : (ifs + 1).toInt = ifs.toInt + 1 := by rw [an_add (by rw [e1i]; omega) (by rw [e1i]; omega), e1i]
      have fz : rF μ123_1 = 0 → rF μ117_1 = 0 ∧ rT μ123_1 = rT μ117_1 + 1 := fun q => by
        rcases hp123_1.2.2 with ⟨a, b⟩ | ⟨a, b, c⟩
        · exfalso; omega
        · exact ⟨by omega, a⟩
      have HT := ht117_1
      obtain ⟨⟨t1, t2⟩, ⟨t3, t4, t5, t6⟩, t7, t8, t9, t10, t11⟩ := HT
      obtain ⟨⟨⟨⟨u1, u2, u3⟩, u4, u5, u6⟩, p2⟩, p3, p4⟩ := hp123_1
      obtain ⟨⟨i1, i2⟩, ⟨i3, i4, i5⟩, ⟨i6, i7⟩, ⟨i8, i9, i10⟩, ⟨i11, i12⟩, i13, i14⟩ := hI113_1
      obtain ⟨⟨a1, a2⟩, ⟨b1, b2, b3⟩, c, ⟨d1, d2, d3, d4⟩, ⟨e1, e2, e3⟩, f⟩ := hL
      obtain ⟨y1, y2, y3, y4, y5⟩ := t9
      have y1 : rC9 μ113_1 ≤ rC9 μ117_1 := y1
      have y2 : rF μ117_1 = 0 → rC9 μ117_1 ≤ rC9 μ113_1 + (rT μ117_1 - rT μ113_1) := y2
      have y3 : rC9 μ117_1 ≤ rC9 μ113_1 + (rT μ117_1 - rT μ113_1) + 1 := y3
      have eB : rB μ123_1 = rB ω + 1 := by
        have : rB μ123_1 = rB μ117_1 := by unfold rB; rw [u3]
        omega
      have eC : rC9 μ123_1 = rC9 μ117_1 := by unfold rC9; rw [u6]
      have hb0 : (rB μ113_1).toNat = (rB ω).toNat := by rw [i7]
      have lI2 : lI μ μ123_1 m2 := by
        refine ⟨⟨u1, rE_tr a2 (rE_tr i2 (rE_tr t2 p2))⟩, ⟨fun j => (u2 94 j (by decide) (by decide)).trans ((t3 94 j (by decide) (by decide)).trans ((i3 j).trans (b1 j))), fun j => (u2 95 j (by decide) (by decide)).trans ((t3 95 j (by decide) (by decide)).trans ((i4 j).trans (b2 j))), fun w j h1 h2 h3 => ?_⟩, fP_e (fP_tr c (fP_tr i6 t10 i8 y1) d1 (by show rC9 ω ≤ rC9 μ117_1; omega)) u4 u5 u6, ⟨by omega, by omega, ?_, ?_⟩, ⟨by omega, by omega, by omega⟩, ?_⟩
        · have hj : ¬ j = (rB ω).toNat := by omega
          refine (u2 w j (by omega) h2).trans (Eq.trans ?_ ((i5 w j h1 h2 hj).trans (b3 w j h1 h2 (by omega))))
          by_cases q : w ≤ 98
          · exact t3 w j (by omega) q
          · exact t4 w j (by omega) h2 (by rw [hb0]; exact hj)
        · by_cases q : rF μ113_1 = 0
          · have := i9 q
            have := (f hf0).1
            omega
          · have := t8.2 (by omega)
            have := (f hf0).1
            omega
        · have := (f hf0).1
          omega
        · intro hz
          obtain ⟨z117, zT123⟩ := fz hz
          obtain ⟨z113, C1, C2, C3, C4⟩ := t11 z117
          have z107 : rF μ107 = 0 ∧ rT μ113_1 = rT μ107 + 1 := by
            rcases hp113_1.2.2 with ⟨a, b⟩ | ⟨a, b, c⟩
            · exfalso; omega
            · exact ⟨by omega, a⟩
          obtain ⟨z83, B1, B2, B3, B4⟩ := hx107.2.2.2.2 z107.1
          have z83 : rF μ83 = 0 := z83
          have z77 : rF μ77 = 0 ∧ rT μ83 = rT μ77 + 1 := by
            rcases hp83.2.2 with ⟨a, b⟩ | ⟨a, b, c⟩
            · exfalso; omega
            · exact ⟨by omega, a⟩
          obtain ⟨z50, A1, A2, A3, A4⟩ := hx77.2.2.2.2 z77.1
          have z50 : rF μ50 = 0 := z50
          have zT50 : rT μ50 = rT ω + 1 := by
            rcases hp50.2.2 with ⟨a, b⟩ | ⟨a, b, c⟩
            · exfalso; omega
            · exact a
          obtain ⟨⟨F1, F2, F3⟩, done, D1, D2, D3⟩ := f hf0
          have E50 : rE μ (xpi (xpi μ50 96 (μ50.1 75 43).toInt.toNat ((1 : Int32)).toInt8.toInt32) 97 (μ50.1 75 43).toInt.toNat (μ50.1 75 49)) := rE_tr a2 (rE_c (rE_c hp50.1.2 (by decide)) (by decide))
          have E77 : rE μ μ77 := rE_tr E50 hx77.1.2
          have E83 : rE μ (xpi μ83 98 (μ83.1 75 43).toInt.toNat (μ83.1 75 49)) := rE_tr E77 (rE_c hp83.1.2 (by decide))
          have E107 : rE μ μ107 := rE_tr E83 hx107.1.2
          have E113 : rE μ μ113_1 := rE_tr E107 hp113_1.1.2
          have T50 : rT (xpi (xpi μ50 96 (μ50.1 75 43).toInt.toNat ((1 : Int32)).toInt8.toInt32) 97 (μ50.1 75 43).toInt.toNat (μ50.1 75 49)) = rT ω + 1 := zT50
          have T83 : rT (xpi μ83 98 (μ83.1 75 43).toInt.toNat (μ83.1 75 49)) = rT μ77 + 1 := z77.2
          rw [rE_K E50, rE_Vl E50, T50] at A1
          rw [rE_K E50, T50] at A2
          rw [rE_K E83, rE_Vl E83, T83] at B1
          rw [rE_K E83, T83] at B2
          rw [rE_K E113, rE_Vl E113, z107.2] at C1
          rw [rE_K E113, z107.2] at C2
          have f77 : fP μ77 (xpi μ83 98 (μ83.1 75 43).toInt.toNat (μ83.1 75 49)) := fP_x (fP_u hp83.1.1) (by decide)
          have f107 : fP μ107 μ113_1 := fP_u hp113_1.1.1
          have f117 : fP μ117_1 μ123_1 := fP_e fP_rf u4 u5 u6
          have c83 : rC9 (xpi μ83 98 (μ83.1 75 43).toInt.toNat (μ83.1 75 49)) = rC9 μ77 := by
            have q : rC9 μ83 = rC9 μ77 := uE_C hp83.1.1
            exact q
          have c113 : rC9 μ113_1 = rC9 μ107 := uE_C hp113_1.1.1
          have c77 : rC9 (xpi (xpi μ50 96 (μ50.1 75 43).toInt.toNat ((1 : Int32)).toInt8.toInt32) 97 (μ50.1 75 43).toInt.toNat (μ50.1 75 49)) ≤ rC9 μ77 := hx77.2.2.1.1
          have c107 : rC9 (xpi μ83 98 (μ83.1 75 43).toInt.toNat (μ83.1 75 49)) ≤ rC9 μ107 := hx107.2.2.1.1
          have c50 : rC9 (xpi (xpi μ50 96 (μ50.1 75 43).toInt.toNat ((1 : Int32)).toInt8.toInt32) 97 (μ50.1 75 43).toInt.toNat (μ50.1 75 49)) = rC9 ω := by
            have q : rC9 μ50 = rC9 ω := uE_C hp50.1.1
            exact q
          have g113 : fP μ113_1 μ123_1 := fP_tr t10 f117 y1 (by show rC9 μ117_1 ≤ rC9 μ123_1; omega)
          have g107 : fP μ107 μ123_1 := fP_tr f107 g113 (by show rC9 μ107 ≤ rC9 μ113_1; omega) (by show rC9 μ113_1 ≤ rC9 μ123_1; omega)
          have g77 : fP μ77 μ123_1 := fP_tr f77 (fP_tr hx107.2.2.2.1 g107 c107 (by show rC9 μ107 ≤ rC9 μ123_1; omega)) (by show rC9 μ77 ≤ rC9 (xpi μ83 98 (μ83.1 75 43).toInt.toNat (μ83.1 75 49)); omega) (by show rC9 (xpi μ83 98 (μ83.1 75 43).toInt.toNat (μ83.1 75 49)) ≤ rC9 μ123_1; omega)
          have ix50 : (μ50.1 75 43).toInt.toNat = (rB ω).toNat := congrArg Int.toNat hI50.2.2.1.2
          have ix83 : (μ83.1 75 43).toInt.toNat = (rB ω).toNat := congrArg Int.toNat hI83.2.2.1.2
          have w113 : ∀ w, 96 ≤ w → w ≤ 98 → μ123_1.1 w (rB ω).toNat = (xpi μ83 98 (μ83.1 75 43).toInt.toNat (μ83.1 75 49)).1 w (rB ω).toNat := fun w h1 h2 => (u2 w _ (by omega) (by omega)).trans ((t3 w _ (by omega) h2).trans ((hp113_1.1.1.1.2.1 w _ (by omega) (by omega)).trans (hx107.1.1.2.1 w _ (by omega) (by omega))))
          have w77 : ∀ w, 96 ≤ w → w ≤ 97 → μ123_1.1 w (rB ω).toNat = (xpi (xpi μ50 96 (μ50.1 75 43).toInt.toNat ((1 : Int32)).toInt8.toInt32) 97 (μ50.1 75 43).toInt.toNat (μ50.1 75 49)).1 w (rB ω).toNat := fun w h1 h2 => (w113 w h1 (by omega)).trans ((xpi_ne (fun q => by omega)).trans ((hp83.1.1.1.2.1 w _ (by omega) (by omega)).trans (hx77.1.1.2.1 w _ (by omega) (by omega))))
          have v96 : (μ123_1.1 96 (rB ω).toNat).toInt = 1 := by
            rw [w77 96 (by decide) (by decide), xpi_ne (fun q => absurd q.1 (by decide)), ix50, xpi_at]
            decide
          have v97 : (μ123_1.1 97 (rB ω).toNat).toInt = rC9 (xpi (xpi μ50 96 (μ50.1 75 43).toInt.toNat ((1 : Int32)).toInt8.toInt32) 97 (μ50.1 75 43).toInt.toNat (μ50.1 75 49)) := by
            rw [w77 97 (by decide) (by decide), ix50, xpi_at]
            rfl
          have v98 : (μ123_1.1 98 (rB ω).toNat).toInt = rC9 μ77 := by
            rw [w113 98 (by decide) (by decide), ix83, xpi_at]
            exact c83
          have v99 : (μ123_1.1 99 (rB ω).toNat).toInt = rC9 μ107 := by
            rw [u2 99 _ (by decide) (by decide), ← hb0, t5]
            exact c113
          have v100 : (μ123_1.1 100 (rB ω).toNat).toInt = rC9 μ117_1 := by
            rw [u2 100 _ (by decide) (by decide), ← hb0, t6]
          have iq9 := i9 z113
          have sA := sgA (m' := μ123_1) (lo := rC9 μ) A1 g77 hc0' (by omega) (by omega)
          have sB := sgA (m' := μ123_1) (lo := rC9 μ) B1 g107 hc0' (by omega) (by omega)
          have sC' := sgA (m' := μ123_1) (lo := rC9 μ) C1 f117 hc0' (by omega) (by omega)
          rw [c83] at sB
          rw [c113] at sC'
          refine ⟨⟨by have := y2 z117; omega, by omega, by rw [p3]; exact C3⟩, Exists.intro (done ++ [(ys (rK μ) (rVl μ) (rT ω + 1) 0 false [], ys (rK μ) (rVl μ) (rT μ77 + 1) 0 false [], ys (rK μ) (rVl μ) (rT μ107 + 1) 0 false [])]) ⟨?_, fun i hi => ?_, ?_⟩⟩
          · rw [List.length_append, List.length_singleton]
            omega
          · rw [List.length_append, List.length_singleton] at hi
            by_cases q : i < done.length
            · rw [gdlt q]
              have hj : ¬ (rB μ).toNat + i = (rB ω).toNat := by omega
              refine brc_f (D2 i q) (fun w h1 h2 => (u2 w _ (by omega) h2).trans (Eq.trans ?_ (i5 w _ h1 h2 hj))) (fP_tr i6 g113 i8 (by show rC9 μ113_1 ≤ rC9 μ123_1; omega)) hc0' (Int.le_refl _) (by omega)
              by_cases q2 : w ≤ 98
              · exact t3 w _ (by omega) q2
              · exact t4 w _ (by omega) h2 (by rw [hb0]; exact hj)
            · have ei : i = done.length := by omega
              subst ei
              rw [gdl, show (rB μ).toNat + done.length = (rB ω).toNat by omega]
              unfold brc
              rw [v96, v97, v98, v99, v100]
              exact ⟨rfl, sA, sB, sC'⟩
          · rw [D3, kLF_if (by rw [← rE_K a2]; exact hk137) A2 B2 C2, show rT μ117_1 + 1 = rT μ123_1 by omega, List.append_assoc]
            rfl
      obtain hcc := ih n2 hn2 _ _ m2 _ h (by rw [hi1]; omega) (by rw [hi1]; omega) lI2 hf0k
      exact hcc
  have h129 : eT xq_226 n 129 [some (.inr (.inl (some 75))), some (.inl k), some (.inl f0), some (.inl ifs)] [] ω r μ' → (rF ω = 0 → ¬ rK ω (rT ω) = 137) → (r = none ∧ rlZ k μ μ') := by
    intro h hkn
    replace h := tx_aload_n (p' := 130) h em226_129 rfl rfl
    replace h := tx_getc (c := 12) (j := 44) (p' := 133) h em226_130 ((congrFun xo_12 79).trans rfl) rfl rfl rfl
    replace h := tx_aload_n (p' := 134) h em226_133 rfl rfl
    replace h := tx_getf (c := 12) (j := 43) (p' := 137) h em226_134 ((congrFun xo_12 239).trans rfl) rfl rfl (by decide) rfl
    replace h := tx_iconst (v := 0) (p' := 138) h em226_137 (by decide +kernel) rfl
    obtain ⟨hb138, h⟩ := tx_bast (len := 260) (p' := 139) h em226_138 rfl rfl
    replace hb138 : (0 : Int) ≤ (ω.1 75 43).toInt ∧ (ω.1 75 43).toInt < 260 := hb138
    replace h := tx_aload_n (p' := 140) h em226_139 rfl rfl
    obtain ⟨r140, μ140, hE140, h⟩ := tx_invV (na := 1) (mn := 227) (as := [.inr (.inl (some 75))]) (rest := []) (p' := 143) h em226_140 ((congrFun xo_12 304).trans rfl) xm_227 rfl rfl
    obtain ⟨rfl, ht140⟩ := iT (iB_w' (j := (ω.1 75 43).toInt.toNat) hI0 (by decide) (congrArg Int.toNat hI0.2.2.1.2)) hw hc0 hE140
    replace h : eT xq_226 _ 143 [some (.inr (.inl (some 75))), some (.inl k), some (.inl f0), some (.inl ifs)] [] μ140 r μ' := h
    replace h := tx_aload_n (p' := 144) h em226_143 rfl rfl
    replace h := tx_iconst (v := 4) (p' := 145) h em226_144 (by decide +kernel) rfl
    obtain ⟨r145, μ145, hE145, h⟩ := tx_invV (na := 2) (mn := 169) (as := [.inr (.inl (some 75)), .inl (4 : Int32)]) (rest := []) (p' := 148) h em226_145 ((congrFun xo_12 258).trans rfl) xm_169 rfl rfl
    obtain ⟨rfl, hp145⟩ := ex_muW hE145 (by decide) (by have q := ht140.2.2.2.2.1.2.2.2.1; have q : rT ω ≤ _ := q; omega) ht140.2.2.2.2.1.2.2.2.2 ht140.2.2.2.1.1 ht140.1.1
    replace h : eT xq_226 _ 148 [some (.inr (.inl (some 75))), some (.inl k), some (.inl f0), some (.inl ifs)] [] μ145 r μ' := h
    replace h := tx_aload_n (p' := 149) h em226_148 rfl rfl
    replace h := tx_getf (c := 12) (j := 27) (p' := 152) h em226_149 ((congrFun xo_12 200).trans rfl) rfl rfl (by decide) rfl
    rcases tx_if (t := 156) (p' := 155) h em226_152 (by decide) rfl with ⟨c152, h⟩ | ⟨c152, h⟩
    · replace c152 : (μ145.1 75 27).toInt ≤ 0 := c152
      replace h := tx_aload_n (p' := 157) h em226_156 rfl rfl
      replace h := tx_getc (c := 12) (j := 41) (p' := 160) h em226_157 ((congrFun xo_12 73).trans rfl) rfl rfl rfl
      replace h := tx_iconst (v := 4) (p' := 161) h em226_160 (by decide +kernel) rfl
      replace h := tx_aload_n (p' := 162) h em226_161 rfl rfl
      replace h := tx_getf (c := 12) (j := 32) (p' := 165) h em226_162 ((congrFun xo_12 233).trans rfl) rfl rfl (by decide) rfl
      replace h := tx_imul (p' := 166) h em226_165 rfl
      replace h := tx_iload_n (p' := 167) h em226_166 rfl rfl
      replace h := tx_iadd (p' := 168) h em226_167 rfl
      replace h := tx_iload_n (p' := 169) h em226_168 rfl rfl
      obtain ⟨hb169, h⟩ := tx_iast (len := 8) (p' := 170) h em226_169 rfl rfl
      replace hb169 : (0 : Int) ≤ (((4 : Int32) * (μ145.1 75 32)) + k).toInt ∧ (((4 : Int32) * (μ145.1 75 32)) + k).toInt < 8 := hb169
      replace h := tx_aload_n (p' := 171) h em226_170 rfl rfl
      replace h := tx_getc (c := 12) (j := 42) (p' := 174) h em226_171 ((congrFun xo_12 76).trans rfl) rfl rfl rfl
      replace h := tx_iconst (v := 4) (p' := 175) h em226_174 (by decide +kernel) rfl
      replace h := tx_aload_n (p' := 176) h em226_175 rfl rfl
      replace h := tx_getf (c := 12) (j := 32) (p' := 179) h em226_176 ((congrFun xo_12 233).trans rfl) rfl rfl (by decide) rfl
      replace h : eT xq_226 _ 179 [some (.inr (.inl (some 75))), some (.inl k), some (.inl f0), some (.inl ifs)] [.inl (μ145.1 75 32), .inl (4 : Int32), .inr (.inl (some 95))] (xpi μ145 94 (((4 : Int32) * (μ145.1 75 32)) + k).toInt.toNat f0) r μ' := h
      replace h := tx_imul (p' := 180) h em226_179 rfl
      replace h := tx_iload_n (p' := 181) h em226_180 rfl rfl
      replace h := tx_iadd (p' := 182) h em226_181 rfl
      replace h := tx_aload_n (p' := 183) h em226_182 rfl rfl
      replace h := tx_getf (c := 12) (j := 43) (p' := 186) h em226_183 ((congrFun xo_12 239).trans rfl) rfl rfl (by decide) rfl
      replace h : eT xq_226 _ 186 [some (.inr (.inl (some 75))), some (.inl k), some (.inl f0), some (.inl ifs)] [.inl (μ145.1 75 43), .inl (((4 : Int32) * (μ145.1 75 32)) + k), .inr (.inl (some 95))] (xpi μ145 94 (((4 : Int32) * (μ145.1 75 32)) + k).toInt.toNat f0) r μ' := h
      obtain ⟨hb186, h⟩ := tx_iast (len := 8) (p' := 187) h em226_186 rfl rfl
      replace hb186 : (0 : Int) ≤ (((4 : Int32) * (μ145.1 75 32)) + k).toInt ∧ (((4 : Int32) * (μ145.1 75 32)) + k).toInt < 8 := hb186
      obtain ⟨rfl, hμ⟩ := tx_return h em226_187
      have HT := ht140
      obtain ⟨⟨t1, t2⟩, ⟨t3, t4, t5, t6⟩, t7, t8, t9, t10, t11⟩ := HT
      obtain ⟨⟨⟨⟨u1, u2, u3⟩, u4, u5, u6⟩, p2⟩, p3, p4⟩ := hp145
      obtain ⟨⟨a1, a2⟩, ⟨b1, b2, b3⟩, c, ⟨d1, d2, d3, d4⟩, ⟨e1, e2, e3⟩, f⟩ := hL
      obtain ⟨y1, y2, y3, y4, y5⟩ := t9
      have y1 : rC9 ω ≤ rC9 μ140 := y1
      have y2 : rF μ140 = 0 → rC9 μ140 ≤ rC9 ω + (rT μ140 - rT ω) := y2
      have y3 : rC9 μ140 ≤ rC9 ω + (rT μ140 - rT ω) + 1 := y3
      have y4 : rT ω ≤ rT μ140 := y4
      have t7 : rB μ140 = rB ω + 1 := t7
      have t8 : 0 ≤ rF μ140 ∧ (0 < rF ω → 0 < rF μ140 ∧ rC9 μ140 = rC9 ω ∧ rT μ140 = rT ω) := t8
      have eB : rB μ145 = rB ω + 1 := by
        have : rB μ145 = rB μ140 := by unfold rB; rw [u3]
        omega
      have eC : rC9 μ145 = rC9 μ140 := by unfold rC9; rw [u6]
      have q94 : ∀ j, μ145.1 94 j = μ.1 94 j := fun j => (u2 94 j (by decide) (by decide)).trans ((t3 94 j (by decide) (by decide)).trans ((xpi_ne (fun q => absurd q.1 (by decide))).trans (b1 j)))
      have q95 : ∀ j, μ145.1 95 j = μ.1 95 j := fun j => (u2 95 j (by decide) (by decide)).trans ((t3 95 j (by decide) (by decide)).trans ((xpi_ne (fun q => absurd q.1 (by decide))).trans (b2 j)))
      have q96 : ∀ (w j : Nat), 96 ≤ w → w ≤ 100 → ((j : Int) < rB μ ∨ rB μ145 ≤ j) → μ145.1 w j = μ.1 w j := fun w j h1 h2 h3 => by
        have hj : ¬ j = (rB ω).toNat := by omega
        refine (u2 w j (by omega) h2).trans (Eq.trans ?_ ((xpi_ne (μ := ω) (a := 96) (i := (ω.1 75 43).toInt.toNat) (v := ((0 : Int32)).toInt8.toInt32) (fun q => hj q.2)).trans (b3 w j h1 h2 (by omega))))
        by_cases q : w ≤ 98
        · exact t3 w j (by omega) q
        · exact t4 w j (by omega) h2 hj
      have hEz : rE μ μ145 := rE_tr a2 (rE_tr (rE_c rE_rf (by decide)) (rE_tr t2 p2))
      have hfp : fP μ μ145 := fP_e (fP_tr c (fP_l t10 (fun j => xpi_ne (fun q => absurd q.1 (by decide))) (fun j => xpi_ne (fun q => absurd q.1 (by decide))) (xpi_ne (fun q => absurd q.1 (by decide)))) d1 y1) u4 u5 u6
      have n1 : rC9 μ ≤ rC9 μ145 ∧ rB μ ≤ rB μ145 ∧ rC9 μ145 ≤ rC9 μ + (rT μ145 - rT μ) + 1 ∧ 4 * (rB μ145 - rB μ) ≤ (rT μ145 - rT μ) + 9 := by
        refine ⟨by omega, by omega, ?_, by omega⟩
        by_cases q : rF ω = 0
        · have := (f q).1
          omega
        · have := t8.2 (by omega)
          omega
      rw [hμ]
      have hz : rF μ145 = 0 := by
            have : ¬ 0 < rF μ145 := by unfold rF; omega
            omega
      have zt : rF μ140 = 0 ∧ rT μ145 = rT μ140 + 1 := by
        rcases p4 with ⟨a, b⟩ | ⟨a, b, c⟩
        · exfalso; omega
        · exact ⟨by omega, a⟩
      obtain ⟨z0, C1, C2, C3, C4⟩ := t11 zt.1
      have z0 : rF ω = 0 := z0
      have C4 : rT ω < rT μ140 := C4
      have E0 : rE μ (xpi ω 96 (ω.1 75 43).toInt.toNat ((0 : Int32)).toInt8.toInt32) := rE_tr a2 (rE_c rE_rf (by decide))
      have T0 : rT (xpi ω 96 (ω.1 75 43).toInt.toNat ((0 : Int32)).toInt8.toInt32) = rT ω := rfl
      have c0 : rC9 (xpi ω 96 (ω.1 75 43).toInt.toNat ((0 : Int32)).toInt8.toInt32) = rC9 ω := rfl
      rw [rE_K E0, rE_Vl E0, T0] at C1
      obtain ⟨⟨F1, F2, F3⟩, done, D1, D2, D3⟩ := f z0
      have f117 : fP μ140 μ145 := fP_e fP_rf u4 u5 u6
      have sC' := sgA (m' := μ145) (lo := rC9 μ) C1 f117 hc0' (by omega) (by omega)
      rw [c0] at sC'
      have v96 : (μ145.1 96 (rB ω).toNat).toInt = 0 := by
        rw [u2 96 _ (by decide) (by decide), t3 96 _ (by decide) (by decide)]
        exact (congrArg Int32.toInt xpi_at).trans (by decide)
      have v99 : (μ145.1 99 (rB ω).toNat).toInt = rC9 ω := by
        rw [u2 99 _ (by decide) (by decide)]
        exact t5
      have v100 : (μ145.1 100 (rB ω).toNat).toInt = rC9 μ140 := by
        rw [u2 100 _ (by decide) (by decide)]
        exact t6
      have e32 : μ145.1 75 32 = μ.1 75 32 := hEz.2.1 32 (by decide) (by decide) (by decide) (by decide) (by decide) (by decide) (by decide)
      have s32 : 0 ≤ (μ.1 75 32).toInt ∧ (μ.1 75 32).toInt ≤ 1 := hsd
      have em : ((4 : Int32) * (μ145.1 75 32)).toInt = 4 * (μ.1 75 32).toInt := by rw [e32, an_mul (by rw [e4i]; omega) (by rw [e4i]; omega), e4i]
      have ea : ((4 : Int32) * (μ145.1 75 32) + k).toInt = 4 * (μ.1 75 32).toInt + k.toInt := by rw [an_add (by rw [em]; omega) (by rw [em]; omega), em]
      have hN : ∀ (w j : Nat), (w < 94 ∨ 95 < w) → (xpi (xpi μ145 94 ((4 : Int32) * (μ145.1 75 32) + k).toInt.toNat f0) 95 ((4 : Int32) * (μ145.1 75 32) + k).toInt.toNat (μ145.1 75 43)).1 w j = μ145.1 w j := fun w j hw => (xpi_ne (fun q => by omega)).trans (xpi_ne (fun q => by omega))
      have hfin : fP μ145 (xpi (xpi μ145 94 ((4 : Int32) * (μ145.1 75 32) + k).toInt.toNat f0) 95 ((4 : Int32) * (μ145.1 75 32) + k).toInt.toNat (μ145.1 75 43)) := fP_e fP_rf (fun j => hN 101 j (by decide)) (fun j => hN 102 j (by decide)) (hN 75 49 (by decide))
      refine ⟨rfl, ⟨hOK_2 rfl u1, rE_c (rE_c hEz (by decide)) (by decide), by show 0 ≤ rF μ145; omega⟩, fun w j h1 h2 h3 => (hN w j (by omega)).trans (q96 w j h1 h2 h3), fP_e hfp (fun j => hN 101 j (by decide)) (fun j => hN 102 j (by decide)) (hN 75 49 (by decide)), n1, ⟨by show rT μ ≤ rT μ145; omega, by show rT μ145 ≤ 400; omega⟩, fun q => absurd hz q, fun _ => ⟨⟨?_, ?_, ?_⟩, ⟨((4 : Int32) * (μ145.1 75 32) + k).toInt.toNat, by omega, fun j hj => ⟨?_, ?_⟩, ?_, ?_⟩, ?_⟩⟩
      · show rC9 μ145 ≤ rC9 μ + (rT μ145 - rT μ)
        have := y2 zt.1
        omega
      · show 4 * (rB μ145 - rB μ) ≤ rT μ145 - rT μ + 1
        omega
      · show rQ μ145 = 0
        rw [p3]; exact C3
      · rw [xpi_ne (fun q => absurd q.1 (by decide)), xpi_ne (fun q => hj q.2)]; exact q94 j
      · rw [xpi_ne (fun q => hj q.2), xpi_ne (fun q => absurd q.1 (by decide))]; exact q95 j
      · rw [xpi_ne (fun q => absurd q.1 (by decide)), xpi_at]; exact hf0k
      · rw [xpi_at]
        rfl
      · have eL : kLF (rK μ) (rVl μ) 4 (rT μ + 1) = (done, ys (rK μ) (rVl μ) (rT ω) 0 false []) := by
          rw [D3, kLF_end (by rw [← rE_K a2]; exact hkn z0), List.append_nil]
        have hbn : (rB μ).toNat + done.length = (rB ω).toNat := by omega
        rw [eL]
        refine ⟨hb0', by show rB μ145 = rB μ + (done.length : Int) + 1; omega, fun i hi => ?_, ?_, ?_⟩
        · have hj : ¬ (rB μ).toNat + i = (rB ω).toNat := by
            have hi : i < done.length := hi
            omega
          refine brc_f (D2 i hi) (fun w h1 h2 => (hN w _ (by omega)).trans ((u2 w _ (by omega) h2).trans (Eq.trans ?_ (xpi_ne (μ := ω) (a := 96) (i := (ω.1 75 43).toInt.toNat) (v := ((0 : Int32)).toInt8.toInt32) (fun q => hj q.2))))) (fP_tr (fP_l (fP_tr t10 f117 y1 (by show rC9 μ140 ≤ rC9 μ145; omega)) (fun j => xpi_ne (fun q => absurd q.1 (by decide))) (fun j => xpi_ne (fun q => absurd q.1 (by decide))) (xpi_ne (fun q => absurd q.1 (by decide)))) hfin (by show rC9 ω ≤ rC9 μ145; omega) (Int.le_refl _)) hc0' (Int.le_refl _) (by show rC9 ω ≤ rC9 μ145; omega)
          by_cases q2 : w ≤ 98
          · exact t3 w _ (by omega) q2
          · exact t4 w _ (by omega) h2 hj
        · show ((xpi _ _ _ _).1 96 ((rB μ).toNat + done.length)).toInt = 0
          rw [hbn, hN 96 _ (by decide)]; exact v96
        · show sg _ _ _ ((xpi _ _ _ _).1 99 ((rB μ).toNat + done.length)).toInt ((xpi _ _ _ _).1 100 ((rB μ).toNat + done.length)).toInt _
          rw [hbn, hN 99 _ (by decide), hN 100 _ (by decide), v99, v100]
          exact sg_f sC' hfin hc0' (Int.le_refl _) (Int.le_refl _)
    · replace c152 : ¬ (μ145.1 75 27).toInt ≤ 0 := c152
      obtain ⟨rfl, hμ⟩ := tx_return h em226_155
      have HT := ht140
      obtain ⟨⟨t1, t2⟩, ⟨t3, t4, t5, t6⟩, t7, t8, t9, t10, t11⟩ := HT
      obtain ⟨⟨⟨⟨u1, u2, u3⟩, u4, u5, u6⟩, p2⟩, p3, p4⟩ := hp145
      obtain ⟨⟨a1, a2⟩, ⟨b1, b2, b3⟩, c, ⟨d1, d2, d3, d4⟩, ⟨e1, e2, e3⟩, f⟩ := hL
      obtain ⟨y1, y2, y3, y4, y5⟩ := t9
      have y1 : rC9 ω ≤ rC9 μ140 := y1
      have y2 : rF μ140 = 0 → rC9 μ140 ≤ rC9 ω + (rT μ140 - rT ω) := y2
      have y3 : rC9 μ140 ≤ rC9 ω + (rT μ140 - rT ω) + 1 := y3
      have y4 : rT ω ≤ rT μ140 := y4
      have t7 : rB μ140 = rB ω + 1 := t7
      have t8 : 0 ≤ rF μ140 ∧ (0 < rF ω → 0 < rF μ140 ∧ rC9 μ140 = rC9 ω ∧ rT μ140 = rT ω) := t8
      have eB : rB μ145 = rB ω + 1 := by
        have : rB μ145 = rB μ140 := by unfold rB; rw [u3]
        omega
      have eC : rC9 μ145 = rC9 μ140 := by unfold rC9; rw [u6]
      have q94 : ∀ j, μ145.1 94 j = μ.1 94 j := fun j => (u2 94 j (by decide) (by decide)).trans ((t3 94 j (by decide) (by decide)).trans ((xpi_ne (fun q => absurd q.1 (by decide))).trans (b1 j)))
      have q95 : ∀ j, μ145.1 95 j = μ.1 95 j := fun j => (u2 95 j (by decide) (by decide)).trans ((t3 95 j (by decide) (by decide)).trans ((xpi_ne (fun q => absurd q.1 (by decide))).trans (b2 j)))
      have q96 : ∀ (w j : Nat), 96 ≤ w → w ≤ 100 → ((j : Int) < rB μ ∨ rB μ145 ≤ j) → μ145.1 w j = μ.1 w j := fun w j h1 h2 h3 => by
        have hj : ¬ j = (rB ω).toNat := by omega
        refine (u2 w j (by omega) h2).trans (Eq.trans ?_ ((xpi_ne (μ := ω) (a := 96) (i := (ω.1 75 43).toInt.toNat) (v := ((0 : Int32)).toInt8.toInt32) (fun q => hj q.2)).trans (b3 w j h1 h2 (by omega))))
        by_cases q : w ≤ 98
        · exact t3 w j (by omega) q
        · exact t4 w j (by omega) h2 hj
      have hEz : rE μ μ145 := rE_tr a2 (rE_tr (rE_c rE_rf (by decide)) (rE_tr t2 p2))
      have hfp : fP μ μ145 := fP_e (fP_tr c (fP_l t10 (fun j => xpi_ne (fun q => absurd q.1 (by decide))) (fun j => xpi_ne (fun q => absurd q.1 (by decide))) (xpi_ne (fun q => absurd q.1 (by decide)))) d1 y1) u4 u5 u6
      have n1 : rC9 μ ≤ rC9 μ145 ∧ rB μ ≤ rB μ145 ∧ rC9 μ145 ≤ rC9 μ + (rT μ145 - rT μ) + 1 ∧ 4 * (rB μ145 - rB μ) ≤ (rT μ145 - rT μ) + 9 := by
        refine ⟨by omega, by omega, ?_, by omega⟩
        by_cases q : rF ω = 0
        · have := (f q).1
          omega
        · have := t8.2 (by omega)
          omega
      rw [hμ]
      have hz : 0 < rF μ145 := by unfold rF; omega
      exact ⟨rfl, ⟨u1, hEz, by omega⟩, q96, hfp, n1, ⟨by omega, by omega⟩, fun _ j => ⟨q94 j, q95 j⟩, fun q => by exfalso; omega⟩
  have h12 : eT xq_226 n 12 [some (.inr (.inl (some 75))), some (.inl k), some (.inl f0), some (.inl ifs)] [] ω r μ' → (r = none ∧ rlZ k μ μ') := by
    intro h
    replace h := tx_aload_n (p' := 13) h em226_12 rfl rfl
    replace h := tx_getf (c := 12) (j := 27) (p' := 16) h em226_13 ((congrFun xo_12 200).trans rfl) rfl rfl (by decide) rfl
    rcases tx_if (t := 129) (p' := 19) h em226_16 (by decide) rfl with ⟨c16, h⟩ | ⟨c16, h⟩
    · replace c16 : ¬ (ω.1 75 27).toInt = 0 := c16
      exact h129 h (fun q q2 => by unfold rF at q; omega)
    · replace c16 : ¬ ¬ (ω.1 75 27).toInt = 0 := c16
      replace h := tx_aload_n (p' := 20) h em226_19 rfl rfl
      replace h := tx_bipush (v := 29) (p' := 22) h em226_20 (by decide +kernel) rfl
      obtain ⟨r22, μ22, hE22, h⟩ := tx_invV (na := 2) (mn := 149) (as := [.inr (.inl (some 75)), .inl (29 : Int32)]) (rest := []) (p' := 25) h em226_22 ((congrFun xo_12 218).trans rfl) xm_149 rfl rfl
      obtain ⟨hm, ⟨rfl, i221, i222, i223⟩ | ⟨rfl, i221⟩⟩ := ex_is hE22 (by decide)
      · rw [hm] at h
        replace h : eT xq_226 _ 25 [some (.inr (.inl (some 75))), some (.inl k), some (.inl f0), some (.inl ifs)] [.inl (1 : Int32)] ω r μ' := h
        rcases tx_if (t := 129) (p' := 28) h em226_25 (by decide) rfl with ⟨c25, h⟩ | ⟨c25, h⟩
        · replace c25 : (1 : Int) = (0 : Int) := c25
          exfalso
          omega
        · replace c25 : ¬ (1 : Int) = (0 : Int) := c25
          replace h := tx_iload_n (p' := 29) h em226_28 rfl rfl
          replace h := tx_iconst (v := 4) (p' := 30) h em226_29 (by decide +kernel) rfl
          rcases tx_icmp (t := 38) (p' := 33) h em226_30 (by decide) rfl with ⟨c30, h⟩ | ⟨c30, h⟩
          · replace c30 : ¬ ifs.toInt = 4 := c30
            replace h := tx_aload_n (p' := 39) h em226_38 rfl rfl
            replace h := tx_getf (c := 12) (j := 27) (p' := 42) h em226_39 ((congrFun xo_12 200).trans rfl) rfl rfl (by decide) rfl
            rcases tx_if (t := 46) (p' := 45) h em226_42 (by decide) rfl with ⟨c42, h⟩ | ⟨c42, h⟩
            · replace c42 : (ω.1 75 27).toInt ≤ 0 := c42
              exact h46 h i221 (i222.trans (by decide)) (by omega)
            · replace c42 : ¬ (ω.1 75 27).toInt ≤ 0 := c42
              obtain ⟨rfl, hμ⟩ := tx_return h em226_45
              exfalso
              unfold rF at *
              omega
          · replace c30 : ¬ ¬ ifs.toInt = 4 := c30
            replace h := tx_aload_n (p' := 34) h em226_33 rfl rfl
            replace h := tx_iconst (v := 2) (p' := 35) h em226_34 (by decide +kernel) rfl
            obtain ⟨r35, μ35, hE35, h⟩ := tx_invV (na := 2) (mn := 133) (as := [.inr (.inl (some 75)), .inl (2 : Int32)]) (rest := []) (p' := 38) h em226_35 ((congrFun xo_12 215).trans rfl) xm_133 rfl rfl
            obtain ⟨rfl, hp35⟩ := ex_faW hE35 (by decide) hL.1.1
            replace h : eT xq_226 _ 38 [some (.inr (.inl (some 75))), some (.inl k), some (.inl f0), some (.inl ifs)] [] μ35 r μ' := h
            replace h := tx_aload_n (p' := 39) h em226_38 rfl rfl
            replace h := tx_getf (c := 12) (j := 27) (p' := 42) h em226_39 ((congrFun xo_12 200).trans rfl) rfl rfl (by decide) rfl
            rcases tx_if (t := 46) (p' := 45) h em226_42 (by decide) rfl with ⟨c42_1, h⟩ | ⟨c42_1, h⟩
            · replace c42_1 : (μ35.1 75 27).toInt ≤ 0 := c42_1
              have hz : 0 < rF μ35 := by
                rcases hp35.2.2 with ⟨a, b⟩ | ⟨a, b, c⟩
                · exact b
                · exfalso
                  have := (ex_fl3 hE35 (by decide)).1
                  omega
              exfalso
              unfold rF at hz
              omega
            · replace c42_1 : ¬ (μ35.1 75 27).toInt ≤ 0 := c42_1
              obtain ⟨rfl, hμ⟩ := tx_return h em226_45
              have hz : 0 < rF μ35 := by
                rcases hp35.2.2 with ⟨a, b⟩ | ⟨a, b, c⟩
                · exact b
                · exfalso
                  have := (ex_fl3 hE35 (by decide)).1
                  omega
              rw [hμ]
              exact ⟨rfl, lI_out hL hp35 hz⟩
      · rw [hm] at h
        replace h : eT xq_226 _ 25 [some (.inr (.inl (some 75))), some (.inl k), some (.inl f0), some (.inl ifs)] [.inl (0 : Int32)] ω r μ' := h
        rcases tx_if (t := 129) (p' := 28) h em226_25 (by decide) rfl with ⟨c25_1, h⟩ | ⟨c25_1, h⟩
        · replace c25_1 : (0 : Int) = (0 : Int) := c25_1
          exact h129 h (fun q q2 => i221 ⟨q, q2.trans (by decide)⟩)
        · replace c25_1 : ¬ (0 : Int) = (0 : Int) := c25_1
          exfalso
          omega
  exact h12 h
set_option maxRecDepth 10000 in
set_option maxHeartbeats 4000000 in
theorem ex_lawW {k : Int32} {μ μ' : xM} {r : Option zV} (h0 : Ex gx xq_226 [.inr (.inl (some 75)), .inl k] μ r μ') (hwt : 0 ≤ rT μ) (h4 : rT μ ≤ 400) (hF : 0 ≤ rF μ) (hq : rF μ = 0 → rQ μ = 0) (hc0' : 0 ≤ rC9 μ) (hb0' : 0 ≤ rB μ) (hsd : 0 ≤ (μ.1 75 32).toInt ∧ (μ.1 75 32).toInt ≤ 1) (hk4 : 0 ≤ k.toInt ∧ k.toInt ≤ 3) (hO : hOK μ) : (r = none ∧ rlZ k μ μ') := by
  obtain ⟨n, h⟩ := tx_in (L := [some (.inr (.inl (some 75))), some (.inl k), none, none]) h0 rfl
  replace h := tx_aload_n (p' := 1) h em226_0 rfl rfl
  replace h := tx_iconst (v := 5) (p' := 2) h em226_1 (by decide +kernel) rfl
  obtain ⟨r2, μ2, hE2, h⟩ := tx_invV (na := 2) (mn := 169) (as := [.inr (.inl (some 75)), .inl (5 : Int32)]) (rest := []) (p' := 5) h em226_2 ((congrFun xo_12 258).trans rfl) xm_169 rfl rfl
  obtain ⟨rfl, hp2⟩ := ex_muW hE2 (by decide) hwt h4 hF hO
  replace h : eT xq_226 _ 5 [some (.inr (.inl (some 75))), some (.inl k), none, none] [] μ2 r μ' := h
  replace h := tx_aload_n (p' := 6) h em226_5 rfl rfl
  replace h := tx_getf (c := 12) (j := 43) (p' := 9) h em226_6 ((congrFun xo_12 239).trans rfl) rfl rfl (by decide) rfl
  replace h := tx_istore_n (p' := 10) h em226_9 rfl
  replace h : eT xq_226 _ 10 [some (.inr (.inl (some 75))), some (.inl k), some (.inl (μ2.1 75 43)), none] [] μ2 r μ' := h
  replace h := tx_iconst (v := 0) (p' := 11) h em226_10 (by decide +kernel) rfl
  replace h := tx_istore_n (p' := 12) h em226_11 rfl
  replace h : eT xq_226 _ 12 [some (.inr (.inl (some 75))), some (.inl k), some (.inl (μ2.1 75 43)), some (.inl (0 : Int32))] [] μ2 r μ' := h
  obtain ⟨⟨⟨⟨u1, u2, u3⟩, u4, u5, u6⟩, p2⟩, p3, p4⟩ := hp2
  have eB : rB μ2 = rB μ := by unfold rB; rw [u3]
  have eC : rC9 μ2 = rC9 μ := by unfold rC9; rw [u6]
  refine law_loop2 hwt hc0' hb0' hsd hk4 _ _ _ 4 _ h (by decide) (by decide) ⟨⟨u1, p2⟩, ⟨fun j => u2 94 j (by decide) (by decide), fun j => u2 95 j (by decide) (by decide), fun w j h1 h2 _ => u2 w j (by omega) h2⟩, fP_e fP_rf u4 u5 u6, ⟨by omega, by omega, by omega, by omega⟩, ⟨by omega, by omega, by omega⟩, fun q => ?_⟩ eB
  have hT : rT μ2 = rT μ + 1 := by
    rcases p4 with ⟨a, b⟩ | ⟨a, b, c⟩
    · exfalso; omega
    · exact a
  refine ⟨⟨by omega, by omega, by rw [p3]; exact hq (by omega)⟩, Exists.intro [] ⟨by rw [eB]; exact (Int.add_zero _).symm, fun i hi => absurd hi (Nat.not_lt_zero i), ?_⟩⟩
  rw [hT]
  rfl
