theorem pCl_hi {S : kSt} (hW : kWf S) {v : Nat} {ρ : Nat → Int32} : ∀ k, k ≤ (kV S v).1.length → (∀ i, i < k → (ρ (330 + 8 * v + i)).toInt ≤ 4) → ∀ j, 80 ≤ j → pCl S v k ρ j = ρ j
  | 0, _, _, _, _ => rfl
  | k + 1, hk, hf, j, hj => by
    have ih := pCl_hi hW k (by omega) (fun i hi => hf i (by omega))
    have e := ih (330 + 8 * v + k) (by omega)
    have h4 := hf k (Nat.lt_succ_self k)
    have hw := (wl_b hW (v := v) (k := k) (by omega)).2
    show (if 0 ≤ (pCl S v k ρ (330 + 8 * v + k)).toInt then pUp (pCl S v k ρ) (40 + (8 * (pCl S v k ρ (330 + 8 * v + k)).toInt.toNat + wl S v k)) _ else pCl S v k ρ) j = ρ j
    by_cases q : 0 ≤ (pCl S v k ρ (330 + 8 * v + k)).toInt
    · rw [if_pos q, pUp_ne (by rw [e]; omega)]; exact ih j hj
    · rw [if_neg q]; exact ih j hj
theorem pSt_no {S : kSt} {v k n : Nat} {ρ : Nat → Int32} (h : pSt S v k ρ = none) (hk : k ≤ n) : pSt S v n ρ = none := by
  induction n with
  | zero => rw [show k = 0 by omega] at h; exact h
  | succ n ih =>
    by_cases e : k = n + 1
    · rw [e] at h; exact h
    · show (pSt S v n ρ).bind _ = none
      rw [ih (by omega)]; rfl
theorem gvR_b {H : Nat} {lv : Nat → Prop} {fr rk : Nat → Int32} {x : Int} (h : gvR H lv fr rk x) : -1 ≤ x ∧ x < H := by
  rcases h with ⟨a, -⟩ | ⟨b, a, c, -⟩
  · omega
  · have := c.1; omega
set_option maxRecDepth 10000 in
set_option maxHeartbeats 4000000 in
theorem ex_clears {v : Int32} {vn s : Nat} {S : kSt} {μ μ' : xM} {r : Option zV} (h0 : Ex gx xq_128 [.inr (.inl (some 75)), .inl v] μ r μ') (hS : rS9 S s μ) (hv : v.toInt = (vn : Int)) (hvn : vn < S.2.1.length) (hf : ∀ i, i < (kV S vn).1.length → (μ.1 108 (330 + 8 * vn + i)).toInt ≤ 4) : r = none ∧ gR μ μ' ∧ (fun x => μ'.1 108 x) = pCl S vn (kV S vn).1.length (fun x => μ.1 108 x) := by
  obtain ⟨n, h⟩ := tx_in (L := [some (.inr (.inl (some 75))), some (.inl v), none]) h0 rfl
  have e1i : (1 : Int32).toInt = 1 := by decide
  have loop : ∀ (n k : Nat) (i : Int32) (ω : xM), eT xq_128 n 2 [some (.inr (.inl (some 75))), some (.inl v), some (.inl i)] [] ω r μ' → i.toInt = (k : Int) → k ≤ (kV S vn).1.length → gR μ ω → (fun x => ω.1 108 x) = pCl S vn k (fun x => μ.1 108 x) → r = none ∧ gR μ μ' ∧ (fun x => μ'.1 108 x) = pCl S vn (kV S vn).1.length (fun x => μ.1 108 x) := by
    intro n
    induction n using Nat.strongRecOn with
    | ind n ih =>
    intro k i ω h hi hk hG eρ
    have hSω := rS9_R hS hG
    have hwl9 := (kWf_V hS.1.1 vn).1
    have e7i : (7 : Int32).toInt = 7 := by decide
    have e8i : (8 : Int32).toInt = 8 := by decide
    have e40 : (40 : Int32).toInt = 40 := by decide
    have e330 : (330 : Int32).toInt = 330 := by decide
    have h7 := hS.1.1.2.1
    have s2 := hSω.2.1
    have m7 : ((7 : Int32) * (ω.1 75 2)).toInt = 7 * (s : Int) := by rw [an_mul (by rw [e7i]; omega) (by rw [e7i]; omega), e7i, s2.2]
    have m8 : (((7 : Int32) * (ω.1 75 2)) + v).toInt = 7 * (s : Int) + vn := by rw [an_add (by rw [m7]; omega) (by rw [m7]; omega), m7, hv]
    have m9 : (((7 : Int32) * (ω.1 75 2)) + v).toInt.toNat = 7 * s + vn := by omega
    have n8 : ((8 : Int32) * v).toInt = 8 * (vn : Int) := by rw [an_mul (by rw [e8i]; omega) (by rw [e8i]; omega), e8i, hv]
    have n9 : ((330 : Int32) + ((8 : Int32) * v)).toInt = 330 + 8 * (vn : Int) := by rw [an_add (by rw [n8, e330]; omega) (by rw [n8, e330]; omega), n8, e330]
    have na : (((330 : Int32) + ((8 : Int32) * v)) + i).toInt.toNat = 330 + 8 * vn + k := by
      have : (((330 : Int32) + ((8 : Int32) * v)) + i).toInt = 330 + 8 * (vn : Int) + k := by rw [an_add (by rw [n9]; omega) (by rw [n9]; omega), n9, hi]
      omega
    have q8 : ((8 : Int32) * (((7 : Int32) * (ω.1 75 2)) + v)).toInt = 8 * (7 * (s : Int) + vn) := by rw [an_mul (by rw [e8i, m8]; omega) (by rw [e8i, m8]; omega), e8i, m8]
    have q9 : (((8 : Int32) * (((7 : Int32) * (ω.1 75 2)) + v)) + i).toInt.toNat = 8 * (7 * s + vn) + k := by
      have : (((8 : Int32) * (((7 : Int32) * (ω.1 75 2)) + v)) + i).toInt = 8 * (7 * (s : Int) + vn) + k := by rw [an_add (by rw [q8]; omega) (by rw [q8]; omega), q8, hi]
      omega
    have ei : (i + 1).toInt = ((k + 1 : Nat) : Int) := by rw [an_add (by rw [e1i]; omega) (by rw [e1i]; omega), e1i]; omega
    have hlen : (ω.1 87 (((7 : Int32) * (ω.1 75 2)) + v).toInt.toNat).toInt = ((kV S vn).1.length : Int) := by
      rw [m9]; exact (hSω.2.2.1.2.2 vn hvn).1
    have hwl8 := (kWf_V hS.1.1 vn).1
    replace h := tx_iload_n (p' := 3) h em128_2 rfl rfl
    replace h := tx_aload_n (p' := 4) h em128_3 rfl rfl
    replace h := tx_getc (c := 12) (j := 36) (p' := 7) h em128_4 ((congrFun xo_12 52).trans rfl) rfl rfl rfl
    replace h := tx_bipush (v := 7) (p' := 9) h em128_7 (by decide +kernel) rfl
    replace h := tx_aload_n (p' := 10) h em128_9 rfl rfl
    replace h := tx_getf (c := 12) (j := 2) (p' := 13) h em128_10 ((congrFun xo_12 230).trans rfl) rfl rfl (by decide) rfl
    replace h := tx_imul (p' := 14) h em128_13 rfl
    replace h := tx_iload_n (p' := 15) h em128_14 rfl rfl
    replace h := tx_iadd (p' := 16) h em128_15 rfl
    obtain ⟨hb16, h⟩ := tx_iald (len := 14) (p' := 17) h em128_16 rfl rfl
    replace hb16 : (0 : Int) ≤ (((7 : Int32) * (ω.1 75 2)) + v).toInt ∧ (((7 : Int32) * (ω.1 75 2)) + v).toInt < 14 := hb16
    rcases tx_icmp (t := 94) (p' := 20) h em128_17 (by decide) rfl with ⟨c17, h⟩ | ⟨c17, h⟩
    · replace c17 : (ω.1 87 (((7 : Int32) * (ω.1 75 2)) + v).toInt.toNat).toInt ≤ i.toInt := c17
      obtain ⟨rfl, hμ⟩ := tx_return h em128_94
      rw [hμ]
      have ek : k = (kV S vn).1.length := by omega
      rw [ek] at eρ
      exact ⟨rfl, hG, eρ⟩
    · replace c17 : ¬ (ω.1 87 (((7 : Int32) * (ω.1 75 2)) + v).toInt.toNat).toInt ≤ i.toInt := c17
      replace h := tx_aload_n (p' := 21) h em128_20 rfl rfl
      replace h := tx_getc (c := 12) (j := 0) (p' := 24) h em128_21 ((congrFun xo_12 116).trans rfl) rfl rfl rfl
      replace h := tx_sipush (v := 330) (p' := 27) h em128_24 (by decide +kernel) rfl
      replace h := tx_bipush (v := 8) (p' := 29) h em128_27 (by decide +kernel) rfl
      replace h := tx_iload_n (p' := 30) h em128_29 rfl rfl
      replace h := tx_imul (p' := 31) h em128_30 rfl
      replace h := tx_iadd (p' := 32) h em128_31 rfl
      replace h := tx_iload_n (p' := 33) h em128_32 rfl rfl
      replace h := tx_iadd (p' := 34) h em128_33 rfl
      obtain ⟨hb34, h⟩ := tx_iald (len := 390) (p' := 35) h em128_34 rfl rfl
      replace hb34 : (0 : Int) ≤ (((330 : Int32) + ((8 : Int32) * v)) + i).toInt ∧ (((330 : Int32) + ((8 : Int32) * v)) + i).toInt < 390 := hb34
      rcases tx_if (t := 88) (p' := 38) h em128_35 (by decide) rfl with ⟨c35, h⟩ | ⟨c35, h⟩
      · replace c35 : (ω.1 108 (((330 : Int32) + ((8 : Int32) * v)) + i).toInt.toNat).toInt < 0 := c35
        replace h := tx_iinc (v := 1) (p' := 91) h em128_88 (by decide +kernel) rfl rfl
        replace h : eT xq_128 _ 91 [some (.inr (.inl (some 75))), some (.inl v), some (.inl (i + 1))] [] ω r μ' := h
        obtain ⟨n2, hn2, h⟩ := tx_gotoS (t := 2) h em128_91 (by decide)
        have hkl : k < (kV S vn).1.length := by omega
        have ek : ω.1 108 (330 + 8 * vn + k) = pCl S vn k (fun x => μ.1 108 x) (330 + 8 * vn + k) := congrFun eρ _
        rw [na] at c35
        refine ih n2 hn2 (k + 1) _ _ h ei (by omega) hG (eρ.trans ?_)
        show _ = if 0 ≤ (pCl S vn k (fun x => μ.1 108 x) (330 + 8 * vn + k)).toInt then _ else _
        rw [← ek, if_neg (by omega)]
      · replace c35 : ¬ (ω.1 108 (((330 : Int32) + ((8 : Int32) * v)) + i).toInt.toNat).toInt < 0 := c35
        replace h := tx_aload_n (p' := 39) h em128_38 rfl rfl
        replace h := tx_getc (c := 12) (j := 0) (p' := 42) h em128_39 ((congrFun xo_12 116).trans rfl) rfl rfl rfl
        replace h := tx_bipush (v := 40) (p' := 44) h em128_42 (by decide +kernel) rfl
        replace h := tx_bipush (v := 8) (p' := 46) h em128_44 (by decide +kernel) rfl
        replace h := tx_aload_n (p' := 47) h em128_46 rfl rfl
        replace h := tx_getc (c := 12) (j := 0) (p' := 50) h em128_47 ((congrFun xo_12 116).trans rfl) rfl rfl rfl
        replace h := tx_sipush (v := 330) (p' := 53) h em128_50 (by decide +kernel) rfl
        replace h := tx_bipush (v := 8) (p' := 55) h em128_53 (by decide +kernel) rfl
        replace h := tx_iload_n (p' := 56) h em128_55 rfl rfl
        replace h := tx_imul (p' := 57) h em128_56 rfl
        replace h := tx_iadd (p' := 58) h em128_57 rfl
        replace h := tx_iload_n (p' := 59) h em128_58 rfl rfl
        replace h := tx_iadd (p' := 60) h em128_59 rfl
        obtain ⟨hb60, h⟩ := tx_iald (len := 390) (p' := 61) h em128_60 rfl rfl
        replace hb60 : (0 : Int) ≤ (((330 : Int32) + ((8 : Int32) * v)) + i).toInt ∧ (((330 : Int32) + ((8 : Int32) * v)) + i).toInt < 390 := hb60
        replace h := tx_imul (p' := 62) h em128_61 rfl
        replace h := tx_iadd (p' := 63) h em128_62 rfl
        replace h := tx_aload_n (p' := 64) h em128_63 rfl rfl
        replace h := tx_getc (c := 12) (j := 37) (p' := 67) h em128_64 ((congrFun xo_12 55).trans rfl) rfl rfl rfl
        replace h := tx_bipush (v := 8) (p' := 69) h em128_67 (by decide +kernel) rfl
        replace h := tx_bipush (v := 7) (p' := 71) h em128_69 (by decide +kernel) rfl
        replace h := tx_aload_n (p' := 72) h em128_71 rfl rfl
        replace h := tx_getf (c := 12) (j := 2) (p' := 75) h em128_72 ((congrFun xo_12 230).trans rfl) rfl rfl (by decide) rfl
        replace h := tx_imul (p' := 76) h em128_75 rfl
        replace h := tx_iload_n (p' := 77) h em128_76 rfl rfl
        replace h := tx_iadd (p' := 78) h em128_77 rfl
        replace h := tx_imul (p' := 79) h em128_78 rfl
        replace h := tx_iload_n (p' := 80) h em128_79 rfl rfl
        replace h := tx_iadd (p' := 81) h em128_80 rfl
        obtain ⟨hb81, h⟩ := tx_iald (len := 112) (p' := 82) h em128_81 rfl rfl
        replace hb81 : (0 : Int) ≤ (((8 : Int32) * (((7 : Int32) * (ω.1 75 2)) + v)) + i).toInt ∧ (((8 : Int32) * (((7 : Int32) * (ω.1 75 2)) + v)) + i).toInt < 112 := hb81
        replace h := tx_iadd (p' := 83) h em128_82 rfl
        replace h := tx_dup2 (p' := 84) h em128_83 rfl
        obtain ⟨hb84, h⟩ := tx_iald (len := 390) (p' := 85) h em128_84 rfl rfl
        replace hb84 : (0 : Int) ≤ (((40 : Int32) + ((8 : Int32) * (ω.1 108 (((330 : Int32) + ((8 : Int32) * v)) + i).toInt.toNat))) + (ω.1 88 (((8 : Int32) * (((7 : Int32) * (ω.1 75 2)) + v)) + i).toInt.toNat)).toInt ∧ (((40 : Int32) + ((8 : Int32) * (ω.1 108 (((330 : Int32) + ((8 : Int32) * v)) + i).toInt.toNat))) + (ω.1 88 (((8 : Int32) * (((7 : Int32) * (ω.1 75 2)) + v)) + i).toInt.toNat)).toInt < 390 := hb84
        replace h := tx_iconst (v := 1) (p' := 86) h em128_85 (by decide +kernel) rfl
        replace h := tx_isub (p' := 87) h em128_86 rfl
        obtain ⟨hb87, h⟩ := tx_iast (len := 390) (p' := 88) h em128_87 rfl rfl
        replace hb87 : (0 : Int) ≤ (((40 : Int32) + ((8 : Int32) * (ω.1 108 (((330 : Int32) + ((8 : Int32) * v)) + i).toInt.toNat))) + (ω.1 88 (((8 : Int32) * (((7 : Int32) * (ω.1 75 2)) + v)) + i).toInt.toNat)).toInt ∧ (((40 : Int32) + ((8 : Int32) * (ω.1 108 (((330 : Int32) + ((8 : Int32) * v)) + i).toInt.toNat))) + (ω.1 88 (((8 : Int32) * (((7 : Int32) * (ω.1 75 2)) + v)) + i).toInt.toNat)).toInt < 390 := hb87
        replace h := tx_iinc (v := 1) (p' := 91) h em128_88 (by decide +kernel) rfl rfl
        replace h : eT xq_128 _ 91 [some (.inr (.inl (some 75))), some (.inl v), some (.inl (i + 1))] [] (xpi ω 108 (((40 : Int32) + ((8 : Int32) * (ω.1 108 (((330 : Int32) + ((8 : Int32) * v)) + i).toInt.toNat))) + (ω.1 88 (((8 : Int32) * (((7 : Int32) * (ω.1 75 2)) + v)) + i).toInt.toNat)).toInt.toNat ((ω.1 108 (((40 : Int32) + ((8 : Int32) * (ω.1 108 (((330 : Int32) + ((8 : Int32) * v)) + i).toInt.toNat))) + (ω.1 88 (((8 : Int32) * (((7 : Int32) * (ω.1 75 2)) + v)) + i).toInt.toNat)).toInt.toNat) - (1 : Int32))) r μ' := h
        obtain ⟨n2, hn2, h⟩ := tx_gotoS (t := 2) h em128_91 (by decide)
        have hkl : k < (kV S vn).1.length := by omega
        have ek : ω.1 108 (330 + 8 * vn + k) = pCl S vn k (fun x => μ.1 108 x) (330 + 8 * vn + k) := congrFun eρ _
        rw [na] at c35
        have hf4 : (ω.1 108 (330 + 8 * vn + k)).toInt ≤ 4 := by
          rw [ek, pCl_hi hS.1.1 k hk (fun i hi => hf i (by omega)) _ (by omega)]
          exact hf k hkl
        obtain ⟨w1, w2⟩ := wl_b hS.1.1 (v := vn) hkl
        have hw : (ω.1 88 (8 * (7 * s + vn) + k)).toInt = (wl S vn k : Int) := ((hSω.2.2.1.2.2 vn hvn).2.1 k hkl).trans w1
        rw [na, q9] at h
        have t1 : ((8 : Int32) * (ω.1 108 (330 + 8 * vn + k))).toInt = 8 * (ω.1 108 (330 + 8 * vn + k)).toInt := by rw [an_mul (by rw [e8i]; omega) (by rw [e8i]; omega), e8i]
        have t2 : ((40 : Int32) + ((8 : Int32) * (ω.1 108 (330 + 8 * vn + k)))).toInt = 40 + 8 * (ω.1 108 (330 + 8 * vn + k)).toInt := by rw [an_add (by rw [e40, t1]; omega) (by rw [e40, t1]; omega), e40, t1]
        have t3 : (((40 : Int32) + ((8 : Int32) * (ω.1 108 (330 + 8 * vn + k)))) + (ω.1 88 (8 * (7 * s + vn) + k))).toInt.toNat = 40 + (8 * (ω.1 108 (330 + 8 * vn + k)).toInt.toNat + wl S vn k) := by
          have : (((40 : Int32) + ((8 : Int32) * (ω.1 108 (330 + 8 * vn + k)))) + (ω.1 88 (8 * (7 * s + vn) + k))).toInt = 40 + 8 * (ω.1 108 (330 + 8 * vn + k)).toInt + wl S vn k := by rw [an_add (by rw [t2, hw]; omega) (by rw [t2, hw]; omega), t2, hw]
          omega
        rw [t3] at h
        refine ih n2 hn2 (k + 1) _ _ h ei (by omega) (gR_i hG) ?_
        rw [row_i, eρ]
        show _ = if 0 ≤ (pCl S vn k (fun x => μ.1 108 x) (330 + 8 * vn + k)).toInt then pUp (pCl S vn k (fun x => μ.1 108 x)) (40 + (8 * (pCl S vn k (fun x => μ.1 108 x) (330 + 8 * vn + k)).toInt.toNat + wl S vn k)) (pCl S vn k (fun x => μ.1 108 x) (40 + (8 * (pCl S vn k (fun x => μ.1 108 x) (330 + 8 * vn + k)).toInt.toNat + wl S vn k)) - 1) else _
        rw [← ek, if_pos (by omega), ← congrFun eρ (40 + (8 * (ω.1 108 (330 + 8 * vn + k)).toInt.toNat + wl S vn k))]
  replace h := tx_iconst (v := 0) (p' := 1) h em128_0 (by decide +kernel) rfl
  replace h := tx_istore_n (p' := 2) h em128_1 rfl
  replace h : eT xq_128 _ 2 [some (.inr (.inl (some 75))), some (.inl v), some (.inl (0 : Int32))] [] μ r μ' := h
  exact loop _ 0 _ _ h (by decide) (Nat.zero_le _) gR_rf rfl
set_option maxRecDepth 10000 in
set_option maxHeartbeats 4000000 in
theorem ex_sets {v : Int32} {vn s : Nat} {S : kSt} {μ μ' : xM} {r : Option zV} (h0 : Ex gx xq_185 [.inr (.inl (some 75)), .inl v] μ r μ') (hS : rS9 S s μ) (hv : v.toInt = (vn : Int)) (hvn : vn < S.2.1.length) (hsh : (μ.1 75 8).toInt = -1) : (r = some (.inl 1) ∧ gR μ μ' ∧ ∃ ρ', pSt S vn (kV S vn).1.length (pNo vn (fun x => μ.1 108 x)) = some ρ' ∧ (fun x => μ'.1 108 x) = pUp ρ' (320 + vn) 1) ∨ (r = some (.inl 0) ∧ gR μ μ' ∧ pSt S vn (kV S vn).1.length (pNo vn (fun x => μ.1 108 x)) = none) := by
  obtain ⟨n, h⟩ := tx_in (L := [some (.inr (.inl (some 75))), some (.inl v), none, none, none]) h0 rfl
  have e1i : (1 : Int32).toInt = 1 := by decide
  have hwl9 := (kWf_V hS.1.1 vn).1
  have loop2 : ∀ (n k : Nat) (i : Int32) (ω : xM) {o3 o4 : Option zV}, eT xq_185 n 32 [some (.inr (.inl (some 75))), some (.inl v), some (.inl i), o3, o4] [] ω r μ' → i.toInt = (k : Int) → k ≤ (kV S vn).1.length → gR μ ω → pSt S vn k (pNo vn (fun x => μ.1 108 x)) = some (fun x => ω.1 108 x) → (∀ i, i < 8 → (ω.1 108 (330 + 8 * vn + i)).toInt ≤ 4) → (r = some (.inl 1) ∧ gR μ μ' ∧ ∃ ρ', pSt S vn (kV S vn).1.length (pNo vn (fun x => μ.1 108 x)) = some ρ' ∧ (fun x => μ'.1 108 x) = pUp ρ' (320 + vn) 1) ∨ (r = some (.inl 0) ∧ gR μ μ' ∧ pSt S vn (kV S vn).1.length (pNo vn (fun x => μ.1 108 x)) = none) := by
    intro n
    induction n using Nat.strongRecOn with
    | ind n ih =>
    intro k i ω o3 o4 h hi hk hG hP hF
    have hSω := rS9_R hS hG
    have e7i : (7 : Int32).toInt = 7 := by decide
    have e8i : (8 : Int32).toInt = 8 := by decide
    have e40 : (40 : Int32).toInt = 40 := by decide
    have e330 : (330 : Int32).toInt = 330 := by decide
    have h7 := hS.1.1.2.1
    have s2 := hSω.2.1
    have m7 : ((7 : Int32) * (ω.1 75 2)).toInt = 7 * (s : Int) := by rw [an_mul (by rw [e7i]; omega) (by rw [e7i]; omega), e7i, s2.2]
    have m8 : (((7 : Int32) * (ω.1 75 2)) + v).toInt = 7 * (s : Int) + vn := by rw [an_add (by rw [m7]; omega) (by rw [m7]; omega), m7, hv]
    have m9 : (((7 : Int32) * (ω.1 75 2)) + v).toInt.toNat = 7 * s + vn := by omega
    have n8 : ((8 : Int32) * v).toInt = 8 * (vn : Int) := by rw [an_mul (by rw [e8i]; omega) (by rw [e8i]; omega), e8i, hv]
    have n9 : ((330 : Int32) + ((8 : Int32) * v)).toInt = 330 + 8 * (vn : Int) := by rw [an_add (by rw [n8, e330]; omega) (by rw [n8, e330]; omega), n8, e330]
    have na : (((330 : Int32) + ((8 : Int32) * v)) + i).toInt.toNat = 330 + 8 * vn + k := by
      have : (((330 : Int32) + ((8 : Int32) * v)) + i).toInt = 330 + 8 * (vn : Int) + k := by rw [an_add (by rw [n9]; omega) (by rw [n9]; omega), n9, hi]
      omega
    have q8 : ((8 : Int32) * (((7 : Int32) * (ω.1 75 2)) + v)).toInt = 8 * (7 * (s : Int) + vn) := by rw [an_mul (by rw [e8i, m8]; omega) (by rw [e8i, m8]; omega), e8i, m8]
    have q9 : (((8 : Int32) * (((7 : Int32) * (ω.1 75 2)) + v)) + i).toInt.toNat = 8 * (7 * s + vn) + k := by
      have : (((8 : Int32) * (((7 : Int32) * (ω.1 75 2)) + v)) + i).toInt = 8 * (7 * (s : Int) + vn) + k := by rw [an_add (by rw [q8]; omega) (by rw [q8]; omega), q8, hi]
      omega
    have ei : (i + 1).toInt = ((k + 1 : Nat) : Int) := by rw [an_add (by rw [e1i]; omega) (by rw [e1i]; omega), e1i]; omega
    have hlen : (ω.1 87 (((7 : Int32) * (ω.1 75 2)) + v).toInt.toNat).toInt = ((kV S vn).1.length : Int) := by
      rw [m9]; exact (hSω.2.2.1.2.2 vn hvn).1
    have hwl8 := (kWf_V hS.1.1 vn).1
    replace h := tx_iload_n (p' := 33) h em185_32 rfl rfl
    replace h := tx_aload_n (p' := 34) h em185_33 rfl rfl
    replace h := tx_getc (c := 12) (j := 36) (p' := 37) h em185_34 ((congrFun xo_12 52).trans rfl) rfl rfl rfl
    replace h := tx_bipush (v := 7) (p' := 39) h em185_37 (by decide +kernel) rfl
    replace h := tx_aload_n (p' := 40) h em185_39 rfl rfl
    replace h := tx_getf (c := 12) (j := 2) (p' := 43) h em185_40 ((congrFun xo_12 230).trans rfl) rfl rfl (by decide) rfl
    replace h := tx_imul (p' := 44) h em185_43 rfl
    replace h := tx_iload_n (p' := 45) h em185_44 rfl rfl
    replace h := tx_iadd (p' := 46) h em185_45 rfl
    obtain ⟨hb46, h⟩ := tx_iald (len := 14) (p' := 47) h em185_46 rfl rfl
    replace hb46 : (0 : Int) ≤ (((7 : Int32) * (ω.1 75 2)) + v).toInt ∧ (((7 : Int32) * (ω.1 75 2)) + v).toInt < 14 := hb46
    rcases tx_icmp (t := 132) (p' := 50) h em185_47 (by decide) rfl with ⟨c47, h⟩ | ⟨c47, h⟩
    · replace c47 : (ω.1 87 (((7 : Int32) * (ω.1 75 2)) + v).toInt.toNat).toInt ≤ i.toInt := c47
      replace h := tx_aload_n (p' := 133) h em185_132 rfl rfl
      replace h := tx_getc (c := 12) (j := 0) (p' := 136) h em185_133 ((congrFun xo_12 116).trans rfl) rfl rfl rfl
      replace h := tx_sipush (v := 320) (p' := 139) h em185_136 (by decide +kernel) rfl
      replace h := tx_iload_n (p' := 140) h em185_139 rfl rfl
      replace h := tx_iadd (p' := 141) h em185_140 rfl
      replace h := tx_iconst (v := 1) (p' := 142) h em185_141 (by decide +kernel) rfl
      obtain ⟨hb142, h⟩ := tx_iast (len := 390) (p' := 143) h em185_142 rfl rfl
      replace hb142 : (0 : Int) ≤ ((320 : Int32) + v).toInt ∧ ((320 : Int32) + v).toInt < 390 := hb142
      replace h := tx_iconst (v := 1) (p' := 144) h em185_143 (by decide +kernel) rfl
      obtain ⟨rfl, hμ⟩ := tx_ireturn h em185_144
      replace hμ : μ' = (xpi ω 108 ((320 : Int32) + v).toInt.toNat (1 : Int32)) := hμ
      have ek : k = (kV S vn).1.length := by omega
      rw [ek] at hP
      have e320 : (320 : Int32).toInt = 320 := by decide
      have ev : ((320 : Int32) + v).toInt.toNat = 320 + vn := by
        have : ((320 : Int32) + v).toInt = 320 + (vn : Int) := by rw [an_add (by rw [e320]; omega) (by rw [e320]; omega), e320, hv]
        omega
      rw [ev] at hμ
      rw [hμ]
      exact Or.inl ⟨rfl, gR_i hG, _, hP, row_i⟩
    · replace c47 : ¬ (ω.1 87 (((7 : Int32) * (ω.1 75 2)) + v).toInt.toNat).toInt ≤ i.toInt := c47
      replace h := tx_aload_n (p' := 51) h em185_50 rfl rfl
      replace h := tx_getc (c := 12) (j := 37) (p' := 54) h em185_51 ((congrFun xo_12 55).trans rfl) rfl rfl rfl
      replace h := tx_bipush (v := 8) (p' := 56) h em185_54 (by decide +kernel) rfl
      replace h := tx_bipush (v := 7) (p' := 58) h em185_56 (by decide +kernel) rfl
      replace h := tx_aload_n (p' := 59) h em185_58 rfl rfl
      replace h := tx_getf (c := 12) (j := 2) (p' := 62) h em185_59 ((congrFun xo_12 230).trans rfl) rfl rfl (by decide) rfl
      replace h := tx_imul (p' := 63) h em185_62 rfl
      replace h := tx_iload_n (p' := 64) h em185_63 rfl rfl
      replace h := tx_iadd (p' := 65) h em185_64 rfl
      replace h := tx_imul (p' := 66) h em185_65 rfl
      replace h := tx_iload_n (p' := 67) h em185_66 rfl rfl
      replace h := tx_iadd (p' := 68) h em185_67 rfl
      obtain ⟨hb68, h⟩ := tx_iald (len := 112) (p' := 69) h em185_68 rfl rfl
      replace hb68 : (0 : Int) ≤ (((8 : Int32) * (((7 : Int32) * (ω.1 75 2)) + v)) + i).toInt ∧ (((8 : Int32) * (((7 : Int32) * (ω.1 75 2)) + v)) + i).toInt < 112 := hb68
      replace h := tx_istore_n (p' := 70) h em185_69 rfl
      replace h : eT xq_185 _ 70 [some (.inr (.inl (some 75))), some (.inl v), some (.inl i), some (.inl (ω.1 88 (((8 : Int32) * (((7 : Int32) * (ω.1 75 2)) + v)) + i).toInt.toNat)), o4] [] ω r μ' := h
      replace h := tx_aload_n (p' := 71) h em185_70 rfl rfl
      replace h := tx_iload_n (p' := 72) h em185_71 rfl rfl
      replace h := tx_iload_n (p' := 73) h em185_72 rfl rfl
      obtain ⟨r73, μ73, hE73, h⟩ := tx_invV (na := 3) (mn := 141) (as := [.inr (.inl (some 75)), .inl (ω.1 88 (((8 : Int32) * (((7 : Int32) * (ω.1 75 2)) + v)) + i).toInt.toNat), .inl v]) (rest := []) (p' := 76) h em185_73 ((congrFun xo_12 377).trans rfl) xm_141 rfl rfl
      have hkl : k < (kV S vn).1.length := by omega
      obtain ⟨w1, w2⟩ := wl_b hS.1.1 (v := vn) hkl
      have w4 : (((8 : Int32) * (((7 : Int32) * (ω.1 75 2)) + v)) + i).toInt.toNat = 8 * (7 * s + vn) + k := q9
      have hw : (ω.1 88 (8 * (7 * s + vn) + k)).toInt = (wl S vn k : Int) := ((hSω.2.2.1.2.2 vn hvn).2.1 k hkl).trans w1
      rw [w4] at hE73
      obtain ⟨gx, rfl, hV, g2, e8⟩ := ex_giverOf hE73 hSω (by rw [hG.1 75 8 (by decide) (by decide) (by decide) (by omega)]; exact hsh) hw w2 hv hvn
      have hx := pGi_eq hV
      replace h : eT xq_185 _ 76 [some (.inr (.inl (some 75))), some (.inl v), some (.inl i), some (.inl (ω.1 88 (((8 : Int32) * (((7 : Int32) * (ω.1 75 2)) + v)) + i).toInt.toNat)), o4] [.inl gx] μ73 r μ' := h
      replace h := tx_istore (p' := 78) h em185_76 rfl
      replace h : eT xq_185 _ 78 [some (.inr (.inl (some 75))), some (.inl v), some (.inl i), some (.inl (ω.1 88 (((8 : Int32) * (((7 : Int32) * (ω.1 75 2)) + v)) + i).toInt.toNat)), some (.inl gx)] [] μ73 r μ' := h
      replace h := tx_iload (p' := 80) h em185_78 rfl rfl
      rcases tx_if (t := 90) (p' := 83) h em185_80 (by decide) rfl with ⟨c80, h⟩ | ⟨c80, h⟩
      · replace c80 : 0 ≤ gx.toInt := c80
        replace h := tx_aload_n (p' := 91) h em185_90 rfl rfl
        replace h := tx_getc (c := 12) (j := 0) (p' := 94) h em185_91 ((congrFun xo_12 116).trans rfl) rfl rfl rfl
        replace h := tx_sipush (v := 330) (p' := 97) h em185_94 (by decide +kernel) rfl
        replace h := tx_bipush (v := 8) (p' := 99) h em185_97 (by decide +kernel) rfl
        replace h := tx_iload_n (p' := 100) h em185_99 rfl rfl
        replace h := tx_imul (p' := 101) h em185_100 rfl
        replace h := tx_iadd (p' := 102) h em185_101 rfl
        replace h := tx_iload_n (p' := 103) h em185_102 rfl rfl
        replace h := tx_iadd (p' := 104) h em185_103 rfl
        replace h := tx_iload (p' := 106) h em185_104 rfl rfl
        obtain ⟨hb106, h⟩ := tx_iast (len := 390) (p' := 107) h em185_106 rfl rfl
        replace hb106 : (0 : Int) ≤ (((330 : Int32) + ((8 : Int32) * v)) + i).toInt ∧ (((330 : Int32) + ((8 : Int32) * v)) + i).toInt < 390 := hb106
        replace h := tx_aload_n (p' := 108) h em185_107 rfl rfl
        replace h := tx_getc (c := 12) (j := 0) (p' := 111) h em185_108 ((congrFun xo_12 116).trans rfl) rfl rfl rfl
        replace h := tx_bipush (v := 40) (p' := 113) h em185_111 (by decide +kernel) rfl
        replace h := tx_bipush (v := 8) (p' := 115) h em185_113 (by decide +kernel) rfl
        replace h := tx_iload (p' := 117) h em185_115 rfl rfl
        replace h := tx_imul (p' := 118) h em185_117 rfl
        replace h := tx_iadd (p' := 119) h em185_118 rfl
        replace h := tx_iload_n (p' := 120) h em185_119 rfl rfl
        replace h := tx_iadd (p' := 121) h em185_120 rfl
        replace h := tx_dup2 (p' := 122) h em185_121 rfl
        obtain ⟨hb122, h⟩ := tx_iald (len := 390) (p' := 123) h em185_122 rfl rfl
        replace hb122 : (0 : Int) ≤ (((40 : Int32) + ((8 : Int32) * gx)) + (ω.1 88 (((8 : Int32) * (((7 : Int32) * (ω.1 75 2)) + v)) + i).toInt.toNat)).toInt ∧ (((40 : Int32) + ((8 : Int32) * gx)) + (ω.1 88 (((8 : Int32) * (((7 : Int32) * (ω.1 75 2)) + v)) + i).toInt.toNat)).toInt < 390 := hb122
        replace h := tx_iconst (v := 1) (p' := 124) h em185_123 (by decide +kernel) rfl
        replace h := tx_iadd (p' := 125) h em185_124 rfl
        obtain ⟨hb125, h⟩ := tx_iast (len := 390) (p' := 126) h em185_125 rfl rfl
        replace hb125 : (0 : Int) ≤ (((40 : Int32) + ((8 : Int32) * gx)) + (ω.1 88 (((8 : Int32) * (((7 : Int32) * (ω.1 75 2)) + v)) + i).toInt.toNat)).toInt ∧ (((40 : Int32) + ((8 : Int32) * gx)) + (ω.1 88 (((8 : Int32) * (((7 : Int32) * (ω.1 75 2)) + v)) + i).toInt.toNat)).toInt < 390 := hb125
        replace h := tx_iinc (v := 1) (p' := 129) h em185_126 (by decide +kernel) rfl rfl
        replace h : eT xq_185 _ 129 [some (.inr (.inl (some 75))), some (.inl v), some (.inl (i + 1)), some (.inl (ω.1 88 (((8 : Int32) * (((7 : Int32) * (ω.1 75 2)) + v)) + i).toInt.toNat)), some (.inl gx)] [] (xpi (xpi μ73 108 (((330 : Int32) + ((8 : Int32) * v)) + i).toInt.toNat gx) 108 (((40 : Int32) + ((8 : Int32) * gx)) + (ω.1 88 (((8 : Int32) * (((7 : Int32) * (ω.1 75 2)) + v)) + i).toInt.toNat)).toInt.toNat (((xpi μ73 108 (((330 : Int32) + ((8 : Int32) * v)) + i).toInt.toNat gx).1 108 (((40 : Int32) + ((8 : Int32) * gx)) + (ω.1 88 (((8 : Int32) * (((7 : Int32) * (ω.1 75 2)) + v)) + i).toInt.toNat)).toInt.toNat) + (1 : Int32))) r μ' := h
        obtain ⟨n2, hn2, h⟩ := tx_gotoS (t := 32) h em185_129 (by decide)
        have hb := gvR_b hV
        have hH5 := hS.1.1.1
        have g0 : 0 ≤ gx.toInt ∧ gx.toInt ≤ 4 := by omega
        rw [na, w4] at h
        have t1 : ((8 : Int32) * gx).toInt = 8 * gx.toInt := by rw [an_mul (by rw [e8i]; omega) (by rw [e8i]; omega), e8i]
        have t2 : ((40 : Int32) + ((8 : Int32) * gx)).toInt = 40 + 8 * gx.toInt := by rw [an_add (by rw [e40, t1]; omega) (by rw [e40, t1]; omega), e40, t1]
        have t3 : (((40 : Int32) + ((8 : Int32) * gx)) + (ω.1 88 (8 * (7 * s + vn) + k))).toInt.toNat = 40 + (8 * gx.toInt.toNat + wl S vn k) := by
          have : (((40 : Int32) + ((8 : Int32) * gx)) + (ω.1 88 (8 * (7 * s + vn) + k))).toInt = 40 + 8 * gx.toInt + wl S vn k := by rw [an_add (by rw [t2, hw]; omega) (by rw [t2, hw]; omega), t2, hw]
          omega
        rw [t3] at h
        have hne : ¬ 40 + (8 * gx.toInt.toNat + wl S vn k) = 330 + 8 * vn + k := by omega
        refine ih n2 hn2 (k + 1) _ _ h ei (by omega) (gR_i (gR_i (gR_tr hG g2))) ?_ (fun i hi8 => ?_)
        · rw [row_i, row_i]
          show (pSt S vn k (pNo vn (fun x => μ.1 108 x))).bind _ = _
          rw [hP]
          show (if pGi S (fun x => ω.1 108 x) (wl S vn k) vn < 0 then none else some (pUp (pUp (fun x => ω.1 108 x) (330 + 8 * vn + k) (Int32.ofInt (pGi S (fun x => ω.1 108 x) (wl S vn k) vn))) (40 + (8 * (pGi S (fun x => ω.1 108 x) (wl S vn k) vn).toNat + wl S vn k)) (ω.1 108 (40 + (8 * (pGi S (fun x => ω.1 108 x) (wl S vn k) vn).toNat + wl S vn k)) + 1))) = _
          rw [← hx, if_neg (by omega), Int32.ofInt_toInt, show (fun x => μ73.1 108 x) = (fun x => ω.1 108 x) from funext e8]
          rw [xpi_ne (fun q => hne q.2), e8]
        · rw [xpi_ne (fun q => by omega)]
          by_cases q : i = k
          · rw [q, xpi_at]; omega
          · rw [xpi_ne (fun z => q (by omega)), e8]; exact hF i hi8
      · replace c80 : ¬ 0 ≤ gx.toInt := c80
        replace h := tx_aload_n (p' := 84) h em185_83 rfl rfl
        replace h := tx_iload_n (p' := 85) h em185_84 rfl rfl
        obtain ⟨r85, μ85, hE85, h⟩ := tx_invV (na := 2) (mn := 128) (as := [.inr (.inl (some 75)), .inl v]) (rest := []) (p' := 88) h em185_85 ((congrFun xo_12 380).trans rfl) xm_128 rfl rfl
        have er := ex_void [0, 1, 2, 3, 4, 7, 9, 10, 13, 14, 15, 16, 17, 20, 21, 24, 27, 29, 30, 31, 32, 33, 34, 35, 38, 39, 42, 44, 46, 47, 50, 53, 55, 56, 57, 58, 59, 60, 61, 62, 63, 64, 67, 69, 71, 72, 75, 76, 77, 78, 79, 80, 81, 82, 83, 84, 85, 86, 87, 88, 91, 94, 95] (by decide +kernel) hE85
        subst er
        replace h : eT xq_185 _ 88 [some (.inr (.inl (some 75))), some (.inl v), some (.inl i), some (.inl (ω.1 88 (((8 : Int32) * (((7 : Int32) * (ω.1 75 2)) + v)) + i).toInt.toNat)), some (.inl gx)] [] μ85 r μ' := h
        replace h := tx_iconst (v := 0) (p' := 89) h em185_88 (by decide +kernel) rfl
        obtain ⟨rfl, hμ⟩ := tx_ireturn h em185_89
        rw [hμ]
        obtain ⟨-, g3, -⟩ := ex_clears hE85 (rS9_R hSω g2) hv hvn (fun i hi => by rw [e8]; exact hF i (by omega))
        refine Or.inr ⟨rfl, gR_tr (gR_tr hG g2) g3, pSt_no (k := k + 1) ?_ (by omega)⟩
        show (pSt S vn k (pNo vn (fun x => μ.1 108 x))).bind _ = none
        rw [hP]
        show (if pGi S (fun x => ω.1 108 x) (wl S vn k) vn < 0 then none else _) = none
        rw [if_pos (by omega)]
  have loop1 : ∀ (n k : Nat) (i : Int32) (ω : xM), eT xq_185 n 2 [some (.inr (.inl (some 75))), some (.inl v), some (.inl i), none, none] [] ω r μ' → i.toInt = (k : Int) → k ≤ 8 → gR μ ω → (∀ x, ω.1 108 x = if 330 + 8 * vn ≤ x ∧ x < 330 + 8 * vn + k then -1 else μ.1 108 x) → (r = some (.inl 1) ∧ gR μ μ' ∧ ∃ ρ', pSt S vn (kV S vn).1.length (pNo vn (fun x => μ.1 108 x)) = some ρ' ∧ (fun x => μ'.1 108 x) = pUp ρ' (320 + vn) 1) ∨ (r = some (.inl 0) ∧ gR μ μ' ∧ pSt S vn (kV S vn).1.length (pNo vn (fun x => μ.1 108 x)) = none) := by
    intro n
    induction n using Nat.strongRecOn with
    | ind n ih =>
    intro k i ω h hi hk hG hR
    have hSω := rS9_R hS hG
    have e7i : (7 : Int32).toInt = 7 := by decide
    have e8i : (8 : Int32).toInt = 8 := by decide
    have e40 : (40 : Int32).toInt = 40 := by decide
    have e330 : (330 : Int32).toInt = 330 := by decide
    have h7 := hS.1.1.2.1
    have s2 := hSω.2.1
    have m7 : ((7 : Int32) * (ω.1 75 2)).toInt = 7 * (s : Int) := by rw [an_mul (by rw [e7i]; omega) (by rw [e7i]; omega), e7i, s2.2]
    have m8 : (((7 : Int32) * (ω.1 75 2)) + v).toInt = 7 * (s : Int) + vn := by rw [an_add (by rw [m7]; omega) (by rw [m7]; omega), m7, hv]
    have m9 : (((7 : Int32) * (ω.1 75 2)) + v).toInt.toNat = 7 * s + vn := by omega
    have n8 : ((8 : Int32) * v).toInt = 8 * (vn : Int) := by rw [an_mul (by rw [e8i]; omega) (by rw [e8i]; omega), e8i, hv]
    have n9 : ((330 : Int32) + ((8 : Int32) * v)).toInt = 330 + 8 * (vn : Int) := by rw [an_add (by rw [n8, e330]; omega) (by rw [n8, e330]; omega), n8, e330]
    have na : (((330 : Int32) + ((8 : Int32) * v)) + i).toInt.toNat = 330 + 8 * vn + k := by
      have : (((330 : Int32) + ((8 : Int32) * v)) + i).toInt = 330 + 8 * (vn : Int) + k := by rw [an_add (by rw [n9]; omega) (by rw [n9]; omega), n9, hi]
      omega
    have q8 : ((8 : Int32) * (((7 : Int32) * (ω.1 75 2)) + v)).toInt = 8 * (7 * (s : Int) + vn) := by rw [an_mul (by rw [e8i, m8]; omega) (by rw [e8i, m8]; omega), e8i, m8]
    have q9 : (((8 : Int32) * (((7 : Int32) * (ω.1 75 2)) + v)) + i).toInt.toNat = 8 * (7 * s + vn) + k := by
      have : (((8 : Int32) * (((7 : Int32) * (ω.1 75 2)) + v)) + i).toInt = 8 * (7 * (s : Int) + vn) + k := by rw [an_add (by rw [q8]; omega) (by rw [q8]; omega), q8, hi]
      omega
    have ei : (i + 1).toInt = ((k + 1 : Nat) : Int) := by rw [an_add (by rw [e1i]; omega) (by rw [e1i]; omega), e1i]; omega
    replace h := tx_iload_n (p' := 3) h em185_2 rfl rfl
    replace h := tx_bipush (v := 8) (p' := 5) h em185_3 (by decide +kernel) rfl
    rcases tx_icmp (t := 30) (p' := 8) h em185_5 (by decide) rfl with ⟨c5, h⟩ | ⟨c5, h⟩
    · replace c5 : 8 ≤ i.toInt := c5
      replace h := tx_iconst (v := 0) (p' := 31) h em185_30 (by decide +kernel) rfl
      replace h := tx_istore_n (p' := 32) h em185_31 rfl
      replace h : eT xq_185 _ 32 [some (.inr (.inl (some 75))), some (.inl v), some (.inl (0 : Int32)), none, none] [] ω r μ' := h
      have eN : (fun x => ω.1 108 x) = pNo vn (fun x => μ.1 108 x) := by
        funext x
        rw [hR x, show k = 8 by omega]
        rfl
      refine loop2 _ 0 _ _ h (by decide) (Nat.zero_le _) hG ?_ (fun i hi8 => ?_)
      · rw [eN]; rfl
      · rw [show ω.1 108 (330 + 8 * vn + i) = pNo vn (fun x => μ.1 108 x) (330 + 8 * vn + i) from congrFun eN _]
        unfold pNo
        rw [if_pos (by omega)]
        decide
    · replace c5 : ¬ 8 ≤ i.toInt := c5
      replace h := tx_aload_n (p' := 9) h em185_8 rfl rfl
      replace h := tx_getc (c := 12) (j := 0) (p' := 12) h em185_9 ((congrFun xo_12 116).trans rfl) rfl rfl rfl
      replace h := tx_sipush (v := 330) (p' := 15) h em185_12 (by decide +kernel) rfl
      replace h := tx_bipush (v := 8) (p' := 17) h em185_15 (by decide +kernel) rfl
      replace h := tx_iload_n (p' := 18) h em185_17 rfl rfl
      replace h := tx_imul (p' := 19) h em185_18 rfl
      replace h := tx_iadd (p' := 20) h em185_19 rfl
      replace h := tx_iload_n (p' := 21) h em185_20 rfl rfl
      replace h := tx_iadd (p' := 22) h em185_21 rfl
      replace h := tx_iconst (v := (-1)) (p' := 23) h em185_22 (by decide +kernel) rfl
      obtain ⟨hb23, h⟩ := tx_iast (len := 390) (p' := 24) h em185_23 rfl rfl
      replace hb23 : (0 : Int) ≤ (((330 : Int32) + ((8 : Int32) * v)) + i).toInt ∧ (((330 : Int32) + ((8 : Int32) * v)) + i).toInt < 390 := hb23
      replace h := tx_iinc (v := 1) (p' := 27) h em185_24 (by decide +kernel) rfl rfl
      replace h : eT xq_185 _ 27 [some (.inr (.inl (some 75))), some (.inl v), some (.inl (i + 1)), none, none] [] (xpi ω 108 (((330 : Int32) + ((8 : Int32) * v)) + i).toInt.toNat (-1 : Int32)) r μ' := h
      obtain ⟨n2, hn2, h⟩ := tx_gotoS (t := 2) h em185_27 (by decide)
      rw [na] at h
      refine ih n2 hn2 (k + 1) _ _ h ei (by omega) (gR_i hG) (fun x => ?_)
      by_cases q : x = 330 + 8 * vn + k
      · rw [q, xpi_at, if_pos (by omega)]
      · rw [xpi_ne (fun z => q z.2), hR]
        by_cases q2 : 330 + 8 * vn ≤ x ∧ x < 330 + 8 * vn + k
        · rw [if_pos q2, if_pos (by omega)]
        · rw [if_neg q2, if_neg (by omega)]
  replace h := tx_iconst (v := 0) (p' := 1) h em185_0 (by decide +kernel) rfl
  replace h := tx_istore_n (p' := 2) h em185_1 rfl
  replace h : eT xq_185 _ 2 [some (.inr (.inl (some 75))), some (.inl v), some (.inl (0 : Int32)), none, none] [] μ r μ' := h
  exact loop1 _ 0 _ _ h (by decide) (by decide) gR_rf (fun x => by rw [if_neg (by omega)])
