/-! ===== THE CLASS'S PARSE ===== -/
/-- the script that is told alone is changed -/
def wiE (μ ν : xM) : Prop := (∀ k j, ¬ (13 ≤ k ∧ k ≤ 22) → ν.1 k j = μ.1 k j) ∧ ν.2 = μ.2
theorem wiE_rf {μ : xM} : wiE μ μ := ⟨fun _ _ _ => rfl, rfl⟩
theorem wiE_tr {μ ν ω : xM} (h1 : wiE μ ν) (h2 : wiE ν ω) : wiE μ ω := ⟨fun k j a => (h2.1 k j a).trans (h1.1 k j a), h2.2.trans h1.2⟩
theorem wiE_i {μ ν : xM} {k j : Nat} {v : Int32} (h : wiE μ ν) (hk : 13 ≤ k ∧ k ≤ 22) : wiE μ (xpi ν k j v) := ⟨fun c i a => (xpi_ne (fun q => by omega)).trans (h.1 c i a), h.2⟩
/-- a method that returns nothing, read off its code -/
def fVo (cc : ByteArray) (pcs : List Nat) : Bool := pcs.contains 0 && pcs.all (fun pc => match decode cc pc with
  | .ok (.ireturn, _) => false
  | .ok (.lreturn, _) => false
  | .ok (i, n) => (fSx i pc n).all (fun t => pcs.contains t)
  | .error _ => true)
theorem ex_void {q : xP} {as : List zV} {r : Option zV} {μ μ' : xM} (pcs : List Nat) (hk : fVo q.2.1 pcs = true) (h : Ex gx q as μ r μ') : r = none := by
  obtain ⟨n, pf, Lf, Sf, h1, h2⟩ := Ex_out h
  unfold fVo at hk
  rw [Bool.and_eq_true, List.all_eq_true] at hk
  obtain ⟨hk0, hk⟩ := hk
  have hst : ∀ (n : Nat) (a b : eS), eN gx (Ex gx) q.2.1 q.1.cls n a b → a.1 ∈ pcs → b.1 ∈ pcs := by
    intro n
    induction n with
    | zero => intro a b h ha; cases h; exact ha
    | succ n ih =>
      intro a b h ha
      obtain ⟨c, hs, h⟩ := h
      rcases hs with ⟨i, m, hd, hi⟩ | ⟨e1, e2, e3⟩
      · refine ih c b h ?_
        have hk2 := hk a.1 ha
        rw [hd] at hk2
        have hm := fSx_ok hi
        have hk3 : (fSx i a.1 m).all (fun t => pcs.contains t) = true := by
          cases i <;> first | exact hk2 | exact hi.elim
        have := List.all_eq_true.mp hk3 c.1 hm
        simpa using this
      · exact ih c b h (by rw [e1]; exact ha)
  have hz : (0 : Nat) ∈ pcs := by simpa using hk0
  have hp : pf ∈ pcs := hst n _ _ h1 hz
  have hkp := hk pf hp
  rcases h2 with ⟨e, -⟩ | ⟨-, -, e⟩ | ⟨e, -⟩
  · rw [e] at hkp
    exact absurd (show false = true from hkp) (by decide)
  · exact e
  · rw [e] at hkp
    exact absurd (show false = true from hkp) (by decide)
theorem ex_law_n {lw : Int32} {μ μ' : xM} {r : Option zV} (h0 : Ex gx xq_18 [.inr (.inl (some 12)), .inl lw] μ r μ') : r = none := ex_void [0, 1, 4, 7, 8, 9, 10, 13, 16, 19, 20, 22, 25, 28, 29, 30, 31, 32, 35, 38, 41, 42, 43, 46, 47, 48, 51, 52, 53, 54, 57, 60, 63, 64, 65, 68, 71, 72, 74, 77, 80, 81, 82, 85, 88, 89, 90, 93, 96, 98, 99, 102, 104, 105, 108, 109, 112, 115, 118, 119, 120, 123, 126, 127, 130, 133, 136, 137, 138, 141, 143, 144, 147, 148, 151, 153, 156, 159, 162, 163, 164, 167, 170, 171, 173, 176, 179, 180, 181, 184, 186, 187, 190, 191, 194, 197, 198, 199, 200, 201] (by decide +kernel) h0
abbrev xq_47 : xP := (⟨"CapitalCase$Script", "wipe", "()V"⟩, prog_8_method_2_code, 1, none)
abbrev xq_45 : xP := (⟨"CapitalCase$Script", "layDown", "(III)V"⟩, prog_8_method_3_code, 4, none)
abbrev xq_207 : xP := (⟨"java/util/Arrays", "fill", "([II)V"⟩, prog_22_method_103_code, 4, none)
abbrev xq_16 : xP := (⟨"CapitalCase$Parser", "parse", "(I)I"⟩, prog_4_method_2_code, 3, (some .int))
set_option maxRecDepth 10000 in
set_option maxHeartbeats 4000000 in
theorem fill_14 {v : Int32} {μ μ' : xM} {r : Option zV} (h0 : Ex gx xq_207 [.inr (.inl (some 14)), .inl v] μ r μ') : r = none ∧ (∀ k j, k ≠ 14 → μ'.1 k j = μ.1 k j) ∧ μ'.2 = μ.2 := by
  obtain ⟨n, h⟩ := tx_in (L := [some (.inr (.inl (some 14))), some (.inl v), none, none]) h0 rfl
  have loop : ∀ (n : Nat) (i m : Int32) (ω : xM), eT xq_207 n 5 [some (.inr (.inl (some 14))), some (.inl v), some (.inl i), some (.inl m)] [] ω r μ' → ((∀ k j, k ≠ 14 → ω.1 k j = μ.1 k j) ∧ ω.2 = μ.2) → r = none ∧ (∀ k j, k ≠ 14 → μ'.1 k j = μ.1 k j) ∧ μ'.2 = μ.2 := by
    intro n
    induction n using Nat.strongRecOn with
    | ind n ih =>
    intro i m ω h hF
    replace h := tx_iload_n (p' := 6) h em207_5 rfl rfl
    replace h := tx_iload_n (p' := 7) h em207_6 rfl rfl
    rcases tx_icmp (t := 20) (p' := 10) h em207_7 (by decide) rfl with ⟨c7, h⟩ | ⟨c7, h⟩
    · replace c7 : m.toInt ≤ i.toInt := c7
      obtain ⟨rfl, hμ⟩ := tx_return h em207_20
      rw [hμ]
      exact ⟨rfl, hF⟩
    · replace c7 : ¬ m.toInt ≤ i.toInt := c7
      replace h := tx_aload_n (p' := 11) h em207_10 rfl rfl
      replace h := tx_iload_n (p' := 12) h em207_11 rfl rfl
      replace h := tx_iload_n (p' := 13) h em207_12 rfl rfl
      obtain ⟨hb13, h⟩ := tx_iast (len := 40) (p' := 14) h em207_13 rfl rfl
      replace hb13 : 0 ≤ i.toInt ∧ i.toInt < 40 := hb13
      replace h := tx_iinc (v := 1) (p' := 17) h em207_14 (by decide +kernel) rfl rfl
      replace h : eT xq_207 _ 17 [some (.inr (.inl (some 14))), some (.inl v), some (.inl (i + 1)), some (.inl m)] [] (xpi ω 14 i.toInt.toNat v) r μ' := h
      obtain ⟨n2, hn2, h⟩ := tx_gotoS (t := 5) h em207_17 (by decide)
      exact ih n2 hn2 _ _ _ h ⟨fun k j hk => (xpi_ne (fun q => hk q.1)).trans (hF.1 k j hk), hF.2⟩
  replace h := tx_iconst (v := 0) (p' := 1) h em207_0 (by decide +kernel) rfl
  replace h := tx_istore_n (p' := 2) h em207_1 rfl
  replace h : eT xq_207 _ 2 [some (.inr (.inl (some 14))), some (.inl v), some (.inl (0 : Int32)), none] [] μ r μ' := h
  replace h := tx_aload_n (p' := 3) h em207_2 rfl rfl
  replace h := tx_alen (p' := 4) h em207_3 rfl rfl
  replace h := tx_istore_n (p' := 5) h em207_4 rfl
  replace h : eT xq_207 _ 5 [some (.inr (.inl (some 14))), some (.inl v), some (.inl (0 : Int32)), some (.inl (Int32.ofNat 40))] [] μ r μ' := h
  exact loop _ _ _ _ h ⟨fun _ _ _ => rfl, rfl⟩
set_option maxRecDepth 10000 in
set_option maxHeartbeats 4000000 in
theorem fill_19 {v : Int32} {μ μ' : xM} {r : Option zV} (h0 : Ex gx xq_207 [.inr (.inl (some 19)), .inl v] μ r μ') : r = none ∧ (∀ k j, k ≠ 19 → μ'.1 k j = μ.1 k j) ∧ μ'.2 = μ.2 := by
  obtain ⟨n, h⟩ := tx_in (L := [some (.inr (.inl (some 19))), some (.inl v), none, none]) h0 rfl
  have loop : ∀ (n : Nat) (i m : Int32) (ω : xM), eT xq_207 n 5 [some (.inr (.inl (some 19))), some (.inl v), some (.inl i), some (.inl m)] [] ω r μ' → ((∀ k j, k ≠ 19 → ω.1 k j = μ.1 k j) ∧ ω.2 = μ.2) → r = none ∧ (∀ k j, k ≠ 19 → μ'.1 k j = μ.1 k j) ∧ μ'.2 = μ.2 := by
    intro n
    induction n using Nat.strongRecOn with
    | ind n ih =>
    intro i m ω h hF
    replace h := tx_iload_n (p' := 6) h em207_5 rfl rfl
    replace h := tx_iload_n (p' := 7) h em207_6 rfl rfl
    rcases tx_icmp (t := 20) (p' := 10) h em207_7 (by decide) rfl with ⟨c7, h⟩ | ⟨c7, h⟩
    · replace c7 : m.toInt ≤ i.toInt := c7
      obtain ⟨rfl, hμ⟩ := tx_return h em207_20
      rw [hμ]
      exact ⟨rfl, hF⟩
    · replace c7 : ¬ m.toInt ≤ i.toInt := c7
      replace h := tx_aload_n (p' := 11) h em207_10 rfl rfl
      replace h := tx_iload_n (p' := 12) h em207_11 rfl rfl
      replace h := tx_iload_n (p' := 13) h em207_12 rfl rfl
      obtain ⟨hb13, h⟩ := tx_iast (len := 56) (p' := 14) h em207_13 rfl rfl
      replace hb13 : 0 ≤ i.toInt ∧ i.toInt < 56 := hb13
      replace h := tx_iinc (v := 1) (p' := 17) h em207_14 (by decide +kernel) rfl rfl
      replace h : eT xq_207 _ 17 [some (.inr (.inl (some 19))), some (.inl v), some (.inl (i + 1)), some (.inl m)] [] (xpi ω 19 i.toInt.toNat v) r μ' := h
      obtain ⟨n2, hn2, h⟩ := tx_gotoS (t := 5) h em207_17 (by decide)
      exact ih n2 hn2 _ _ _ h ⟨fun k j hk => (xpi_ne (fun q => hk q.1)).trans (hF.1 k j hk), hF.2⟩
  replace h := tx_iconst (v := 0) (p' := 1) h em207_0 (by decide +kernel) rfl
  replace h := tx_istore_n (p' := 2) h em207_1 rfl
  replace h : eT xq_207 _ 2 [some (.inr (.inl (some 19))), some (.inl v), some (.inl (0 : Int32)), none] [] μ r μ' := h
  replace h := tx_aload_n (p' := 3) h em207_2 rfl rfl
  replace h := tx_alen (p' := 4) h em207_3 rfl rfl
  replace h := tx_istore_n (p' := 5) h em207_4 rfl
  replace h : eT xq_207 _ 5 [some (.inr (.inl (some 19))), some (.inl v), some (.inl (0 : Int32)), some (.inl (Int32.ofNat 56))] [] μ r μ' := h
  exact loop _ _ _ _ h ⟨fun _ _ _ => rfl, rfl⟩
set_option maxRecDepth 10000 in
set_option maxHeartbeats 4000000 in
theorem ex_layDown {a b c : Int32} {μ μ' : xM} {r : Option zV} (h0 : Ex gx xq_45 [.inr (.inl (some 13)), .inl a, .inl b, .inl c] μ r μ') : r = none ∧ wiE μ μ' ∧ (∀ j, j ≠ 14 → μ'.1 13 j = μ.1 13 j) := by
  obtain ⟨n, h⟩ := tx_in (L := [some (.inr (.inl (some 13))), some (.inl a), some (.inl b), some (.inl c)]) h0 rfl
  replace h := tx_aload_n (p' := 1) h em45_0 rfl rfl
  replace h := tx_getc (c := 6) (j := 11) (p' := 4) h em45_1 ((congrFun xo_7 32).trans rfl) rfl rfl rfl
  replace h := tx_iload_n (p' := 5) h em45_4 rfl rfl
  replace h := tx_aload_n (p' := 6) h em45_5 rfl rfl
  replace h := tx_getf (c := 6) (j := 14) (p' := 9) h em45_6 ((congrFun xo_7 66).trans rfl) rfl rfl (by decide) rfl
  obtain ⟨hb9, h⟩ := tx_iast (len := 4) (p' := 10) h em45_9 rfl rfl
  replace hb9 : 0 ≤ a.toInt ∧ a.toInt < 4 := hb9
  replace h := tx_aload_n (p' := 11) h em45_10 rfl rfl
  replace h := tx_iload_n (p' := 12) h em45_11 rfl rfl
  replace h := tx_iload_n (p' := 13) h em45_12 rfl rfl
  obtain ⟨r13, μ13, hE13, h⟩ := tx_invV (na := 3) (mn := 43) (as := [.inr (.inl (some 13)), .inl b, .inl c]) (rest := []) (p' := 16) h em45_13 ((congrFun xo_7 75).trans rfl) xm_43 rfl rfl
  obtain ⟨rfl, hg13, hb13⟩ := ex_add hE13
  replace h : eT xq_45 _ 16 [some (.inr (.inl (some 13))), some (.inl a), some (.inl b), some (.inl c)] [] μ13 r μ' := h
  replace h := tx_aload_n (p' := 17) h em45_16 rfl rfl
  replace h := tx_bipush (v := 7) (p' := 19) h em45_17 (by decide +kernel) rfl
  replace h := tx_iconst (v := 0) (p' := 20) h em45_19 (by decide +kernel) rfl
  obtain ⟨r20, μ20, hE20, h⟩ := tx_invV (na := 3) (mn := 43) (as := [.inr (.inl (some 13)), .inl (7 : Int32), .inl (0 : Int32)]) (rest := []) (p' := 23) h em45_20 ((congrFun xo_7 75).trans rfl) xm_43 rfl rfl
  obtain ⟨rfl, hg20, hb20⟩ := ex_add hE20
  replace h : eT xq_45 _ 23 [some (.inr (.inl (some 13))), some (.inl a), some (.inl b), some (.inl c)] [] μ20 r μ' := h
  obtain ⟨rfl, hμ⟩ := tx_return h em45_23
  rw [hμ]
  have g1 : ∀ {ν ω : xM}, pE ν ω → (∀ j, ω.1 12 j = ν.1 12 j) → wiE ν ω := fun h h12 => ⟨fun k j a => by
    by_cases q : k = 12
    · rw [q]; exact h12 j
    · exact h.1 k j q (by omega) (by omega) (by omega), h.2.2.2⟩
  refine ⟨rfl, wiE_tr (wiE_i wiE_rf (by decide)) (wiE_tr (g1 hg13 hb13) (g1 hg20 hb20)), fun j hj => ?_⟩
  rw [hg20.2.2.1 j hj, hg13.2.2.1 j hj]
  exact xpi_ne (fun q => absurd q.1 (by decide))
set_option maxRecDepth 10000 in
set_option maxHeartbeats 4000000 in
theorem ex_wipe {μ μ' : xM} {r : Option zV} (h0 : Ex gx xq_47 [.inr (.inl (some 13))] μ r μ') : r = none ∧ wiE μ μ' ∧ μ'.1 13 0 = 0 ∧ μ'.1 13 1 = 0 := by
  obtain ⟨n, h⟩ := tx_in (L := [some (.inr (.inl (some 13)))]) h0 rfl
  replace h := tx_aload_n (p' := 1) h em47_0 rfl rfl
  replace h := tx_iconst (v := 0) (p' := 2) h em47_1 (by decide +kernel) rfl
  replace h := tx_putf (a := 13) (c := 6) (j := 0) (p' := 5) h em47_2 ((congrFun xo_7 44).trans rfl) rfl
  replace h := tx_aload_n (p' := 6) h em47_5 rfl rfl
  replace h := tx_iconst (v := 0) (p' := 7) h em47_6 (by decide +kernel) rfl
  replace h := tx_putf (a := 13) (c := 6) (j := 1) (p' := 10) h em47_7 ((congrFun xo_7 48).trans rfl) rfl
  replace h := tx_aload_n (p' := 11) h em47_10 rfl rfl
  replace h := tx_bipush (v := 20) (p' := 13) h em47_11 (by decide +kernel) rfl
  replace h := tx_putf (a := 13) (c := 6) (j := 4) (p' := 16) h em47_13 ((congrFun xo_7 51).trans rfl) rfl
  replace h := tx_aload_n (p' := 17) h em47_16 rfl rfl
  replace h := tx_iconst (v := 0) (p' := 18) h em47_17 (by decide +kernel) rfl
  replace h := tx_putf (a := 13) (c := 6) (j := 2) (p' := 21) h em47_18 ((congrFun xo_7 54).trans rfl) rfl
  replace h := tx_aload_n (p' := 22) h em47_21 rfl rfl
  replace h := tx_iconst (v := 0) (p' := 23) h em47_22 (by decide +kernel) rfl
  replace h := tx_putf (a := 13) (c := 6) (j := 3) (p' := 26) h em47_23 ((congrFun xo_7 57).trans rfl) rfl
  replace h := tx_aload_n (p' := 27) h em47_26 rfl rfl
  replace h := tx_getc (c := 6) (j := 5) (p' := 30) h em47_27 ((congrFun xo_7 13).trans rfl) rfl rfl rfl
  replace h := tx_iconst (v := 0) (p' := 31) h em47_30 (by decide +kernel) rfl
  obtain ⟨r31, μ31, hE31, h⟩ := tx_invS (na := 2) (mn := 207) (as := [.inr (.inl (some 14)), .inl (0 : Int32)]) (rest := []) (p' := 34) h em47_31 ((congrFun xo_7 60).trans rfl) xm_207 rfl rfl
  obtain ⟨rfl, hf31, hf312⟩ := fill_14 hE31
  replace h : eT xq_47 _ 34 [some (.inr (.inl (some 13)))] [] μ31 r μ' := h
  replace h := tx_aload_n (p' := 35) h em47_34 rfl rfl
  replace h := tx_getc (c := 6) (j := 10) (p' := 38) h em47_35 ((congrFun xo_7 29).trans rfl) rfl rfl rfl
  replace h := tx_iconst (v := 0) (p' := 39) h em47_38 (by decide +kernel) rfl
  obtain ⟨r39, μ39, hE39, h⟩ := tx_invS (na := 2) (mn := 207) (as := [.inr (.inl (some 19)), .inl (0 : Int32)]) (rest := []) (p' := 42) h em47_39 ((congrFun xo_7 60).trans rfl) xm_207 rfl rfl
  obtain ⟨rfl, hf39, hf392⟩ := fill_19 hE39
  replace h : eT xq_47 _ 42 [some (.inr (.inl (some 13)))] [] μ39 r μ' := h
  replace h := tx_aload_n (p' := 43) h em47_42 rfl rfl
  replace h := tx_iconst (v := 0) (p' := 44) h em47_43 (by decide +kernel) rfl
  replace h := tx_putf (a := 13) (c := 6) (j := 14) (p' := 47) h em47_44 ((congrFun xo_7 66).trans rfl) rfl
  replace h := tx_aload_n (p' := 48) h em47_47 rfl rfl
  replace h := tx_iconst (v := 0) (p' := 49) h em47_48 (by decide +kernel) rfl
  replace h := tx_iconst (v := 0) (p' := 50) h em47_49 (by decide +kernel) rfl
  replace h := tx_iconst (v := 1) (p' := 51) h em47_50 (by decide +kernel) rfl
  obtain ⟨r51, μ51, hE51, h⟩ := tx_invV (na := 4) (mn := 45) (as := [.inr (.inl (some 13)), .inl (0 : Int32), .inl (0 : Int32), .inl (1 : Int32)]) (rest := []) (p' := 54) h em47_51 ((congrFun xo_7 69).trans rfl) xm_45 rfl rfl
  obtain ⟨rfl, hl51, hk51⟩ := ex_layDown hE51
  replace h : eT xq_47 _ 54 [some (.inr (.inl (some 13)))] [] μ51 r μ' := h
  replace h := tx_aload_n (p' := 55) h em47_54 rfl rfl
  replace h := tx_iconst (v := 1) (p' := 56) h em47_55 (by decide +kernel) rfl
  replace h := tx_iconst (v := 0) (p' := 57) h em47_56 (by decide +kernel) rfl
  replace h := tx_iconst (v := 0) (p' := 58) h em47_57 (by decide +kernel) rfl
  obtain ⟨r58, μ58, hE58, h⟩ := tx_invV (na := 4) (mn := 45) (as := [.inr (.inl (some 13)), .inl (1 : Int32), .inl (0 : Int32), .inl (0 : Int32)]) (rest := []) (p' := 61) h em47_58 ((congrFun xo_7 69).trans rfl) xm_45 rfl rfl
  obtain ⟨rfl, hl58, hk58⟩ := ex_layDown hE58
  replace h : eT xq_47 _ 61 [some (.inr (.inl (some 13)))] [] μ58 r μ' := h
  replace h := tx_aload_n (p' := 62) h em47_61 rfl rfl
  replace h := tx_iconst (v := 2) (p' := 63) h em47_62 (by decide +kernel) rfl
  replace h := tx_iconst (v := 0) (p' := 64) h em47_63 (by decide +kernel) rfl
  replace h := tx_iconst (v := 1) (p' := 65) h em47_64 (by decide +kernel) rfl
  obtain ⟨r65, μ65, hE65, h⟩ := tx_invV (na := 4) (mn := 45) (as := [.inr (.inl (some 13)), .inl (2 : Int32), .inl (0 : Int32), .inl (1 : Int32)]) (rest := []) (p' := 68) h em47_65 ((congrFun xo_7 69).trans rfl) xm_45 rfl rfl
  obtain ⟨rfl, hl65, hk65⟩ := ex_layDown hE65
  replace h : eT xq_47 _ 68 [some (.inr (.inl (some 13)))] [] μ65 r μ' := h
  replace h := tx_aload_n (p' := 69) h em47_68 rfl rfl
  replace h := tx_iconst (v := 3) (p' := 70) h em47_69 (by decide +kernel) rfl
  replace h := tx_iconst (v := 1) (p' := 71) h em47_70 (by decide +kernel) rfl
  replace h := tx_iconst (v := 0) (p' := 72) h em47_71 (by decide +kernel) rfl
  obtain ⟨r72, μ72, hE72, h⟩ := tx_invV (na := 4) (mn := 45) (as := [.inr (.inl (some 13)), .inl (3 : Int32), .inl (1 : Int32), .inl (0 : Int32)]) (rest := []) (p' := 75) h em47_72 ((congrFun xo_7 69).trans rfl) xm_45 rfl rfl
  obtain ⟨rfl, hl72, hk72⟩ := ex_layDown hE72
  replace h : eT xq_47 _ 75 [some (.inr (.inl (some 13)))] [] μ72 r μ' := h
  obtain ⟨rfl, hμ⟩ := tx_return h em47_75
  rw [hμ]
  have w0 : wiE μ (xpi (xpi (xpi (xpi (xpi μ 13 0 (0 : Int32)) 13 1 (0 : Int32)) 13 4 (20 : Int32)) 13 2 (0 : Int32)) 13 3 (0 : Int32)) := wiE_i (wiE_i (wiE_i (wiE_i (wiE_i wiE_rf (by decide)) (by decide)) (by decide)) (by decide)) (by decide)
  have w1 : wiE _ μ31 := ⟨fun k j a => hf31 k j (by omega), hf312⟩
  have w2 : wiE μ31 μ39 := ⟨fun k j a => hf39 k j (by omega), hf392⟩
  have w3 := wiE_tr w0 (wiE_tr w1 (wiE_tr w2 (wiE_tr (wiE_i wiE_rf (by decide)) (wiE_tr hl51 (wiE_tr hl58 (wiE_tr hl65 hl72))))))
  have z : ∀ j, j ≠ 14 → μ72.1 13 j = (xpi (xpi (xpi (xpi (xpi μ 13 0 (0 : Int32)) 13 1 (0 : Int32)) 13 4 (20 : Int32)) 13 2 (0 : Int32)) 13 3 (0 : Int32)).1 13 j := fun j hj => by
    rw [hk72 j hj, hk65 j hj, hk58 j hj, hk51 j hj, xpi_ne (fun q => hj q.2), hf39 13 j (by decide), hf31 13 j (by decide)]
  refine ⟨rfl, w3, ?_, ?_⟩
  · rw [z 0 (by decide)]; rfl
  · rw [z 1 (by decide)]; rfl
/-- a text, as the class's tokens of ν have it -/
noncomputable def cTx (ν : xM) (n : Nat) (a h v : Int) (ns : List Int) (w : Int × Int) : Int × Int := pText (cK ν) (cP ν) (cm ν) (cl ν) (cV ν) n a h v ns w
theorem gE_cTx {μ ν : xM} (h : gE μ ν) : cTx ν = cTx μ := by
  unfold cTx cm cl
  rw [gE_K h, gE_P h, gE_M h, gE_L h, gE_V h]
/-- how the loop stands: i rounds are done, T is the text's answer -/
def paI (E i : Int) (T : Int × Int) (ν ω : xM) : Prop := gE ν ω ∧ cTV ω E ∧ (((ω.1 12 4).toInt = 0 ∧ nmI E ω ∧ 0 ≤ cA ω ∧ cA ω ≤ E ∧ 0 ≤ i ∧ i ≤ cA ω ∧ T = cTx ν (401 - i).toNat (cA ω) (cH ω) (cU ω) (cN ω) (cW ω)) ∨ (¬ (ω.1 12 4).toInt = 0 ∧ T = ((ω.1 12 4).toInt, (ω.1 12 5).toInt)))
theorem paI_s {E i : Int} {T : Int × Int} {ν ω ω' : xM} (h : paI E i T ν ω) (h0 : (ω.1 12 4).toInt = 0) (hk : ¬ cK ω (cA ω) = 0) (ho : oT E ω ω') : paI E (i + 1) T ν ω' := by
  obtain ⟨g1, g2, g3⟩ := h
  obtain ⟨o1, o2, o3⟩ := ho
  refine ⟨gE_tr g1 o1, gE_TV o1 g2, ?_⟩
  rcases g3 with ⟨a1, a2, a3, a4, a5, a6, a7⟩ | ⟨a1, -⟩
  · have hE := g2.1
    have e1 : (401 - i).toNat = (401 - (i + 1)).toNat + 1 := by omega
    rw [e1] at a7
    have eK := gE_K g1
    have eP := gE_P g1
    have em : cm ω = cm ν := by unfold cm; rw [gE_M g1]
    have el : cl ω = cl ν := by unfold cl; rw [gE_L g1]
    have eV := gE_V g1
    rw [eK] at hk o2 o3
    rw [eP, em, el, eV] at o3
    unfold cTx at a7
    unfold pText at a7
    rw [if_neg hk] at a7
    rcases o2 with ⟨b1, b2, b3, b4, b5, b6⟩ | ⟨b1, b2, b3⟩
    · obtain ⟨c1, c2, c3, c4, c5⟩ := o3 b1
      rw [if_pos b1] at a7
      refine Or.inl ⟨by rw [b5]; exact a1, c1, by omega, b3, by omega, by omega, ?_⟩
      rw [a7, c2, c3, c4, c5, b4]
      rfl
    · rw [if_neg b1] at a7
      refine Or.inr ⟨by omega, ?_⟩
      rw [a7, b2, b3, eP]
  · exact absurd h0 a1
theorem tO_cg {e : Int} {x y : Int × Int} {μ μ' : xM} (h : tO e x μ μ') (hx : x = y) : tO e y μ μ' := by rw [← hx]; exact h
theorem oT_law {e : Int} {μ μ' : xM} (hk : 130 ≤ cK μ (cA μ) ∧ cK μ (cA μ) ≤ 133) (hn : nmI e μ) (h : lE μ μ' ∧ tO e (pSeq (pAcc (cK μ) (cK μ (cA μ))) (pSeq (pAcc (cK μ) 61) (wLaw (cK μ) 4)) (cA μ)) μ μ') : oT e μ μ' := by
  obtain ⟨h1, h2⟩ := h
  have h27 : ∀ j, μ'.1 27 j = μ.1 27 j := fun j => h1.1 27 j (by decide) (by decide) (by decide) (by decide) (by decide)
  have h9 : μ'.1 12 9 = μ.1 12 9 := h1.2.1 9 (by decide) (by decide) (by decide)
  have h130 : μ'.1 13 0 = μ.1 13 0 := h1.2.2.1 0 (by decide)
  have h131 : μ'.1 13 1 = μ.1 13 1 := h1.2.2.1 1 (by decide)
  refine ⟨gE_l h1, tO_cg h2 (pTell_l hk).symm, fun _ => ⟨nmI_cg (gE_l h1) h130 h131 h9 h27 hn, ?_, ?_, ?_, ?_⟩⟩
  · unfold pLater
    rw [if_neg (by omega), if_neg (by omega), if_neg (by omega), if_neg (by omega)]
    unfold cW
    rw [h1.2.1 6 (by decide) (by decide) (by decide), h1.2.1 7 (by decide) (by decide) (by decide)]
  · rw [if_neg (by omega)]; unfold cH; rw [h130]
  · rw [if_neg (by omega)]; unfold cU; rw [h131]
  · rw [if_neg (by omega)]; exact cN_cg h9 h27
theorem oT_else {e : Int} {μ : xM} (hk : cK μ (cA μ) < 128 ∨ 136 < cK μ (cA μ)) : oT e μ (cF μ 1) := oT_f (gE_p (pE_F pE_rf)) (pTell_e hk) (by decide) rfl rfl
/-- what parse answers -/
def paQ (ν : xM) (T : Int × Int) (r : Option zV) (μ' : xM) : Prop := gE ν μ' ∧ ∃ x : Int32, r = some (.inl x) ∧ x.toInt = T.1 ∧ (¬ T.1 = 0 → (μ'.1 12 5).toInt = T.2)
set_option maxRecDepth 10000 in
set_option maxHeartbeats 4000000 in
theorem pa_house {E : Int} {T : Int × Int} {ν μ' : xM} {r : Option zV} {n : Int32} {m : Nat} (ih : ∀ m2, m2 < m → ∀ (i : Int32) (ω : xM), eT xq_16 m2 41 [some (.inr (.inl (some 12))), some (.inl n), some (.inl i)] [] ω r μ' → paI E i.toInt T ν ω → paQ ν T r μ') {i : Int32} {ω : xM} (hI : paI E i.toInt T ν ω) (h0 : (ω.1 12 4).toInt = 0) (hk0 : ¬ cK ω (cA ω) = 0) (hkk : cK ω (cA ω) = 128) (h : eT xq_16 m 66 [some (.inr (.inl (some 12))), some (.inl n), some (.inl i)] [.inl (ω.1 24 (cA ω).toNat)] ω r μ') : paQ ν T r μ' := by
  have e1i : (1 : Int32).toInt = 1 := by decide
  have hA : cA ω ≤ 400 ∧ (0 ≤ cA ω ∧ cA ω ≤ E ∧ nmI E ω ∧ cTV ω E ∧ 0 ≤ i.toInt ∧ i.toInt ≤ cA ω) := by
    obtain ⟨g1, g2, g3⟩ := hI
    rcases g3 with ⟨a1, a2, a3, a4, a5, a6, a7⟩ | ⟨a1, -⟩
    · have := g2.1
      exact ⟨by omega, a3, a4, a2, g2, a5, a6⟩
    · exact absurd h0 a1
  obtain ⟨hA, hA0, hAE, hnm, htv, hi0, hiA⟩ := hA
  have hi9 := hA
  have hx : (ω.1 24 (cA ω).toNat).toInt = cK ω (cA ω) := rfl
  obtain ⟨t9, ht9, h⟩ := tx_tsw h em16_66
  have e9 : t9 = 116 := by
    have := tsw_k ht9 (k := 0) (off := 50) rfl (by omega) (by omega)
    omega
  subst e9
  replace h : eT xq_16 _ 116 [some (.inr (.inl (some 12))), some (.inl n), some (.inl i)] [] ω r μ' := h
  replace h := tx_aload_n (p' := 117) h em16_116 rfl rfl
  obtain ⟨r117, μ117, hE117, h⟩ := tx_invV (na := 1) (mn := 17) (as := [.inr (.inl (some 12))]) (rest := []) (p' := 120) h em16_117 ((congrFun xo_3 57).trans rfl) xm_17 rfl rfl
  obtain ⟨rfl, ho⟩ := ex_house hE117 hA0 hAE htv hnm hkk
  replace h : eT xq_16 _ 120 [some (.inr (.inl (some 12))), some (.inl n), some (.inl i)] [] μ117 r μ' := h
  replace h := tx_goto (t := 179) h em16_120 (by decide)
  replace h := tx_iinc (v := 1) (p' := 182) h em16_179 (by decide +kernel) rfl rfl
  replace h : eT xq_16 _ 182 [some (.inr (.inl (some 12))), some (.inl n), some (.inl (i + 1))] [] μ117 r μ' := h
  obtain ⟨n2, hn2, h⟩ := tx_gotoS (t := 41) h em16_182 (by decide)
  have hi1 : (i + 1).toInt = i.toInt + 1 := by rw [an_add (by rw [e1i]; omega) (by rw [e1i]; omega), e1i]
  refine ih n2 hn2 _ _ h ?_
  rw [hi1]
  exact paI_s hI h0 hk0 ho
set_option maxRecDepth 10000 in
set_option maxHeartbeats 4000000 in
theorem pa_verse {E : Int} {T : Int × Int} {ν μ' : xM} {r : Option zV} {n : Int32} {m : Nat} (ih : ∀ m2, m2 < m → ∀ (i : Int32) (ω : xM), eT xq_16 m2 41 [some (.inr (.inl (some 12))), some (.inl n), some (.inl i)] [] ω r μ' → paI E i.toInt T ν ω → paQ ν T r μ') {i : Int32} {ω : xM} (hI : paI E i.toInt T ν ω) (h0 : (ω.1 12 4).toInt = 0) (hk0 : ¬ cK ω (cA ω) = 0) (hkk : cK ω (cA ω) = 129) (h : eT xq_16 m 66 [some (.inr (.inl (some 12))), some (.inl n), some (.inl i)] [.inl (ω.1 24 (cA ω).toNat)] ω r μ') : paQ ν T r μ' := by
  have e1i : (1 : Int32).toInt = 1 := by decide
  have hA : cA ω ≤ 400 ∧ (0 ≤ cA ω ∧ cA ω ≤ E ∧ nmI E ω ∧ cTV ω E ∧ 0 ≤ i.toInt ∧ i.toInt ≤ cA ω) := by
    obtain ⟨g1, g2, g3⟩ := hI
    rcases g3 with ⟨a1, a2, a3, a4, a5, a6, a7⟩ | ⟨a1, -⟩
    · have := g2.1
      exact ⟨by omega, a3, a4, a2, g2, a5, a6⟩
    · exact absurd h0 a1
  obtain ⟨hA, hA0, hAE, hnm, htv, hi0, hiA⟩ := hA
  have hi9 := hA
  have hx : (ω.1 24 (cA ω).toNat).toInt = cK ω (cA ω) := rfl
  obtain ⟨t9, ht9, h⟩ := tx_tsw h em16_66
  have e9 : t9 = 123 := by
    have := tsw_k ht9 (k := 1) (off := 57) rfl (by omega) (by omega)
    omega
  subst e9
  replace h : eT xq_16 _ 123 [some (.inr (.inl (some 12))), some (.inl n), some (.inl i)] [] ω r μ' := h
  replace h := tx_aload_n (p' := 124) h em16_123 rfl rfl
  obtain ⟨r124, μ124, hE124, h⟩ := tx_invV (na := 1) (mn := 20) (as := [.inr (.inl (some 12))]) (rest := []) (p' := 127) h em16_124 ((congrFun xo_3 60).trans rfl) xm_20 rfl rfl
  obtain ⟨rfl, ho⟩ := ex_verse hE124 hA0 hAE htv hnm hkk
  replace h : eT xq_16 _ 127 [some (.inr (.inl (some 12))), some (.inl n), some (.inl i)] [] μ124 r μ' := h
  replace h := tx_goto (t := 179) h em16_127 (by decide)
  replace h := tx_iinc (v := 1) (p' := 182) h em16_179 (by decide +kernel) rfl rfl
  replace h : eT xq_16 _ 182 [some (.inr (.inl (some 12))), some (.inl n), some (.inl (i + 1))] [] μ124 r μ' := h
  obtain ⟨n2, hn2, h⟩ := tx_gotoS (t := 41) h em16_182 (by decide)
  have hi1 : (i + 1).toInt = i.toInt + 1 := by rw [an_add (by rw [e1i]; omega) (by rw [e1i]; omega), e1i]
  refine ih n2 hn2 _ _ h ?_
  rw [hi1]
  exact paI_s hI h0 hk0 ho
set_option maxRecDepth 10000 in
set_option maxHeartbeats 4000000 in
theorem pa_law0 {E : Int} {T : Int × Int} {ν μ' : xM} {r : Option zV} {n : Int32} {m : Nat} (ih : ∀ m2, m2 < m → ∀ (i : Int32) (ω : xM), eT xq_16 m2 41 [some (.inr (.inl (some 12))), some (.inl n), some (.inl i)] [] ω r μ' → paI E i.toInt T ν ω → paQ ν T r μ') {i : Int32} {ω : xM} (hI : paI E i.toInt T ν ω) (h0 : (ω.1 12 4).toInt = 0) (hk0 : ¬ cK ω (cA ω) = 0) (hkk : cK ω (cA ω) = 130) (h : eT xq_16 m 66 [some (.inr (.inl (some 12))), some (.inl n), some (.inl i)] [.inl (ω.1 24 (cA ω).toNat)] ω r μ') : paQ ν T r μ' := by
  have e1i : (1 : Int32).toInt = 1 := by decide
  have hA : cA ω ≤ 400 ∧ (0 ≤ cA ω ∧ cA ω ≤ E ∧ nmI E ω ∧ cTV ω E ∧ 0 ≤ i.toInt ∧ i.toInt ≤ cA ω) := by
    obtain ⟨g1, g2, g3⟩ := hI
    rcases g3 with ⟨a1, a2, a3, a4, a5, a6, a7⟩ | ⟨a1, -⟩
    · have := g2.1
      exact ⟨by omega, a3, a4, a2, g2, a5, a6⟩
    · exact absurd h0 a1
  obtain ⟨hA, hA0, hAE, hnm, htv, hi0, hiA⟩ := hA
  have hi9 := hA
  have hx : (ω.1 24 (cA ω).toNat).toInt = cK ω (cA ω) := rfl
  obtain ⟨t9, ht9, h⟩ := tx_tsw h em16_66
  have e9 : t9 = 130 := by
    have := tsw_k ht9 (k := 2) (off := 64) rfl (by omega) (by omega)
    omega
  subst e9
  replace h : eT xq_16 _ 130 [some (.inr (.inl (some 12))), some (.inl n), some (.inl i)] [] ω r μ' := h
  replace h := tx_aload_n (p' := 131) h em16_130 rfl rfl
  replace h := tx_iconst (v := 0) (p' := 132) h em16_131 (by decide +kernel) rfl
  obtain ⟨r132, μ132, hE132, h⟩ := tx_invV (na := 2) (mn := 18) (as := [.inr (.inl (some 12)), .inl (0 : Int32)]) (rest := []) (p' := 135) h em16_132 ((congrFun xo_3 63).trans rfl) xm_18 rfl rfl
  have ho := oT_law (by omega) hnm (ex_law hE132 hA0 hAE htv (by omega))
  have er : r132 = none := ex_law_n hE132
  subst er
  replace h : eT xq_16 _ 135 [some (.inr (.inl (some 12))), some (.inl n), some (.inl i)] [] μ132 r μ' := h
  replace h := tx_goto (t := 179) h em16_135 (by decide)
  replace h := tx_iinc (v := 1) (p' := 182) h em16_179 (by decide +kernel) rfl rfl
  replace h : eT xq_16 _ 182 [some (.inr (.inl (some 12))), some (.inl n), some (.inl (i + 1))] [] μ132 r μ' := h
  obtain ⟨n2, hn2, h⟩ := tx_gotoS (t := 41) h em16_182 (by decide)
  have hi1 : (i + 1).toInt = i.toInt + 1 := by rw [an_add (by rw [e1i]; omega) (by rw [e1i]; omega), e1i]
  refine ih n2 hn2 _ _ h ?_
  rw [hi1]
  exact paI_s hI h0 hk0 ho
set_option maxRecDepth 10000 in
set_option maxHeartbeats 4000000 in
theorem pa_law1 {E : Int} {T : Int × Int} {ν μ' : xM} {r : Option zV} {n : Int32} {m : Nat} (ih : ∀ m2, m2 < m → ∀ (i : Int32) (ω : xM), eT xq_16 m2 41 [some (.inr (.inl (some 12))), some (.inl n), some (.inl i)] [] ω r μ' → paI E i.toInt T ν ω → paQ ν T r μ') {i : Int32} {ω : xM} (hI : paI E i.toInt T ν ω) (h0 : (ω.1 12 4).toInt = 0) (hk0 : ¬ cK ω (cA ω) = 0) (hkk : cK ω (cA ω) = 131) (h : eT xq_16 m 66 [some (.inr (.inl (some 12))), some (.inl n), some (.inl i)] [.inl (ω.1 24 (cA ω).toNat)] ω r μ') : paQ ν T r μ' := by
  have e1i : (1 : Int32).toInt = 1 := by decide
  have hA : cA ω ≤ 400 ∧ (0 ≤ cA ω ∧ cA ω ≤ E ∧ nmI E ω ∧ cTV ω E ∧ 0 ≤ i.toInt ∧ i.toInt ≤ cA ω) := by
    obtain ⟨g1, g2, g3⟩ := hI
    rcases g3 with ⟨a1, a2, a3, a4, a5, a6, a7⟩ | ⟨a1, -⟩
    · have := g2.1
      exact ⟨by omega, a3, a4, a2, g2, a5, a6⟩
    · exact absurd h0 a1
  obtain ⟨hA, hA0, hAE, hnm, htv, hi0, hiA⟩ := hA
  have hi9 := hA
  have hx : (ω.1 24 (cA ω).toNat).toInt = cK ω (cA ω) := rfl
  obtain ⟨t9, ht9, h⟩ := tx_tsw h em16_66
  have e9 : t9 = 138 := by
    have := tsw_k ht9 (k := 3) (off := 72) rfl (by omega) (by omega)
    omega
  subst e9
  replace h : eT xq_16 _ 138 [some (.inr (.inl (some 12))), some (.inl n), some (.inl i)] [] ω r μ' := h
  replace h := tx_aload_n (p' := 139) h em16_138 rfl rfl
  replace h := tx_iconst (v := 1) (p' := 140) h em16_139 (by decide +kernel) rfl
  obtain ⟨r140, μ140, hE140, h⟩ := tx_invV (na := 2) (mn := 18) (as := [.inr (.inl (some 12)), .inl (1 : Int32)]) (rest := []) (p' := 143) h em16_140 ((congrFun xo_3 63).trans rfl) xm_18 rfl rfl
  have ho := oT_law (by omega) hnm (ex_law hE140 hA0 hAE htv (by omega))
  have er : r140 = none := ex_law_n hE140
  subst er
  replace h : eT xq_16 _ 143 [some (.inr (.inl (some 12))), some (.inl n), some (.inl i)] [] μ140 r μ' := h
  replace h := tx_goto (t := 179) h em16_143 (by decide)
  replace h := tx_iinc (v := 1) (p' := 182) h em16_179 (by decide +kernel) rfl rfl
  replace h : eT xq_16 _ 182 [some (.inr (.inl (some 12))), some (.inl n), some (.inl (i + 1))] [] μ140 r μ' := h
  obtain ⟨n2, hn2, h⟩ := tx_gotoS (t := 41) h em16_182 (by decide)
  have hi1 : (i + 1).toInt = i.toInt + 1 := by rw [an_add (by rw [e1i]; omega) (by rw [e1i]; omega), e1i]
  refine ih n2 hn2 _ _ h ?_
  rw [hi1]
  exact paI_s hI h0 hk0 ho
set_option maxRecDepth 10000 in
set_option maxHeartbeats 4000000 in
theorem pa_law2 {E : Int} {T : Int × Int} {ν μ' : xM} {r : Option zV} {n : Int32} {m : Nat} (ih : ∀ m2, m2 < m → ∀ (i : Int32) (ω : xM), eT xq_16 m2 41 [some (.inr (.inl (some 12))), some (.inl n), some (.inl i)] [] ω r μ' → paI E i.toInt T ν ω → paQ ν T r μ') {i : Int32} {ω : xM} (hI : paI E i.toInt T ν ω) (h0 : (ω.1 12 4).toInt = 0) (hk0 : ¬ cK ω (cA ω) = 0) (hkk : cK ω (cA ω) = 132) (h : eT xq_16 m 66 [some (.inr (.inl (some 12))), some (.inl n), some (.inl i)] [.inl (ω.1 24 (cA ω).toNat)] ω r μ') : paQ ν T r μ' := by
  have e1i : (1 : Int32).toInt = 1 := by decide
  have hA : cA ω ≤ 400 ∧ (0 ≤ cA ω ∧ cA ω ≤ E ∧ nmI E ω ∧ cTV ω E ∧ 0 ≤ i.toInt ∧ i.toInt ≤ cA ω) := by
    obtain ⟨g1, g2, g3⟩ := hI
    rcases g3 with ⟨a1, a2, a3, a4, a5, a6, a7⟩ | ⟨a1, -⟩
    · have := g2.1
      exact ⟨by omega, a3, a4, a2, g2, a5, a6⟩
    · exact absurd h0 a1
  obtain ⟨hA, hA0, hAE, hnm, htv, hi0, hiA⟩ := hA
  have hi9 := hA
  have hx : (ω.1 24 (cA ω).toNat).toInt = cK ω (cA ω) := rfl
  obtain ⟨t9, ht9, h⟩ := tx_tsw h em16_66
  have e9 : t9 = 146 := by
    have := tsw_k ht9 (k := 4) (off := 80) rfl (by omega) (by omega)
    omega
  subst e9
  replace h : eT xq_16 _ 146 [some (.inr (.inl (some 12))), some (.inl n), some (.inl i)] [] ω r μ' := h
  replace h := tx_aload_n (p' := 147) h em16_146 rfl rfl
  replace h := tx_iconst (v := 2) (p' := 148) h em16_147 (by decide +kernel) rfl
  obtain ⟨r148, μ148, hE148, h⟩ := tx_invV (na := 2) (mn := 18) (as := [.inr (.inl (some 12)), .inl (2 : Int32)]) (rest := []) (p' := 151) h em16_148 ((congrFun xo_3 63).trans rfl) xm_18 rfl rfl
  have ho := oT_law (by omega) hnm (ex_law hE148 hA0 hAE htv (by omega))
  have er : r148 = none := ex_law_n hE148
  subst er
  replace h : eT xq_16 _ 151 [some (.inr (.inl (some 12))), some (.inl n), some (.inl i)] [] μ148 r μ' := h
  replace h := tx_goto (t := 179) h em16_151 (by decide)
  replace h := tx_iinc (v := 1) (p' := 182) h em16_179 (by decide +kernel) rfl rfl
  replace h : eT xq_16 _ 182 [some (.inr (.inl (some 12))), some (.inl n), some (.inl (i + 1))] [] μ148 r μ' := h
  obtain ⟨n2, hn2, h⟩ := tx_gotoS (t := 41) h em16_182 (by decide)
  have hi1 : (i + 1).toInt = i.toInt + 1 := by rw [an_add (by rw [e1i]; omega) (by rw [e1i]; omega), e1i]
  refine ih n2 hn2 _ _ h ?_
  rw [hi1]
  exact paI_s hI h0 hk0 ho
set_option maxRecDepth 10000 in
set_option maxHeartbeats 4000000 in
theorem pa_law3 {E : Int} {T : Int × Int} {ν μ' : xM} {r : Option zV} {n : Int32} {m : Nat} (ih : ∀ m2, m2 < m → ∀ (i : Int32) (ω : xM), eT xq_16 m2 41 [some (.inr (.inl (some 12))), some (.inl n), some (.inl i)] [] ω r μ' → paI E i.toInt T ν ω → paQ ν T r μ') {i : Int32} {ω : xM} (hI : paI E i.toInt T ν ω) (h0 : (ω.1 12 4).toInt = 0) (hk0 : ¬ cK ω (cA ω) = 0) (hkk : cK ω (cA ω) = 133) (h : eT xq_16 m 66 [some (.inr (.inl (some 12))), some (.inl n), some (.inl i)] [.inl (ω.1 24 (cA ω).toNat)] ω r μ') : paQ ν T r μ' := by
  have e1i : (1 : Int32).toInt = 1 := by decide
  have hA : cA ω ≤ 400 ∧ (0 ≤ cA ω ∧ cA ω ≤ E ∧ nmI E ω ∧ cTV ω E ∧ 0 ≤ i.toInt ∧ i.toInt ≤ cA ω) := by
    obtain ⟨g1, g2, g3⟩ := hI
    rcases g3 with ⟨a1, a2, a3, a4, a5, a6, a7⟩ | ⟨a1, -⟩
    · have := g2.1
      exact ⟨by omega, a3, a4, a2, g2, a5, a6⟩
    · exact absurd h0 a1
  obtain ⟨hA, hA0, hAE, hnm, htv, hi0, hiA⟩ := hA
  have hi9 := hA
  have hx : (ω.1 24 (cA ω).toNat).toInt = cK ω (cA ω) := rfl
  obtain ⟨t9, ht9, h⟩ := tx_tsw h em16_66
  have e9 : t9 = 154 := by
    have := tsw_k ht9 (k := 5) (off := 88) rfl (by omega) (by omega)
    omega
  subst e9
  replace h : eT xq_16 _ 154 [some (.inr (.inl (some 12))), some (.inl n), some (.inl i)] [] ω r μ' := h
  replace h := tx_aload_n (p' := 155) h em16_154 rfl rfl
  replace h := tx_iconst (v := 3) (p' := 156) h em16_155 (by decide +kernel) rfl
  obtain ⟨r156, μ156, hE156, h⟩ := tx_invV (na := 2) (mn := 18) (as := [.inr (.inl (some 12)), .inl (3 : Int32)]) (rest := []) (p' := 159) h em16_156 ((congrFun xo_3 63).trans rfl) xm_18 rfl rfl
  have ho := oT_law (by omega) hnm (ex_law hE156 hA0 hAE htv (by omega))
  have er : r156 = none := ex_law_n hE156
  subst er
  replace h : eT xq_16 _ 159 [some (.inr (.inl (some 12))), some (.inl n), some (.inl i)] [] μ156 r μ' := h
  replace h := tx_goto (t := 179) h em16_159 (by decide)
  replace h := tx_iinc (v := 1) (p' := 182) h em16_179 (by decide +kernel) rfl rfl
  replace h : eT xq_16 _ 182 [some (.inr (.inl (some 12))), some (.inl n), some (.inl (i + 1))] [] μ156 r μ' := h
  obtain ⟨n2, hn2, h⟩ := tx_gotoS (t := 41) h em16_182 (by decide)
  have hi1 : (i + 1).toInt = i.toInt + 1 := by rw [an_add (by rw [e1i]; omega) (by rw [e1i]; omega), e1i]
  refine ih n2 hn2 _ _ h ?_
  rw [hi1]
  exact paI_s hI h0 hk0 ho
set_option maxRecDepth 10000 in
set_option maxHeartbeats 4000000 in
theorem pa_num0 {E : Int} {T : Int × Int} {ν μ' : xM} {r : Option zV} {n : Int32} {m : Nat} (ih : ∀ m2, m2 < m → ∀ (i : Int32) (ω : xM), eT xq_16 m2 41 [some (.inr (.inl (some 12))), some (.inl n), some (.inl i)] [] ω r μ' → paI E i.toInt T ν ω → paQ ν T r μ') {i : Int32} {ω : xM} (hI : paI E i.toInt T ν ω) (h0 : (ω.1 12 4).toInt = 0) (hk0 : ¬ cK ω (cA ω) = 0) (hkk : cK ω (cA ω) = 134) (h : eT xq_16 m 66 [some (.inr (.inl (some 12))), some (.inl n), some (.inl i)] [.inl (ω.1 24 (cA ω).toNat)] ω r μ') : paQ ν T r μ' := by
  have e1i : (1 : Int32).toInt = 1 := by decide
  have hA : cA ω ≤ 400 ∧ (0 ≤ cA ω ∧ cA ω ≤ E ∧ nmI E ω ∧ cTV ω E ∧ 0 ≤ i.toInt ∧ i.toInt ≤ cA ω) := by
    obtain ⟨g1, g2, g3⟩ := hI
    rcases g3 with ⟨a1, a2, a3, a4, a5, a6, a7⟩ | ⟨a1, -⟩
    · have := g2.1
      exact ⟨by omega, a3, a4, a2, g2, a5, a6⟩
    · exact absurd h0 a1
  obtain ⟨hA, hA0, hAE, hnm, htv, hi0, hiA⟩ := hA
  have hi9 := hA
  have hx : (ω.1 24 (cA ω).toNat).toInt = cK ω (cA ω) := rfl
  obtain ⟨t9, ht9, h⟩ := tx_tsw h em16_66
  have e9 : t9 = 162 := by
    have := tsw_k ht9 (k := 6) (off := 96) rfl (by omega) (by omega)
    omega
  subst e9
  replace h : eT xq_16 _ 162 [some (.inr (.inl (some 12))), some (.inl n), some (.inl i)] [] ω r μ' := h
  replace h := tx_aload_n (p' := 163) h em16_162 rfl rfl
  replace h := tx_aload_n (p' := 164) h em16_163 rfl rfl
  obtain ⟨r164, μ164, hE164, h⟩ := tx_invV (na := 1) (mn := 13) (as := [.inr (.inl (some 12))]) (rest := [.inr (.inl (some 12))]) (p' := 167) h em16_164 ((congrFun xo_3 53).trans rfl) xm_13 rfl rfl
  obtain ⟨rfl, hm164⟩ := ex_next hE164 (by have := hA; omega)
  rw [hm164] at h
  replace h : eT xq_16 _ 167 [some (.inr (.inl (some 12))), some (.inl n), some (.inl i)] [.inl (ω.1 24 (cA ω).toNat), .inr (.inl (some 12))] ω r μ' := h
  obtain ⟨r167, μ167, hE167, h⟩ := tx_invV (na := 2) (mn := 19) (as := [.inr (.inl (some 12)), .inl (ω.1 24 (cA ω).toNat)]) (rest := []) (p' := 170) h em16_167 ((congrFun xo_3 67).trans rfl) xm_19 rfl rfl
  obtain ⟨rfl, ho⟩ := ex_number hE167 hA0 hAE htv hnm rfl (by show 134 ≤ cK ω (cA ω) ∧ cK ω (cA ω) ≤ 136; omega)
  replace h : eT xq_16 _ 170 [some (.inr (.inl (some 12))), some (.inl n), some (.inl i)] [] μ167 r μ' := h
  replace h := tx_goto (t := 179) h em16_170 (by decide)
  replace h := tx_iinc (v := 1) (p' := 182) h em16_179 (by decide +kernel) rfl rfl
  replace h : eT xq_16 _ 182 [some (.inr (.inl (some 12))), some (.inl n), some (.inl (i + 1))] [] μ167 r μ' := h
  obtain ⟨n2, hn2, h⟩ := tx_gotoS (t := 41) h em16_182 (by decide)
  have hi1 : (i + 1).toInt = i.toInt + 1 := by rw [an_add (by rw [e1i]; omega) (by rw [e1i]; omega), e1i]
  refine ih n2 hn2 _ _ h ?_
  rw [hi1]
  exact paI_s hI h0 hk0 ho
set_option maxRecDepth 10000 in
set_option maxHeartbeats 4000000 in
theorem pa_num1 {E : Int} {T : Int × Int} {ν μ' : xM} {r : Option zV} {n : Int32} {m : Nat} (ih : ∀ m2, m2 < m → ∀ (i : Int32) (ω : xM), eT xq_16 m2 41 [some (.inr (.inl (some 12))), some (.inl n), some (.inl i)] [] ω r μ' → paI E i.toInt T ν ω → paQ ν T r μ') {i : Int32} {ω : xM} (hI : paI E i.toInt T ν ω) (h0 : (ω.1 12 4).toInt = 0) (hk0 : ¬ cK ω (cA ω) = 0) (hkk : cK ω (cA ω) = 135) (h : eT xq_16 m 66 [some (.inr (.inl (some 12))), some (.inl n), some (.inl i)] [.inl (ω.1 24 (cA ω).toNat)] ω r μ') : paQ ν T r μ' := by
  have e1i : (1 : Int32).toInt = 1 := by decide
  have hA : cA ω ≤ 400 ∧ (0 ≤ cA ω ∧ cA ω ≤ E ∧ nmI E ω ∧ cTV ω E ∧ 0 ≤ i.toInt ∧ i.toInt ≤ cA ω) := by
    obtain ⟨g1, g2, g3⟩ := hI
    rcases g3 with ⟨a1, a2, a3, a4, a5, a6, a7⟩ | ⟨a1, -⟩
    · have := g2.1
      exact ⟨by omega, a3, a4, a2, g2, a5, a6⟩
    · exact absurd h0 a1
  obtain ⟨hA, hA0, hAE, hnm, htv, hi0, hiA⟩ := hA
  have hi9 := hA
  have hx : (ω.1 24 (cA ω).toNat).toInt = cK ω (cA ω) := rfl
  obtain ⟨t9, ht9, h⟩ := tx_tsw h em16_66
  have e9 : t9 = 162 := by
    have := tsw_k ht9 (k := 7) (off := 96) rfl (by omega) (by omega)
    omega
  subst e9
  replace h : eT xq_16 _ 162 [some (.inr (.inl (some 12))), some (.inl n), some (.inl i)] [] ω r μ' := h
  replace h := tx_aload_n (p' := 163) h em16_162 rfl rfl
  replace h := tx_aload_n (p' := 164) h em16_163 rfl rfl
  obtain ⟨r164, μ164, hE164, h⟩ := tx_invV (na := 1) (mn := 13) (as := [.inr (.inl (some 12))]) (rest := [.inr (.inl (some 12))]) (p' := 167) h em16_164 ((congrFun xo_3 53).trans rfl) xm_13 rfl rfl
  obtain ⟨rfl, hm164⟩ := ex_next hE164 (by have := hA; omega)
  rw [hm164] at h
  replace h : eT xq_16 _ 167 [some (.inr (.inl (some 12))), some (.inl n), some (.inl i)] [.inl (ω.1 24 (cA ω).toNat), .inr (.inl (some 12))] ω r μ' := h
  obtain ⟨r167, μ167, hE167, h⟩ := tx_invV (na := 2) (mn := 19) (as := [.inr (.inl (some 12)), .inl (ω.1 24 (cA ω).toNat)]) (rest := []) (p' := 170) h em16_167 ((congrFun xo_3 67).trans rfl) xm_19 rfl rfl
  obtain ⟨rfl, ho⟩ := ex_number hE167 hA0 hAE htv hnm rfl (by show 134 ≤ cK ω (cA ω) ∧ cK ω (cA ω) ≤ 136; omega)
  replace h : eT xq_16 _ 170 [some (.inr (.inl (some 12))), some (.inl n), some (.inl i)] [] μ167 r μ' := h
  replace h := tx_goto (t := 179) h em16_170 (by decide)
  replace h := tx_iinc (v := 1) (p' := 182) h em16_179 (by decide +kernel) rfl rfl
  replace h : eT xq_16 _ 182 [some (.inr (.inl (some 12))), some (.inl n), some (.inl (i + 1))] [] μ167 r μ' := h
  obtain ⟨n2, hn2, h⟩ := tx_gotoS (t := 41) h em16_182 (by decide)
  have hi1 : (i + 1).toInt = i.toInt + 1 := by rw [an_add (by rw [e1i]; omega) (by rw [e1i]; omega), e1i]
  refine ih n2 hn2 _ _ h ?_
  rw [hi1]
  exact paI_s hI h0 hk0 ho
set_option maxRecDepth 10000 in
set_option maxHeartbeats 4000000 in
theorem pa_num2 {E : Int} {T : Int × Int} {ν μ' : xM} {r : Option zV} {n : Int32} {m : Nat} (ih : ∀ m2, m2 < m → ∀ (i : Int32) (ω : xM), eT xq_16 m2 41 [some (.inr (.inl (some 12))), some (.inl n), some (.inl i)] [] ω r μ' → paI E i.toInt T ν ω → paQ ν T r μ') {i : Int32} {ω : xM} (hI : paI E i.toInt T ν ω) (h0 : (ω.1 12 4).toInt = 0) (hk0 : ¬ cK ω (cA ω) = 0) (hkk : cK ω (cA ω) = 136) (h : eT xq_16 m 66 [some (.inr (.inl (some 12))), some (.inl n), some (.inl i)] [.inl (ω.1 24 (cA ω).toNat)] ω r μ') : paQ ν T r μ' := by
  have e1i : (1 : Int32).toInt = 1 := by decide
  have hA : cA ω ≤ 400 ∧ (0 ≤ cA ω ∧ cA ω ≤ E ∧ nmI E ω ∧ cTV ω E ∧ 0 ≤ i.toInt ∧ i.toInt ≤ cA ω) := by
    obtain ⟨g1, g2, g3⟩ := hI
    rcases g3 with ⟨a1, a2, a3, a4, a5, a6, a7⟩ | ⟨a1, -⟩
    · have := g2.1
      exact ⟨by omega, a3, a4, a2, g2, a5, a6⟩
    · exact absurd h0 a1
  obtain ⟨hA, hA0, hAE, hnm, htv, hi0, hiA⟩ := hA
  have hi9 := hA
  have hx : (ω.1 24 (cA ω).toNat).toInt = cK ω (cA ω) := rfl
  obtain ⟨t9, ht9, h⟩ := tx_tsw h em16_66
  have e9 : t9 = 162 := by
    have := tsw_k ht9 (k := 8) (off := 96) rfl (by omega) (by omega)
    omega
  subst e9
  replace h : eT xq_16 _ 162 [some (.inr (.inl (some 12))), some (.inl n), some (.inl i)] [] ω r μ' := h
  replace h := tx_aload_n (p' := 163) h em16_162 rfl rfl
  replace h := tx_aload_n (p' := 164) h em16_163 rfl rfl
  obtain ⟨r164, μ164, hE164, h⟩ := tx_invV (na := 1) (mn := 13) (as := [.inr (.inl (some 12))]) (rest := [.inr (.inl (some 12))]) (p' := 167) h em16_164 ((congrFun xo_3 53).trans rfl) xm_13 rfl rfl
  obtain ⟨rfl, hm164⟩ := ex_next hE164 (by have := hA; omega)
  rw [hm164] at h
  replace h : eT xq_16 _ 167 [some (.inr (.inl (some 12))), some (.inl n), some (.inl i)] [.inl (ω.1 24 (cA ω).toNat), .inr (.inl (some 12))] ω r μ' := h
  obtain ⟨r167, μ167, hE167, h⟩ := tx_invV (na := 2) (mn := 19) (as := [.inr (.inl (some 12)), .inl (ω.1 24 (cA ω).toNat)]) (rest := []) (p' := 170) h em16_167 ((congrFun xo_3 67).trans rfl) xm_19 rfl rfl
  obtain ⟨rfl, ho⟩ := ex_number hE167 hA0 hAE htv hnm rfl (by show 134 ≤ cK ω (cA ω) ∧ cK ω (cA ω) ≤ 136; omega)
  replace h : eT xq_16 _ 170 [some (.inr (.inl (some 12))), some (.inl n), some (.inl i)] [] μ167 r μ' := h
  replace h := tx_goto (t := 179) h em16_170 (by decide)
  replace h := tx_iinc (v := 1) (p' := 182) h em16_179 (by decide +kernel) rfl rfl
  replace h : eT xq_16 _ 182 [some (.inr (.inl (some 12))), some (.inl n), some (.inl (i + 1))] [] μ167 r μ' := h
  obtain ⟨n2, hn2, h⟩ := tx_gotoS (t := 41) h em16_182 (by decide)
  have hi1 : (i + 1).toInt = i.toInt + 1 := by rw [an_add (by rw [e1i]; omega) (by rw [e1i]; omega), e1i]
  refine ih n2 hn2 _ _ h ?_
  rw [hi1]
  exact paI_s hI h0 hk0 ho
set_option maxRecDepth 10000 in
set_option maxHeartbeats 4000000 in
theorem pa_else {E : Int} {T : Int × Int} {ν μ' : xM} {r : Option zV} {n : Int32} {m : Nat} (ih : ∀ m2, m2 < m → ∀ (i : Int32) (ω : xM), eT xq_16 m2 41 [some (.inr (.inl (some 12))), some (.inl n), some (.inl i)] [] ω r μ' → paI E i.toInt T ν ω → paQ ν T r μ') {i : Int32} {ω : xM} (hI : paI E i.toInt T ν ω) (h0 : (ω.1 12 4).toInt = 0) (hk0 : ¬ cK ω (cA ω) = 0) (hkk : cK ω (cA ω) < 128 ∨ 136 < cK ω (cA ω)) (h : eT xq_16 m 66 [some (.inr (.inl (some 12))), some (.inl n), some (.inl i)] [.inl (ω.1 24 (cA ω).toNat)] ω r μ') : paQ ν T r μ' := by
  have e1i : (1 : Int32).toInt = 1 := by decide
  have hA : cA ω ≤ 400 ∧ (0 ≤ cA ω ∧ cA ω ≤ E ∧ nmI E ω ∧ cTV ω E ∧ 0 ≤ i.toInt ∧ i.toInt ≤ cA ω) := by
    obtain ⟨g1, g2, g3⟩ := hI
    rcases g3 with ⟨a1, a2, a3, a4, a5, a6, a7⟩ | ⟨a1, -⟩
    · have := g2.1
      exact ⟨by omega, a3, a4, a2, g2, a5, a6⟩
    · exact absurd h0 a1
  obtain ⟨hA, hA0, hAE, hnm, htv, hi0, hiA⟩ := hA
  have hi9 := hA
  have hx : (ω.1 24 (cA ω).toNat).toInt = cK ω (cA ω) := rfl
  obtain ⟨t9, ht9, h⟩ := tx_tsw h em16_66
  have e9 : t9 = 173 := by
    have := tsw_d ht9 (by decide) (by omega)
    omega
  subst e9
  replace h : eT xq_16 _ 173 [some (.inr (.inl (some 12))), some (.inl n), some (.inl i)] [] ω r μ' := h
  replace h := tx_aload_n (p' := 174) h em16_173 rfl rfl
  replace h := tx_iconst (v := 1) (p' := 175) h em16_174 (by decide +kernel) rfl
  obtain ⟨r175, μ175, hE175, h⟩ := tx_invV (na := 2) (mn := 10) (as := [.inr (.inl (some 12)), .inl (1 : Int32)]) (rest := []) (p' := 178) h em16_175 ((congrFun xo_3 70).trans rfl) xm_10 rfl rfl
  obtain ⟨rfl, hmf⟩ := ex_fail hE175 hA
  have ho := oT_else (e := E) (μ := ω) (by omega)
  rw [← hmf] at ho
  replace h : eT xq_16 _ 178 [some (.inr (.inl (some 12))), some (.inl n), some (.inl i)] [.inl (0 : Int32)] μ175 r μ' := h
  replace h := tx_pop (p' := 179) h em16_178 rfl
  replace h := tx_iinc (v := 1) (p' := 182) h em16_179 (by decide +kernel) rfl rfl
  replace h : eT xq_16 _ 182 [some (.inr (.inl (some 12))), some (.inl n), some (.inl (i + 1))] [] μ175 r μ' := h
  obtain ⟨n2, hn2, h⟩ := tx_gotoS (t := 41) h em16_182 (by decide)
  have hi1 : (i + 1).toInt = i.toInt + 1 := by rw [an_add (by rw [e1i]; omega) (by rw [e1i]; omega), e1i]
  refine ih n2 hn2 _ _ h ?_
  rw [hi1]
  exact paI_s hI h0 hk0 ho
set_option maxRecDepth 10000 in
set_option maxHeartbeats 4000000 in
theorem pa_loop {E : Int} {T : Int × Int} {ν μ' : xM} {r : Option zV} {n : Int32} : ∀ m : Nat, ∀ (i : Int32) (ω : xM), eT xq_16 m 41 [some (.inr (.inl (some 12))), some (.inl n), some (.inl i)] [] ω r μ' → paI E i.toInt T ν ω → paQ ν T r μ' := by
  have e1i : (1 : Int32).toInt = 1 := by decide
  intro m
  induction m using Nat.strongRecOn with
  | ind m ih =>
  intro i ω h hI
  have h185 : eT xq_16 m 185 [some (.inr (.inl (some 12))), some (.inl n), some (.inl i)] [] ω r μ' → (400 < i.toInt ∨ ¬ (ω.1 12 4).toInt = 0 ∨ cK ω (cA ω) = 0) → paQ ν T r μ' := by
    intro h hx
    replace h := tx_aload_n (p' := 186) h em16_185 rfl rfl
    replace h := tx_getf (c := 2) (j := 4) (p' := 189) h em16_186 ((congrFun xo_3 44).trans rfl) rfl rfl (by decide) rfl
    rcases tx_if (t := 208) (p' := 192) h em16_189 (by decide) rfl with ⟨c189, h⟩ | ⟨c189, h⟩
    · replace c189 : ¬ (ω.1 12 4).toInt = 0 := c189
      replace h := tx_aload_n (p' := 209) h em16_208 rfl rfl
      replace h := tx_getf (c := 2) (j := 4) (p' := 212) h em16_209 ((congrFun xo_3 44).trans rfl) rfl rfl (by decide) rfl
      obtain ⟨rfl, hμ⟩ := tx_ireturn h em16_212
      rw [hμ]
      obtain ⟨g1, g2, g3⟩ := hI
      rcases g3 with ⟨a1, -⟩ | ⟨a1, a2⟩
      · omega
      · exact ⟨g1, _, rfl, by rw [a2], fun _ => by rw [a2]⟩
    · replace c189 : ¬ ¬ (ω.1 12 4).toInt = 0 := c189
      replace h := tx_aload_n (p' := 193) h em16_192 rfl rfl
      replace h := tx_aload_n (p' := 194) h em16_193 rfl rfl
      replace h := tx_getf (c := 2) (j := 6) (p' := 197) h em16_194 ((congrFun xo_3 47).trans rfl) rfl rfl (by decide) rfl
      replace h := tx_putf (a := 12) (c := 2) (j := 4) (p' := 200) h em16_197 ((congrFun xo_3 44).trans rfl) rfl
      replace h := tx_aload_n (p' := 201) h em16_200 rfl rfl
      replace h := tx_aload_n (p' := 202) h em16_201 rfl rfl
      replace h := tx_getf (c := 2) (j := 7) (p' := 205) h em16_202 ((congrFun xo_3 74).trans rfl) rfl rfl (by decide) rfl
      replace h : eT xq_16 _ 205 [some (.inr (.inl (some 12))), some (.inl n), some (.inl i)] [.inl (ω.1 12 7), .inr (.inl (some 12))] (xpi ω 12 4 (ω.1 12 6)) r μ' := h
      replace h := tx_putf (a := 12) (c := 2) (j := 5) (p' := 208) h em16_205 ((congrFun xo_3 77).trans rfl) rfl
      replace h := tx_aload_n (p' := 209) h em16_208 rfl rfl
      replace h := tx_getf (c := 2) (j := 4) (p' := 212) h em16_209 ((congrFun xo_3 44).trans rfl) rfl rfl (by decide) rfl
      replace h : eT xq_16 _ 212 [some (.inr (.inl (some 12))), some (.inl n), some (.inl i)] [.inl (ω.1 12 6)] (xpi (xpi ω 12 4 (ω.1 12 6)) 12 5 (ω.1 12 7)) r μ' := h
      obtain ⟨rfl, hμ⟩ := tx_ireturn h em16_212
      rw [hμ]
      obtain ⟨g1, g2, g3⟩ := hI
      rcases g3 with ⟨a1, a2, a3, a4, a5, a6, a7⟩ | ⟨a1, -⟩
      · have hw : T = cW ω := by
          rw [a7]
          rcases hx with hx | hx | hx
          · have := g2.1; omega
          · exact absurd a1 hx
          · rw [gE_K g1] at hx
            have := g2.1
            rw [show (401 - i.toInt).toNat = (400 - i.toInt).toNat + 1 by omega]
            unfold cTx pText
            rw [if_pos hx]
        refine ⟨gE_i (gE_i g1 (by decide)) (by decide), _, rfl, ?_, fun _ => ?_⟩
        · rw [hw]; rfl
        · rw [hw]; rfl
      · omega
  have h55 : eT xq_16 m 55 [some (.inr (.inl (some 12))), some (.inl n), some (.inl i)] [] ω r μ' → (ω.1 12 4).toInt = 0 → i.toInt ≤ 400 → paQ ν T r μ' := by
    intro h h0 hi4
    have hA : cA ω ≤ 400 := by
      obtain ⟨g1, g2, g3⟩ := hI
      rcases g3 with ⟨a1, a2, a3, a4, -⟩ | ⟨a1, -⟩
      · have := g2.1; omega
      · exact absurd h0 a1
    replace h := tx_aload_n (p' := 56) h em16_55 rfl rfl
    obtain ⟨r56, μ56, hE56, h⟩ := tx_invV (na := 1) (mn := 13) (as := [.inr (.inl (some 12))]) (rest := []) (p' := 59) h em16_56 ((congrFun xo_3 53).trans rfl) xm_13 rfl rfl
    obtain ⟨rfl, hm56⟩ := ex_next hE56 (by have := hA; omega)
    rw [hm56] at h
    replace h : eT xq_16 _ 59 [some (.inr (.inl (some 12))), some (.inl n), some (.inl i)] [.inl (ω.1 24 (cA ω).toNat)] ω r μ' := h
    rcases tx_if (t := 185) (p' := 62) h em16_59 (by decide) rfl with ⟨c59, h⟩ | ⟨c59, h⟩
    · replace c59 : (ω.1 24 (cA ω).toNat).toInt = 0 := c59
      exact h185 h (Or.inr (Or.inr (by unfold cK; omega)))
    · replace c59 : ¬ (ω.1 24 (cA ω).toNat).toInt = 0 := c59
      replace h := tx_aload_n (p' := 63) h em16_62 rfl rfl
      obtain ⟨r63, μ63, hE63, h⟩ := tx_invV (na := 1) (mn := 13) (as := [.inr (.inl (some 12))]) (rest := []) (p' := 66) h em16_63 ((congrFun xo_3 53).trans rfl) xm_13 rfl rfl
      obtain ⟨rfl, hm63⟩ := ex_next hE63 (by have := hA; omega)
      rw [hm63] at h
      replace h : eT xq_16 _ 66 [some (.inr (.inl (some 12))), some (.inl n), some (.inl i)] [.inl (ω.1 24 (cA ω).toNat)] ω r μ' := h
      have hk0 : ¬ cK ω (cA ω) = 0 := by unfold cK; omega
      have hx : (ω.1 24 (cA ω).toNat).toInt = cK ω (cA ω) := rfl
      by_cases a : 128 ≤ cK ω (cA ω) ∧ cK ω (cA ω) ≤ 136
      · have h7 : cK ω (cA ω) = 128 ∨ cK ω (cA ω) = 129 ∨ cK ω (cA ω) = 130 ∨ cK ω (cA ω) = 131 ∨ cK ω (cA ω) = 132 ∨ cK ω (cA ω) = 133 ∨ cK ω (cA ω) = 134 ∨ cK ω (cA ω) = 135 ∨ cK ω (cA ω) = 136 := by omega
        rcases h7 with e | e | e | e | e | e | e | e | e
        · exact pa_house ih hI h0 hk0 e h
        · exact pa_verse ih hI h0 hk0 e h
        · exact pa_law0 ih hI h0 hk0 e h
        · exact pa_law1 ih hI h0 hk0 e h
        · exact pa_law2 ih hI h0 hk0 e h
        · exact pa_law3 ih hI h0 hk0 e h
        · exact pa_num0 ih hI h0 hk0 e h
        · exact pa_num1 ih hI h0 hk0 e h
        · exact pa_num2 ih hI h0 hk0 e h
      · exact pa_else ih hI h0 hk0 (by omega) h
  replace h := tx_iload_n (p' := 42) h em16_41 rfl rfl
  replace h := tx_sipush (v := 400) (p' := 45) h em16_42 (by decide +kernel) rfl
  rcases tx_icmp (t := 185) (p' := 48) h em16_45 (by decide) rfl with ⟨c45, h⟩ | ⟨c45, h⟩
  · replace c45 : 400 < i.toInt := c45
    exact h185 h (Or.inl (by omega))
  · replace c45 : ¬ 400 < i.toInt := c45
    replace h := tx_aload_n (p' := 49) h em16_48 rfl rfl
    replace h := tx_getf (c := 2) (j := 4) (p' := 52) h em16_49 ((congrFun xo_3 44).trans rfl) rfl rfl (by decide) rfl
    rcases tx_if (t := 185) (p' := 55) h em16_52 (by decide) rfl with ⟨c52, h⟩ | ⟨c52, h⟩
    · replace c52 : ¬ (ω.1 12 4).toInt = 0 := c52
      exact h185 h (Or.inr (Or.inl (by omega)))
    · replace c52 : ¬ ¬ (ω.1 12 4).toInt = 0 := c52
      exact h55 h (by omega) (by omega)
/-- cells of the parser alone are changed -/
def pqE (μ ν : xM) : Prop := (∀ k j, (k < 12 ∨ 27 < k) → ν.1 k j = μ.1 k j) ∧ ν.2 = μ.2
theorem cK_p {ν : xM} {j : Nat} {v : Int32} : cK (xpi ν 12 j v) = cK ν ∧ cP (xpi ν 12 j v) = cP ν ∧ cS (xpi ν 12 j v) = cS ν := ⟨funext fun a => by unfold cK; rw [xpi_ne (fun q => absurd q.1 (by decide))], funext fun a => by unfold cP; rw [xpi_ne (fun q => absurd q.1 (by decide))], funext fun a => by unfold cS; rw [xpi_ne (fun q => absurd q.1 (by decide))]⟩
set_option maxRecDepth 10000 in
set_option maxHeartbeats 4000000 in
theorem ex_parse {nn : Int32} {μ μ' : xM} {r : Option zV} (h0 : Ex gx xq_16 [.inr (.inl (some 12)), .inl nn] μ r μ') (hn0 : 0 ≤ nn.toInt) (hn1 : nn.toInt ≤ 2000) : ∃ (x : Int32) (E : Int) (w : Int × Int), r = some (.inl x) ∧ pqE μ μ' ∧ cTV μ' E ∧ tkC (kB μ 1) nn.toInt (cP μ') (cS μ') (cK μ') E ∧ (∀ a, 0 ≤ a → a < E → 2 ≤ cK μ' a) ∧ (E < 400 → cK μ' E ≤ 1) ∧ w.1 = 0 ∧ x.toInt = (cTx μ' 401 0 0 0 [] w).1 ∧ (¬ (cTx μ' 401 0 0 0 [] w).1 = 0 → (μ'.1 12 5).toInt = (cTx μ' 401 0 0 0 [] w).2) := by
  obtain ⟨n, h⟩ := tx_in (L := [some (.inr (.inl (some 12))), some (.inl nn), none]) h0 rfl
  replace h := tx_aload_n (p' := 1) h em16_0 rfl rfl
  replace h := tx_getc (c := 2) (j := 0) (p' := 4) h em16_1 ((congrFun xo_3 12).trans rfl) rfl rfl rfl
  obtain ⟨r4, μ4, hE4, h⟩ := tx_invV (na := 1) (mn := 47) (as := [.inr (.inl (some 13))]) (rest := []) (p' := 7) h em16_4 ((congrFun xo_3 33).trans rfl) xm_47 rfl rfl
  obtain ⟨rfl, hwi, hz0, hz1⟩ := ex_wipe hE4
  replace h : eT xq_16 _ 7 [some (.inr (.inl (some 12))), some (.inl nn), none] [] μ4 r μ' := h
  replace h := tx_aload_n (p' := 8) h em16_7 rfl rfl
  replace h := tx_getc (c := 2) (j := 1) (p' := 11) h em16_8 ((congrFun xo_3 21).trans rfl) rfl rfl rfl
  replace h := tx_aload_n (p' := 12) h em16_11 rfl rfl
  replace h := tx_getc (c := 2) (j := 2) (p' := 15) h em16_12 ((congrFun xo_3 29).trans rfl) rfl rfl rfl
  replace h := tx_iload_n (p' := 16) h em16_15 rfl rfl
  obtain ⟨r16, μ16, hE16, h⟩ := tx_invV (na := 3) (mn := 48) (as := [.inr (.inl (some 23)), .inr (.inl (some 1)), .inl nn]) (rest := []) (p' := 19) h em16_16 ((congrFun xo_3 36).trans rfl) xm_48 rfl rfl
  obtain ⟨rfl, htF, E, htC, htK, htE⟩ := ex_scan hE16 hn0 hn1
  replace h : eT xq_16 _ 19 [some (.inr (.inl (some 12))), some (.inl nn), none] [] μ16 r μ' := h
  replace h := tx_aload_n (p' := 20) h em16_19 rfl rfl
  replace h := tx_iconst (v := 0) (p' := 21) h em16_20 (by decide +kernel) rfl
  replace h := tx_putf (a := 12) (c := 2) (j := 3) (p' := 24) h em16_21 ((congrFun xo_3 40).trans rfl) rfl
  replace h := tx_aload_n (p' := 25) h em16_24 rfl rfl
  replace h := tx_iconst (v := 0) (p' := 26) h em16_25 (by decide +kernel) rfl
  replace h := tx_putf (a := 12) (c := 2) (j := 4) (p' := 29) h em16_26 ((congrFun xo_3 44).trans rfl) rfl
  replace h := tx_aload_n (p' := 30) h em16_29 rfl rfl
  replace h := tx_iconst (v := 0) (p' := 31) h em16_30 (by decide +kernel) rfl
  replace h := tx_putf (a := 12) (c := 2) (j := 6) (p' := 34) h em16_31 ((congrFun xo_3 47).trans rfl) rfl
  replace h := tx_aload_n (p' := 35) h em16_34 rfl rfl
  replace h := tx_iconst (v := 0) (p' := 36) h em16_35 (by decide +kernel) rfl
  replace h := tx_putf (a := 12) (c := 2) (j := 9) (p' := 39) h em16_36 ((congrFun xo_3 50).trans rfl) rfl
  replace h := tx_iconst (v := 0) (p' := 40) h em16_39 (by decide +kernel) rfl
  replace h := tx_istore_n (p' := 41) h em16_40 rfl
  replace h : eT xq_16 _ 41 [some (.inr (.inl (some 12))), some (.inl nn), some (.inl (0 : Int32))] [] (xpi (xpi (xpi (xpi μ16 12 3 (0 : Int32)) 12 4 (0 : Int32)) 12 6 (0 : Int32)) 12 9 (0 : Int32)) r μ' := h
  have hq : pqE μ (xpi (xpi (xpi (xpi μ16 12 3 (0 : Int32)) 12 4 (0 : Int32)) 12 6 (0 : Int32)) 12 9 (0 : Int32)) := ⟨fun k j hk => by rw [xpi_ne (fun q => by omega), xpi_ne (fun q => by omega), xpi_ne (fun q => by omega), xpi_ne (fun q => by omega), htF.1 k j (by omega) (by omega) (by omega), hwi.1 k j (by omega)], htF.2.trans hwi.2⟩
  have eB : kB μ4 1 = kB μ 1 := by funext i; unfold kB; rw [hwi.1 1 _ (by decide)]
  rw [eB] at htC
  have e3 : cK (xpi (xpi (xpi (xpi μ16 12 3 (0 : Int32)) 12 4 (0 : Int32)) 12 6 (0 : Int32)) 12 9 (0 : Int32)) = cK μ16 ∧ cP (xpi (xpi (xpi (xpi μ16 12 3 (0 : Int32)) 12 4 (0 : Int32)) 12 6 (0 : Int32)) 12 9 (0 : Int32)) = cP μ16 ∧ cS (xpi (xpi (xpi (xpi μ16 12 3 (0 : Int32)) 12 4 (0 : Int32)) 12 6 (0 : Int32)) 12 9 (0 : Int32)) = cS μ16 := ⟨by rw [cK_p.1, cK_p.1, cK_p.1, cK_p.1], by rw [cK_p.2.1, cK_p.2.1, cK_p.2.1, cK_p.2.1], by rw [cK_p.2.2, cK_p.2.2, cK_p.2.2, cK_p.2.2]⟩
  have htv0 : cTV (xpi (xpi (xpi (xpi μ16 12 3 (0 : Int32)) 12 4 (0 : Int32)) 12 6 (0 : Int32)) 12 9 (0 : Int32)) E := by
    refine cTV_of (n := nn.toInt) (μ := μ) hn1 (by rw [e3.1, e3.2.1, e3.2.2]; exact htC) (by rw [e3.1]; exact htE) (fun j => hq.1 1 j (by decide))
  have z13 : ∀ j, (xpi (xpi (xpi (xpi μ16 12 3 (0 : Int32)) 12 4 (0 : Int32)) 12 6 (0 : Int32)) 12 9 (0 : Int32)).1 13 j = μ4.1 13 j := fun j => (htF.1 13 j (by decide) (by decide) (by decide))
  have eH : cH (xpi (xpi (xpi (xpi μ16 12 3 (0 : Int32)) 12 4 (0 : Int32)) 12 6 (0 : Int32)) 12 9 (0 : Int32)) = 0 := by unfold cH; rw [z13 0, hz0]; decide
  have eU : cU (xpi (xpi (xpi (xpi μ16 12 3 (0 : Int32)) 12 4 (0 : Int32)) 12 6 (0 : Int32)) 12 9 (0 : Int32)) = 0 := by unfold cU; rw [z13 1, hz1]; decide
  have e9 : ((xpi (xpi (xpi (xpi μ16 12 3 (0 : Int32)) 12 4 (0 : Int32)) 12 6 (0 : Int32)) 12 9 (0 : Int32)).1 12 9).toInt = 0 := by rw [xpi_at]; decide
  have eN : cN (xpi (xpi (xpi (xpi μ16 12 3 (0 : Int32)) 12 4 (0 : Int32)) 12 6 (0 : Int32)) 12 9 (0 : Int32)) = [] := by unfold cN cNn; rw [e9]; rfl
  have eA : cA (xpi (xpi (xpi (xpi μ16 12 3 (0 : Int32)) 12 4 (0 : Int32)) 12 6 (0 : Int32)) 12 9 (0 : Int32)) = 0 := by unfold cA; rfl
  have hI : paI E (0 : Int32).toInt (cTx (xpi (xpi (xpi (xpi μ16 12 3 (0 : Int32)) 12 4 (0 : Int32)) 12 6 (0 : Int32)) 12 9 (0 : Int32)) 401 0 0 0 [] (cW (xpi (xpi (xpi (xpi μ16 12 3 (0 : Int32)) 12 4 (0 : Int32)) 12 6 (0 : Int32)) 12 9 (0 : Int32)))) (xpi (xpi (xpi (xpi μ16 12 3 (0 : Int32)) 12 4 (0 : Int32)) 12 6 (0 : Int32)) 12 9 (0 : Int32)) (xpi (xpi (xpi (xpi μ16 12 3 (0 : Int32)) 12 4 (0 : Int32)) 12 6 (0 : Int32)) 12 9 (0 : Int32)) := by
    refine ⟨gE_rf, htv0, Or.inl ⟨rfl, ⟨by rw [eH]; omega, by rw [eU]; omega, by rw [e9, eH, eU]; decide, fun i hi => ?_⟩, by rw [eA]; omega, by rw [eA]; exact htC.1.1, by decide, by rw [eA]; decide, by rw [eA, eH, eU, eN]; rfl⟩⟩
    exfalso
    unfold cNn at hi
    rw [e9] at hi
    exact absurd (show i < 0 from hi) (Nat.not_lt_zero i)
  obtain ⟨l1, x, l2, l3, l4⟩ := pa_loop _ _ _ h hI
  refine ⟨x, E, cW (xpi (xpi (xpi (xpi μ16 12 3 (0 : Int32)) 12 4 (0 : Int32)) 12 6 (0 : Int32)) 12 9 (0 : Int32)), l2, ⟨fun k j hk => (l1.1 k j (by omega) (by omega)).trans (hq.1 k j hk), l1.2.trans hq.2⟩, gE_TV l1 htv0, ?_, ?_, ?_, by unfold cW; rfl, ?_, ?_⟩
  · rw [gE_K l1, gE_P l1, gE_S l1, e3.1, e3.2.1, e3.2.2]; exact htC
  · rw [gE_K l1, e3.1]; exact htK
  · rw [gE_K l1, e3.1]; exact htE
  · rw [gE_cTx l1]; exact l3
  · rw [gE_cTx l1]; exact l4
