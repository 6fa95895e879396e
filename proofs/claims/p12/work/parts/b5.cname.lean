noncomputable def bl2 (p : Prop) : Bool := @decide p (Classical.propDecidable p)
theorem bl2_t {p : Prop} : bl2 p = true ↔ p := by unfold bl2; exact @decide_eq_true_iff p (Classical.propDecidable p)
theorem bl2_f {p : Prop} : bl2 p = false ↔ ¬ p := by unfold bl2; exact @decide_eq_false_iff_not p (Classical.propDecidable p)
/-- a byte of a token -/
def cB (μ : xM) (a : Int) (i : Nat) : Int := (μ.1 1 ((cP μ a).toNat + i)).toInt
/-- all its letters are a .. h; two tokens are the same -/
def cL (μ : xM) (a : Int) : Prop := ∀ i : Nat, (i : Int) < cS μ a → cB μ a i ≤ 104
def cM (μ : xM) (a b : Int) : Prop := cS μ a = cS μ b ∧ ∀ i : Nat, (i : Int) < cS μ a → cB μ a i = cB μ b i
/-- names told, the later fault -/
def cNn (μ : xM) : Nat := (μ.1 12 9).toInt.toNat
def cN (μ : xM) : List Int := (List.range (cNn μ)).map (fun i => (μ.1 27 i).toInt)
def cW (μ : xM) : Int × Int := ((μ.1 12 6).toInt, (μ.1 12 7).toInt)
abbrev xq_237 : xP := (⟨"CapitalCase$Parser", "letterOf", "(II)I"⟩, prog_4_method_13_code, 3, (some .int))
abbrev xq_238 : xP := (⟨"CapitalCase$Parser", "areLetters", "(I)Z"⟩, prog_4_method_12_code, 3, (some .boolean))
abbrev xq_12 : xP := (⟨"CapitalCase$Parser", "isSame", "(II)Z"⟩, prog_4_method_11_code, 4, (some .boolean))
abbrev xq_15 : xP := (⟨"CapitalCase$Parser", "noteName", "(I)V"⟩, prog_4_method_10_code, 3, none)
set_option maxRecDepth 10000 in
set_option maxHeartbeats 4000000 in
theorem ex_letterOf {t i : Int32} {E : Int} {μ μ' : xM} {r : Option zV} (h0 : Ex gx xq_237 [.inr (.inl (some 12)), .inl t, .inl i] μ r μ') (ht : cTV μ E) (ht0 : 0 ≤ t.toInt) (ht1 : t.toInt ≤ E) (hk : cK μ t.toInt = 2) (hi0 : 0 ≤ i.toInt) (hi1 : i.toInt < cS μ t.toInt) : ∃ v : Int32, r = some (.inl v) ∧ v.toInt = cB μ t.toInt i.toInt.toNat - 97 ∧ μ' = μ := by
  obtain ⟨n, h⟩ := tx_in (L := [some (.inr (.inl (some 12))), some (.inl t), some (.inl i)]) h0 rfl
  obtain ⟨⟨hp0, hp2⟩, -, hq2⟩ := ht.2.2 t.toInt ht0 ht1
  obtain ⟨hs1, hs8, hsb⟩ := hq2 hk
  have ea : ((μ.1 25 t.toInt.toNat) + i).toInt = cP μ t.toInt + i.toInt := by rw [an_add (by unfold cP at hp0 hp2; omega) (by unfold cP at hp0 hp2; omega)]; rfl
  have eb : (μ.1 1 ((μ.1 25 t.toInt.toNat) + i).toInt.toNat).toInt = cB μ t.toInt i.toInt.toNat := by unfold cB; rw [ea, show (cP μ t.toInt + i.toInt).toNat = (cP μ t.toInt).toNat + i.toInt.toNat by omega]
  have hb := hsb i.toInt.toNat (by omega)
  have hb2 : 97 ≤ cB μ t.toInt i.toInt.toNat ∧ cB μ t.toInt i.toInt.toNat ≤ 122 := hb
  have e97 : (97 : Int32).toInt = 97 := by decide
  replace h := tx_aload_n (p' := 1) h em237_0 rfl rfl
  replace h := tx_getc (c := 2) (j := 2) (p' := 4) h em237_1 ((congrFun xo_3 29).trans rfl) rfl rfl rfl
  replace h := tx_aload_n (p' := 5) h em237_4 rfl rfl
  replace h := tx_getc (c := 2) (j := 1) (p' := 8) h em237_5 ((congrFun xo_3 21).trans rfl) rfl rfl rfl
  replace h := tx_getc (c := 7) (j := 1) (p' := 11) h em237_8 ((congrFun xo_3 83).trans rfl) rfl rfl rfl
  replace h := tx_iload_n (p' := 12) h em237_11 rfl rfl
  obtain ⟨hb12, h⟩ := tx_iald (len := 401) (p' := 13) h em237_12 rfl rfl
  replace hb12 : 0 ≤ t.toInt ∧ t.toInt < 401 := hb12
  replace h := tx_iload_n (p' := 14) h em237_13 rfl rfl
  replace h := tx_iadd (p' := 15) h em237_14 rfl
  obtain ⟨hb15, h⟩ := tx_bald (len := 2000) (p' := 16) h em237_15 rfl rfl
  replace hb15 : 0 ≤ ((μ.1 25 t.toInt.toNat) + i).toInt ∧ ((μ.1 25 t.toInt.toNat) + i).toInt < 2000 := hb15
  replace h := tx_bipush (v := 97) (p' := 18) h em237_16 (by decide +kernel) rfl
  replace h := tx_isub (p' := 19) h em237_18 rfl
  obtain ⟨rfl, hμ⟩ := tx_ireturn h em237_19
  exact ⟨_, rfl, by rw [an_sub (by rw [eb, e97]; omega) (by rw [eb, e97]; omega), eb, e97], hμ⟩
set_option maxRecDepth 10000 in
set_option maxHeartbeats 4000000 in
theorem ex_areLetters {t : Int32} {E : Int} {μ μ' : xM} {r : Option zV} (h0 : Ex gx xq_238 [.inr (.inl (some 12)), .inl t] μ r μ') (ht : cTV μ E) (ht0 : 0 ≤ t.toInt) (ht1 : t.toInt ≤ E) (hk : cK μ t.toInt = 2) : (r = some (.inl 1) ∧ cL μ t.toInt ∧ μ' = μ) ∨ (r = some (.inl 0) ∧ ¬ cL μ t.toInt ∧ μ' = μ) := by
  obtain ⟨n, h⟩ := tx_in (L := [some (.inr (.inl (some 12))), some (.inl t), none]) h0 rfl
  obtain ⟨⟨hp0, hp2⟩, -, hq2⟩ := ht.2.2 t.toInt ht0 ht1
  obtain ⟨hs1, hs8, hsb⟩ := hq2 hk
  have loop : ∀ (n : Nat) (i : Int32), eT xq_238 n 2 [some (.inr (.inl (some 12))), some (.inl t), some (.inl i)] [] μ r μ' → 0 ≤ i.toInt → (∀ j : Nat, (j : Int) < i.toInt → cB μ t.toInt j ≤ 104) → (r = some (.inl 1) ∧ cL μ t.toInt ∧ μ' = μ) ∨ (r = some (.inl 0) ∧ ¬ cL μ t.toInt ∧ μ' = μ) := by
    intro n
    induction n using Nat.strongRecOn with
    | ind n ih =>
    intro i h hi0 hall
    replace h := tx_iload_n (p' := 3) h em238_2 rfl rfl
    replace h := tx_aload_n (p' := 4) h em238_3 rfl rfl
    replace h := tx_getc (c := 2) (j := 1) (p' := 7) h em238_4 ((congrFun xo_3 21).trans rfl) rfl rfl rfl
    replace h := tx_getc (c := 7) (j := 2) (p' := 10) h em238_7 ((congrFun xo_3 102).trans rfl) rfl rfl rfl
    replace h := tx_iload_n (p' := 11) h em238_10 rfl rfl
    obtain ⟨hb11, h⟩ := tx_iald (len := 401) (p' := 12) h em238_11 rfl rfl
    replace hb11 : 0 ≤ t.toInt ∧ t.toInt < 401 := hb11
    rcases tx_icmp (t := 34) (p' := 15) h em238_12 (by decide) rfl with ⟨c12, h⟩ | ⟨c12, h⟩
    · replace c12 : (μ.1 26 t.toInt.toNat).toInt ≤ i.toInt := c12
      replace h := tx_iconst (v := 1) (p' := 35) h em238_34 (by decide +kernel) rfl
      obtain ⟨rfl, hμ⟩ := tx_ireturn h em238_35
      exact Or.inl ⟨rfl, fun j hj => hall j (by unfold cS at hj; omega), hμ⟩
    · replace c12 : ¬ (μ.1 26 t.toInt.toNat).toInt ≤ i.toInt := c12
      replace c12 : i.toInt < cS μ t.toInt := by unfold cS; omega
      replace h := tx_aload_n (p' := 16) h em238_15 rfl rfl
      replace h := tx_iload_n (p' := 17) h em238_16 rfl rfl
      replace h := tx_iload_n (p' := 18) h em238_17 rfl rfl
      obtain ⟨r18, μ18, hE18, h⟩ := tx_invV (na := 3) (mn := 237) (as := [.inr (.inl (some 12)), .inl t, .inl i]) (rest := []) (p' := 21) h em238_18 ((congrFun xo_3 105).trans rfl) xm_237 rfl rfl
      obtain ⟨lv, rfl, hlv, hm⟩ := ex_letterOf hE18 ht ht0 ht1 hk (by omega) (by omega)
      rw [hm] at h
      replace h : eT xq_238 _ 21 [some (.inr (.inl (some 12))), some (.inl t), some (.inl i)] [.inl lv] μ r μ' := h
      replace h := tx_bipush (v := 8) (p' := 23) h em238_21 (by decide +kernel) rfl
      rcases tx_icmp (t := 28) (p' := 26) h em238_23 (by decide) rfl with ⟨c23, h⟩ | ⟨c23, h⟩
      · replace c23 : lv.toInt < 8 := c23
        replace h := tx_iinc (v := 1) (p' := 31) h em238_28 (by decide +kernel) rfl rfl
        replace h : eT xq_238 _ 31 [some (.inr (.inl (some 12))), some (.inl t), some (.inl (i + 1))] [] μ r μ' := h
        obtain ⟨n2, hn2, h⟩ := tx_gotoS (t := 2) h em238_31 (by decide)
        have e1i : (1 : Int32).toInt = 1 := by decide
        have hi1 : (i + 1).toInt = i.toInt + 1 := by rw [an_add (by rw [e1i]; omega) (by rw [e1i]; omega), e1i]
        exact ih n2 hn2 _ h (by rw [hi1]; omega) (fun j hj => by
          by_cases e : j = i.toInt.toNat
          · subst e; omega
          · exact hall j (by omega))
      · replace c23 : ¬ lv.toInt < 8 := c23
        replace h := tx_iconst (v := 0) (p' := 27) h em238_26 (by decide +kernel) rfl
        obtain ⟨rfl, hμ⟩ := tx_ireturn h em238_27
        exact Or.inr ⟨rfl, fun hh => by have := hh i.toInt.toNat (by omega); omega, hμ⟩
  replace h := tx_iconst (v := 0) (p' := 1) h em238_0 (by decide +kernel) rfl
  replace h := tx_istore_n (p' := 2) h em238_1 rfl
  replace h : eT xq_238 _ 2 [some (.inr (.inl (some 12))), some (.inl t), some (.inl (0 : Int32))] [] μ r μ' := h
  exact loop _ _ h (by decide) (fun j hj => absurd hj (by show ¬ (j : Int) < 0; omega))
set_option maxRecDepth 10000 in
set_option maxHeartbeats 4000000 in
theorem ex_isSame {t u : Int32} {E : Int} {μ μ' : xM} {r : Option zV} (h0 : Ex gx xq_12 [.inr (.inl (some 12)), .inl t, .inl u] μ r μ') (ht : cTV μ E) (ht0 : 0 ≤ t.toInt) (ht1 : t.toInt ≤ E) (hk : cK μ t.toInt = 2) (hu0 : 0 ≤ u.toInt) (hu1 : u.toInt ≤ E) (huk : cK μ u.toInt = 2) : (r = some (.inl 1) ∧ cM μ t.toInt u.toInt ∧ μ' = μ) ∨ (r = some (.inl 0) ∧ ¬ cM μ t.toInt u.toInt ∧ μ' = μ) := by
  obtain ⟨n, h⟩ := tx_in (L := [some (.inr (.inl (some 12))), some (.inl t), some (.inl u), none]) h0 rfl
  obtain ⟨⟨hp0, hp2⟩, -, hq2⟩ := ht.2.2 t.toInt ht0 ht1
  obtain ⟨hs1, hs8, hsb⟩ := hq2 hk
  obtain ⟨⟨hup0, hup2⟩, -, huq2⟩ := ht.2.2 u.toInt hu0 hu1
  obtain ⟨hus1, hus8, husb⟩ := huq2 huk
  have loop : ∀ (n : Nat) (i : Int32), cS μ t.toInt = cS μ u.toInt → eT xq_12 n 25 [some (.inr (.inl (some 12))), some (.inl t), some (.inl u), some (.inl i)] [] μ r μ' → 0 ≤ i.toInt → (∀ j : Nat, (j : Int) < i.toInt → cB μ t.toInt j = cB μ u.toInt j) → (r = some (.inl 1) ∧ cM μ t.toInt u.toInt ∧ μ' = μ) ∨ (r = some (.inl 0) ∧ ¬ cM μ t.toInt u.toInt ∧ μ' = μ) := by
    intro n
    induction n using Nat.strongRecOn with
    | ind n ih =>
    intro i hsz h hi0 hall
    replace h := tx_iload_n (p' := 26) h em12_25 rfl rfl
    replace h := tx_aload_n (p' := 27) h em12_26 rfl rfl
    replace h := tx_getc (c := 2) (j := 1) (p' := 30) h em12_27 ((congrFun xo_3 21).trans rfl) rfl rfl rfl
    replace h := tx_getc (c := 7) (j := 2) (p' := 33) h em12_30 ((congrFun xo_3 102).trans rfl) rfl rfl rfl
    replace h := tx_iload_n (p' := 34) h em12_33 rfl rfl
    obtain ⟨hb34, h⟩ := tx_iald (len := 401) (p' := 35) h em12_34 rfl rfl
    replace hb34 : 0 ≤ t.toInt ∧ t.toInt < 401 := hb34
    rcases tx_icmp (t := 81) (p' := 38) h em12_35 (by decide) rfl with ⟨c35, h⟩ | ⟨c35, h⟩
    · replace c35 : (μ.1 26 t.toInt.toNat).toInt ≤ i.toInt := c35
      replace h := tx_iconst (v := 1) (p' := 82) h em12_81 (by decide +kernel) rfl
      obtain ⟨rfl, hμ⟩ := tx_ireturn h em12_82
      exact Or.inl ⟨rfl, ⟨hsz, fun j hj => hall j (by unfold cS at hj; omega)⟩, hμ⟩
    · replace c35 : ¬ (μ.1 26 t.toInt.toNat).toInt ≤ i.toInt := c35
      replace c35 : i.toInt < cS μ t.toInt := by unfold cS; omega
      have eat : ((μ.1 25 t.toInt.toNat) + i).toInt = cP μ t.toInt + i.toInt := by rw [an_add (by unfold cP at hp0 hp2; omega) (by unfold cP at hp0 hp2; omega)]; rfl
      have ebt : (μ.1 1 ((μ.1 25 t.toInt.toNat) + i).toInt.toNat).toInt = cB μ t.toInt i.toInt.toNat := by unfold cB; rw [eat, show (cP μ t.toInt + i.toInt).toNat = (cP μ t.toInt).toNat + i.toInt.toNat by omega]
      have eau : ((μ.1 25 u.toInt.toNat) + i).toInt = cP μ u.toInt + i.toInt := by rw [an_add (by unfold cP at hup0 hup2; omega) (by unfold cP at hup0 hup2; omega)]; rfl
      have ebu : (μ.1 1 ((μ.1 25 u.toInt.toNat) + i).toInt.toNat).toInt = cB μ u.toInt i.toInt.toNat := by unfold cB; rw [eau, show (cP μ u.toInt + i.toInt).toNat = (cP μ u.toInt).toNat + i.toInt.toNat by omega]
      replace h := tx_aload_n (p' := 39) h em12_38 rfl rfl
      replace h := tx_getc (c := 2) (j := 2) (p' := 42) h em12_39 ((congrFun xo_3 29).trans rfl) rfl rfl rfl
      replace h := tx_aload_n (p' := 43) h em12_42 rfl rfl
      replace h := tx_getc (c := 2) (j := 1) (p' := 46) h em12_43 ((congrFun xo_3 21).trans rfl) rfl rfl rfl
      replace h := tx_getc (c := 7) (j := 1) (p' := 49) h em12_46 ((congrFun xo_3 83).trans rfl) rfl rfl rfl
      replace h := tx_iload_n (p' := 50) h em12_49 rfl rfl
      obtain ⟨hb50, h⟩ := tx_iald (len := 401) (p' := 51) h em12_50 rfl rfl
      replace hb50 : 0 ≤ t.toInt ∧ t.toInt < 401 := hb50
      replace h := tx_iload_n (p' := 52) h em12_51 rfl rfl
      replace h := tx_iadd (p' := 53) h em12_52 rfl
      obtain ⟨hb53, h⟩ := tx_bald (len := 2000) (p' := 54) h em12_53 rfl rfl
      replace hb53 : 0 ≤ ((μ.1 25 t.toInt.toNat) + i).toInt ∧ ((μ.1 25 t.toInt.toNat) + i).toInt < 2000 := hb53
      replace h := tx_aload_n (p' := 55) h em12_54 rfl rfl
      replace h := tx_getc (c := 2) (j := 2) (p' := 58) h em12_55 ((congrFun xo_3 29).trans rfl) rfl rfl rfl
      replace h := tx_aload_n (p' := 59) h em12_58 rfl rfl
      replace h := tx_getc (c := 2) (j := 1) (p' := 62) h em12_59 ((congrFun xo_3 21).trans rfl) rfl rfl rfl
      replace h := tx_getc (c := 7) (j := 1) (p' := 65) h em12_62 ((congrFun xo_3 83).trans rfl) rfl rfl rfl
      replace h := tx_iload_n (p' := 66) h em12_65 rfl rfl
      obtain ⟨hb66, h⟩ := tx_iald (len := 401) (p' := 67) h em12_66 rfl rfl
      replace hb66 : 0 ≤ u.toInt ∧ u.toInt < 401 := hb66
      replace h := tx_iload_n (p' := 68) h em12_67 rfl rfl
      replace h := tx_iadd (p' := 69) h em12_68 rfl
      obtain ⟨hb69, h⟩ := tx_bald (len := 2000) (p' := 70) h em12_69 rfl rfl
      replace hb69 : 0 ≤ ((μ.1 25 u.toInt.toNat) + i).toInt ∧ ((μ.1 25 u.toInt.toNat) + i).toInt < 2000 := hb69
      rcases tx_icmp (t := 75) (p' := 73) h em12_70 (by decide) rfl with ⟨c70, h⟩ | ⟨c70, h⟩
      · replace c70 : (μ.1 1 ((μ.1 25 t.toInt.toNat) + i).toInt.toNat).toInt = (μ.1 1 ((μ.1 25 u.toInt.toNat) + i).toInt.toNat).toInt := c70
        replace h := tx_iinc (v := 1) (p' := 78) h em12_75 (by decide +kernel) rfl rfl
        replace h : eT xq_12 _ 78 [some (.inr (.inl (some 12))), some (.inl t), some (.inl u), some (.inl (i + 1))] [] μ r μ' := h
        obtain ⟨n2, hn2, h⟩ := tx_gotoS (t := 25) h em12_78 (by decide)
        have e1i : (1 : Int32).toInt = 1 := by decide
        have hi1 : (i + 1).toInt = i.toInt + 1 := by rw [an_add (by rw [e1i]; omega) (by rw [e1i]; omega), e1i]
        exact ih n2 hn2 _ hsz h (by rw [hi1]; omega) (fun j hj => by
          by_cases e : j = i.toInt.toNat
          · subst e; omega
          · exact hall j (by omega))
      · replace c70 : ¬ (μ.1 1 ((μ.1 25 t.toInt.toNat) + i).toInt.toNat).toInt = (μ.1 1 ((μ.1 25 u.toInt.toNat) + i).toInt.toNat).toInt := c70
        replace h := tx_iconst (v := 0) (p' := 74) h em12_73 (by decide +kernel) rfl
        obtain ⟨rfl, hμ⟩ := tx_ireturn h em12_74
        exact Or.inr ⟨rfl, fun hh => by have := hh.2 i.toInt.toNat (by omega); omega, hμ⟩
  replace h := tx_aload_n (p' := 1) h em12_0 rfl rfl
  replace h := tx_getc (c := 2) (j := 1) (p' := 4) h em12_1 ((congrFun xo_3 21).trans rfl) rfl rfl rfl
  replace h := tx_getc (c := 7) (j := 2) (p' := 7) h em12_4 ((congrFun xo_3 102).trans rfl) rfl rfl rfl
  replace h := tx_iload_n (p' := 8) h em12_7 rfl rfl
  obtain ⟨hb8, h⟩ := tx_iald (len := 401) (p' := 9) h em12_8 rfl rfl
  replace hb8 : 0 ≤ t.toInt ∧ t.toInt < 401 := hb8
  replace h := tx_aload_n (p' := 10) h em12_9 rfl rfl
  replace h := tx_getc (c := 2) (j := 1) (p' := 13) h em12_10 ((congrFun xo_3 21).trans rfl) rfl rfl rfl
  replace h := tx_getc (c := 7) (j := 2) (p' := 16) h em12_13 ((congrFun xo_3 102).trans rfl) rfl rfl rfl
  replace h := tx_iload_n (p' := 17) h em12_16 rfl rfl
  obtain ⟨hb17, h⟩ := tx_iald (len := 401) (p' := 18) h em12_17 rfl rfl
  replace hb17 : 0 ≤ u.toInt ∧ u.toInt < 401 := hb17
  rcases tx_icmp (t := 23) (p' := 21) h em12_18 (by decide) rfl with ⟨c18, h⟩ | ⟨c18, h⟩
  · replace c18 : (μ.1 26 t.toInt.toNat).toInt = (μ.1 26 u.toInt.toNat).toInt := c18
    replace h := tx_iconst (v := 0) (p' := 24) h em12_23 (by decide +kernel) rfl
    replace h := tx_istore_n (p' := 25) h em12_24 rfl
    replace h : eT xq_12 _ 25 [some (.inr (.inl (some 12))), some (.inl t), some (.inl u), some (.inl (0 : Int32))] [] μ r μ' := h
    exact loop _ _ c18 h (by decide) (fun j hj => absurd hj (by show ¬ (j : Int) < 0; omega))
  · replace c18 : ¬ (μ.1 26 t.toInt.toNat).toInt = (μ.1 26 u.toInt.toNat).toInt := c18
    replace h := tx_iconst (v := 0) (p' := 22) h em12_21 (by decide +kernel) rfl
    obtain ⟨rfl, hμ⟩ := tx_ireturn h em12_22
    exact Or.inr ⟨rfl, fun hh => c18 hh.1, hμ⟩
/-- what noting a later fault leaves -/
def nE (μ μ' : xM) : Prop := (∀ k j, k ≠ 12 → μ'.1 k j = μ.1 k j) ∧ (∀ j, j ≠ 6 → j ≠ 7 → μ'.1 12 j = μ.1 12 j) ∧ μ'.2 = μ.2
theorem nE_rf {μ : xM} : nE μ μ := ⟨fun _ _ _ => rfl, fun _ _ _ => rfl, rfl⟩
theorem nE_tr {μ ν μ' : xM} (h1 : nE μ ν) (h2 : nE ν μ') : nE μ μ' := ⟨fun k j a => (h2.1 k j a).trans (h1.1 k j a), fun j a b => (h2.2.1 j a b).trans (h1.2.1 j a b), h2.2.2.trans h1.2.2⟩
theorem nE_K {μ ν : xM} (h : nE μ ν) : cK ν = cK μ ∧ cP ν = cP μ ∧ cS ν = cS μ ∧ cB ν = cB μ ∧ cN ν = cN μ ∧ cA ν = cA μ := by
  have e : ∀ k, k ≠ 12 → ∀ j, ν.1 k j = μ.1 k j := fun k hk j => h.1 k j hk
  refine ⟨?_, ?_, ?_, ?_, ?_, ?_⟩
  · funext a; unfold cK; rw [e 24 (by decide)]
  · funext a; unfold cP; rw [e 25 (by decide)]
  · funext a; unfold cS; rw [e 26 (by decide)]
  · funext a i; unfold cB cP; rw [e 25 (by decide), e 1 (by decide)]
  · unfold cN cNn; rw [h.2.1 9 (by decide) (by decide)]; simp only [e 27 (by decide)]
  · unfold cA; rw [h.2.1 3 (by decide) (by decide)]
theorem nE_M {μ ν : xM} (h : nE μ ν) : cM ν = cM μ ∧ cL ν = cL μ := by
  obtain ⟨h1, h2, h3, h4, -, -⟩ := nE_K h
  exact ⟨by unfold cM; rw [h3, h4], by unfold cL; rw [h3, h4]⟩
theorem nE_TV {μ ν : xM} {E : Int} (h : nE μ ν) (ht : cTV μ E) : cTV ν E := by
  obtain ⟨h1, h2, h3, -⟩ := nE_K h
  unfold cTV
  rw [h1, h2, h3]
  have e : ∀ j, ν.1 1 j = μ.1 1 j := fun j => h.1 1 j (by decide)
  simp only [e]
  exact ht
/-- noting, as the account says it -/
theorem note_ok {w f t : Int32} {μ μ' : xM} {r : Option zV} {b : Prop} (h0 : Ex gx xq_14 [.inr (.inl (some 12)), .inl w, .inl f, .inl t] μ r μ') (hw : ¬ w.toInt = 0 ↔ b) : r = none ∧ nE μ μ' ∧ cW μ' = pNote f.toInt (cP μ t.toInt) (bl2 b) (cW μ) := by
  obtain ⟨h1, ⟨h2, h3, rfl⟩ | ⟨h2, rfl⟩⟩ := ex_noteLater h0
  · refine ⟨h1, ⟨fun k j hk => ?_, fun j a c => ?_, rfl⟩, ?_⟩
    · rw [xpi_ne (fun q => hk q.1), xpi_ne (fun q => hk q.1)]
    · rw [xpi_ne (fun q => c q.2), xpi_ne (fun q => a q.2)]
    · unfold pNote
      rw [if_pos ⟨bl2_t.mpr (hw.mp h2), h3⟩]
      rfl
  · refine ⟨h1, nE_rf, ?_⟩
    unfold pNote
    rw [if_neg]
    intro ⟨q1, q2⟩
    rcases h2 with h2 | h2
    · exact (hw.mpr (bl2_t.mp q1)) h2
    · exact h2 q2
theorem pNote_2 {c p : Int} {a b : Prop} {w : Int × Int} (hc : ¬ c = 0) : pNote c p (bl2 b) (pNote c p (bl2 a) w) = pNote c p (bl2 (a ∨ b)) w := by
  unfold pNote
  by_cases h0 : w.1 = 0
  · by_cases ha : a
    · rw [if_pos (show bl2 a = true ∧ w.1 = 0 from ⟨bl2_t.mpr ha, h0⟩), if_neg (fun q => hc q.2), if_pos ⟨bl2_t.mpr (Or.inl ha), h0⟩]
    · rw [if_neg (show ¬ (bl2 a = true ∧ w.1 = 0) from fun q => ha (bl2_t.mp q.1))]
      by_cases hb : b
      · rw [if_pos ⟨bl2_t.mpr hb, h0⟩, if_pos ⟨bl2_t.mpr (Or.inr hb), h0⟩]
      · rw [if_neg (fun q => hb (bl2_t.mp q.1)), if_neg (fun q => (bl2_t.mp q.1).elim ha hb)]
  · rw [if_neg (show ¬ (bl2 a = true ∧ w.1 = 0) from fun q => h0 q.2), if_neg (fun q => h0 q.2), if_neg (fun q => h0 q.2)]
theorem pNote_0 {c p : Int} {a : Prop} {w : Int × Int} (ha : ¬ a) : pNote c p (bl2 a) w = w := by
  unfold pNote
  rw [if_neg (fun q => ha (bl2_t.mp q.1))]
theorem pNote_cg {c p : Int} {a b : Prop} {w : Int × Int} (h : a ↔ b) : pNote c p (bl2 a) w = pNote c p (bl2 b) w := by rw [propext h]
set_option maxRecDepth 10000 in
set_option maxHeartbeats 4000000 in
theorem ex_noteName {t : Int32} {E : Int} {μ μ' : xM} {r : Option zV} (h0 : Ex gx xq_15 [.inr (.inl (some 12)), .inl t] μ r μ') (ht : cTV μ E) (ht0 : 0 ≤ t.toInt) (ht1 : t.toInt ≤ E) (hk : cK μ t.toInt = 2) (hns : ∀ i : Nat, i < cNn μ → 0 ≤ (μ.1 27 i).toInt ∧ (μ.1 27 i).toInt ≤ E ∧ cK μ (μ.1 27 i).toInt = 2) (hn0 : 0 ≤ (μ.1 12 9).toInt) (hn11 : (μ.1 12 9).toInt ≤ 11) : r = none ∧ (∀ k j, k ≠ 12 → k ≠ 27 → μ'.1 k j = μ.1 k j) ∧ (∀ j, j ≠ 6 → j ≠ 7 → j ≠ 9 → μ'.1 12 j = μ.1 12 j) ∧ μ'.2 = μ.2 ∧ cW μ' = pNote 3 (cP μ t.toInt) (bl2 (∃ i : Nat, i < cNn μ ∧ cM μ (μ.1 27 i).toInt t.toInt)) (cW μ) ∧ (μ.1 12 9).toInt + 1 = (μ'.1 12 9).toInt ∧ (∀ i : Nat, i < cNn μ → μ'.1 27 i = μ.1 27 i) ∧ μ'.1 27 (cNn μ) = t := by
  obtain ⟨n, h⟩ := tx_in (L := [some (.inr (.inl (some 12))), some (.inl t), none]) h0 rfl
  have loop : ∀ (n : Nat) (i : Int32) (ν : xM), eT xq_15 n 2 [some (.inr (.inl (some 12))), some (.inl t), some (.inl i)] [] ν r μ' → 0 ≤ i.toInt → i.toInt ≤ (μ.1 12 9).toInt → nE μ ν → cW ν = pNote 3 (cP μ t.toInt) (bl2 (∃ j : Nat, (j : Int) < i.toInt ∧ cM μ (μ.1 27 j).toInt t.toInt)) (cW μ) → r = none ∧ (∀ k j, k ≠ 12 → k ≠ 27 → μ'.1 k j = μ.1 k j) ∧ (∀ j, j ≠ 6 → j ≠ 7 → j ≠ 9 → μ'.1 12 j = μ.1 12 j) ∧ μ'.2 = μ.2 ∧ cW μ' = pNote 3 (cP μ t.toInt) (bl2 (∃ i : Nat, i < cNn μ ∧ cM μ (μ.1 27 i).toInt t.toInt)) (cW μ) ∧ (μ.1 12 9).toInt + 1 = (μ'.1 12 9).toInt ∧ (∀ i : Nat, i < cNn μ → μ'.1 27 i = μ.1 27 i) ∧ μ'.1 27 (cNn μ) = t := by
    intro n
    induction n using Nat.strongRecOn with
    | ind n ih =>
    intro i ν h hi0 hi9 hG hW
    replace h := tx_iload_n (p' := 3) h em15_2 rfl rfl
    replace h := tx_aload_n (p' := 4) h em15_3 rfl rfl
    replace h := tx_getf (c := 2) (j := 9) (p' := 7) h em15_4 ((congrFun xo_3 50).trans rfl) rfl rfl (by decide) rfl
    rcases tx_icmp (t := 33) (p' := 10) h em15_7 (by decide) rfl with ⟨c7, h⟩ | ⟨c7, h⟩
    · replace c7 : (ν.1 12 9).toInt ≤ i.toInt := c7
      replace h := tx_aload_n (p' := 34) h em15_33 rfl rfl
      replace h := tx_getf (c := 2) (j := 9) (p' := 37) h em15_34 ((congrFun xo_3 50).trans rfl) rfl rfl (by decide) rfl
      replace h := tx_aload_n (p' := 38) h em15_37 rfl rfl
      replace h := tx_getc (c := 2) (j := 8) (p' := 41) h em15_38 ((congrFun xo_3 25).trans rfl) rfl rfl rfl
      replace h := tx_alen (p' := 42) h em15_41 rfl rfl
      rcases tx_icmp (t := 65) (p' := 45) h em15_42 (by decide) rfl with ⟨c42, h⟩ | ⟨c42, h⟩
      · replace c42 : (Int32.ofNat 12).toInt ≤ (ν.1 12 9).toInt := c42
        obtain ⟨rfl, hμ⟩ := tx_return h em15_65
        exfalso
        have e12 : (Int32.ofNat 12).toInt = 12 := by decide
        have hnn : (ν.1 12 9) = μ.1 12 9 := hG.2.1 9 (by decide) (by decide)
        rw [hnn] at c42
        omega
      · replace c42 : ¬ (Int32.ofNat 12).toInt ≤ (ν.1 12 9).toInt := c42
        replace h := tx_aload_n (p' := 46) h em15_45 rfl rfl
        replace h := tx_getc (c := 2) (j := 8) (p' := 49) h em15_46 ((congrFun xo_3 25).trans rfl) rfl rfl rfl
        replace h := tx_aload_n (p' := 50) h em15_49 rfl rfl
        replace h := tx_getf (c := 2) (j := 9) (p' := 53) h em15_50 ((congrFun xo_3 50).trans rfl) rfl rfl (by decide) rfl
        replace h := tx_iload_n (p' := 54) h em15_53 rfl rfl
        obtain ⟨hb54, h⟩ := tx_iast (len := 12) (p' := 55) h em15_54 rfl rfl
        replace hb54 : 0 ≤ (ν.1 12 9).toInt ∧ (ν.1 12 9).toInt < 12 := hb54
        replace h := tx_aload_n (p' := 56) h em15_55 rfl rfl
        replace h := tx_dup (p' := 57) h em15_56 rfl
        replace h := tx_getf (c := 2) (j := 9) (p' := 60) h em15_57 ((congrFun xo_3 50).trans rfl) rfl rfl (by decide) rfl
        replace h : eT xq_15 _ 60 [some (.inr (.inl (some 12))), some (.inl t), some (.inl i)] [.inl (ν.1 12 9), .inr (.inl (some 12))] (xpi ν 27 (ν.1 12 9).toInt.toNat t) r μ' := h
        replace h := tx_iconst (v := 1) (p' := 61) h em15_60 (by decide +kernel) rfl
        replace h := tx_iadd (p' := 62) h em15_61 rfl
        replace h := tx_putf (a := 12) (c := 2) (j := 9) (p' := 65) h em15_62 ((congrFun xo_3 50).trans rfl) rfl
        obtain ⟨rfl, hμ⟩ := tx_return h em15_65
        have e1i : (1 : Int32).toInt = 1 := by decide
        have hnn : (ν.1 12 9) = μ.1 12 9 := hG.2.1 9 (by decide) (by decide)
        rw [hnn] at hμ c7
        subst hμ
        clear ih
        refine ⟨rfl, fun k j a b => ?_, fun j a b c => ?_, hG.2.2, ?_, ?_, fun i hi => ?_, ?_⟩
        · rw [xpi_ne (fun q => a q.1), xpi_ne (fun q => b q.1)]
          exact hG.1 k j a
        · rw [xpi_ne (fun q => c q.2), xpi_ne (fun q => absurd q.1 (by decide))]
          exact hG.2.1 j a b
        · show cW ν = _
          rw [hW]
          refine pNote_cg ⟨fun q => ?_, fun q => ?_⟩
          · obtain ⟨j, h1, h2⟩ := q
            exact ⟨j, by unfold cNn; omega, h2⟩
          · obtain ⟨j, h1, h2⟩ := q
            exact ⟨j, by unfold cNn at h1; omega, h2⟩
        · rw [xpi_at, an_add (by rw [e1i]; omega) (by rw [e1i]; omega), e1i]
        · unfold cNn at hi
          rw [xpi_ne (fun q => absurd q.1 (by decide)), xpi_ne (fun q => by omega)]
          exact hG.1 27 i (by decide)
        · unfold cNn
          rw [xpi_ne (fun q => absurd q.1 (by decide)), xpi_at]
    · replace c7 : ¬ (ν.1 12 9).toInt ≤ i.toInt := c7
      have hnn : (ν.1 12 9) = μ.1 12 9 := hG.2.1 9 (by decide) (by decide)
      rw [hnn] at c7
      have hN27 : ν.1 27 i.toInt.toNat = μ.1 27 i.toInt.toNat := hG.1 27 _ (by decide)
      obtain ⟨hn0, hn1, hnk⟩ := hns i.toInt.toNat (by unfold cNn; omega)
      rw [← hN27] at hn0 hn1 hnk
      replace h := tx_aload_n (p' := 11) h em15_10 rfl rfl
      replace h := tx_aload_n (p' := 12) h em15_11 rfl rfl
      replace h := tx_aload_n (p' := 13) h em15_12 rfl rfl
      replace h := tx_getc (c := 2) (j := 8) (p' := 16) h em15_13 ((congrFun xo_3 25).trans rfl) rfl rfl rfl
      replace h := tx_iload_n (p' := 17) h em15_16 rfl rfl
      obtain ⟨hb17, h⟩ := tx_iald (len := 12) (p' := 18) h em15_17 rfl rfl
      replace hb17 : 0 ≤ i.toInt ∧ i.toInt < 12 := hb17
      replace h := tx_iload_n (p' := 19) h em15_18 rfl rfl
      obtain ⟨r19, μ19, hE19, h⟩ := tx_invV (na := 3) (mn := 12) (as := [.inr (.inl (some 12)), .inl (ν.1 27 i.toInt.toNat), .inl t]) (rest := [.inr (.inl (some 12))]) (p' := 22) h em15_19 ((congrFun xo_3 143).trans rfl) xm_12 rfl rfl
      rcases ex_isSame hE19 (nE_TV hG ht) hn0 hn1 (by rw [(nE_K hG).1]; exact hnk) ht0 ht1 (by rw [(nE_K hG).1]; exact hk) with ⟨rfl, hs, hm⟩ | ⟨rfl, hs, hm⟩
      · rw [hm] at h
        replace h : eT xq_15 _ 22 [some (.inr (.inl (some 12))), some (.inl t), some (.inl i)] [.inl (1 : Int32), .inr (.inl (some 12))] ν r μ' := h
        replace h := tx_iconst (v := 3) (p' := 23) h em15_22 (by decide +kernel) rfl
        replace h := tx_iload_n (p' := 24) h em15_23 rfl rfl
        obtain ⟨r24, μ24, hE24, h⟩ := tx_invV (na := 4) (mn := 14) (as := [.inr (.inl (some 12)), .inl (1 : Int32), .inl (3 : Int32), .inl t]) (rest := []) (p' := 27) h em15_24 ((congrFun xo_3 98).trans rfl) xm_14 rfl rfl
        obtain ⟨rfl, hg24, hw24⟩ := note_ok (b := True) hE24 (by exact ⟨fun _ => trivial, fun _ => by decide⟩)
        replace h : eT xq_15 _ 27 [some (.inr (.inl (some 12))), some (.inl t), some (.inl i)] [] μ24 r μ' := h
        replace h := tx_iinc (v := 1) (p' := 30) h em15_27 (by decide +kernel) rfl rfl
        replace h : eT xq_15 _ 30 [some (.inr (.inl (some 12))), some (.inl t), some (.inl (i + 1))] [] μ24 r μ' := h
        obtain ⟨n2, hn2, h⟩ := tx_gotoS (t := 2) h em15_30 (by decide)
        have e1i : (1 : Int32).toInt = 1 := by decide
        have hi1 : (i + 1).toInt = i.toInt + 1 := by rw [an_add (by rw [e1i]; omega) (by rw [e1i]; omega), e1i]
        have hM := (nE_M hG).1
        rw [hM, hN27] at hs
        refine ih n2 hn2 _ _ h (by rw [hi1]; omega) (by rw [hi1]; omega) (nE_tr hG hg24) ?_
        rw [hw24, hW, (nE_K hG).2.1]
        show pNote 3 _ _ _ = _
        rw [pNote_2 (by decide)]
        refine pNote_cg ⟨fun q => ?_, fun q => ?_⟩
        · rcases q with ⟨j, h1, h2⟩ | q
          · exact ⟨j, by rw [hi1]; omega, h2⟩
          · exact ⟨i.toInt.toNat, by rw [hi1]; omega, hs⟩
        · obtain ⟨j, h1, h2⟩ := q
          by_cases e : j = i.toInt.toNat
          · exact Or.inr trivial
          · exact Or.inl ⟨j, by rw [hi1] at h1; omega, h2⟩
      · rw [hm] at h
        replace h : eT xq_15 _ 22 [some (.inr (.inl (some 12))), some (.inl t), some (.inl i)] [.inl (0 : Int32), .inr (.inl (some 12))] ν r μ' := h
        replace h := tx_iconst (v := 3) (p' := 23) h em15_22 (by decide +kernel) rfl
        replace h := tx_iload_n (p' := 24) h em15_23 rfl rfl
        obtain ⟨r24_1, μ24_1, hE24_1, h⟩ := tx_invV (na := 4) (mn := 14) (as := [.inr (.inl (some 12)), .inl (0 : Int32), .inl (3 : Int32), .inl t]) (rest := []) (p' := 27) h em15_24 ((congrFun xo_3 98).trans rfl) xm_14 rfl rfl
        obtain ⟨rfl, hg24_1, hw24_1⟩ := note_ok (b := False) hE24_1 (by exact ⟨fun q => q (by decide), fun q => q.elim⟩)
        replace h : eT xq_15 _ 27 [some (.inr (.inl (some 12))), some (.inl t), some (.inl i)] [] μ24_1 r μ' := h
        replace h := tx_iinc (v := 1) (p' := 30) h em15_27 (by decide +kernel) rfl rfl
        replace h : eT xq_15 _ 30 [some (.inr (.inl (some 12))), some (.inl t), some (.inl (i + 1))] [] μ24_1 r μ' := h
        obtain ⟨n2, hn2, h⟩ := tx_gotoS (t := 2) h em15_30 (by decide)
        have e1i : (1 : Int32).toInt = 1 := by decide
        have hi1 : (i + 1).toInt = i.toInt + 1 := by rw [an_add (by rw [e1i]; omega) (by rw [e1i]; omega), e1i]
        have hM := (nE_M hG).1
        rw [hM, hN27] at hs
        refine ih n2 hn2 _ _ h (by rw [hi1]; omega) (by rw [hi1]; omega) (nE_tr hG hg24_1) ?_
        rw [hw24_1, hW, (nE_K hG).2.1]
        show pNote 3 _ _ _ = _
        rw [pNote_2 (by decide)]
        refine pNote_cg ⟨fun q => ?_, fun q => ?_⟩
        · rcases q with ⟨j, h1, h2⟩ | q
          · exact ⟨j, by rw [hi1]; omega, h2⟩
          · exact q.elim
        · obtain ⟨j, h1, h2⟩ := q
          by_cases e : j = i.toInt.toNat
          · rw [e] at h2
            exact absurd h2 hs
          · exact Or.inl ⟨j, by rw [hi1] at h1; omega, h2⟩
  replace h := tx_iconst (v := 0) (p' := 1) h em15_0 (by decide +kernel) rfl
  replace h := tx_istore_n (p' := 2) h em15_1 rfl
  replace h : eT xq_15 _ 2 [some (.inr (.inl (some 12))), some (.inl t), some (.inl (0 : Int32))] [] μ r μ' := h
  exact loop _ _ _ h (by decide) hn0 nE_rf (pNote_0 (fun q => by obtain ⟨j, h1, -⟩ := q; exact absurd h1 (by show ¬ (j : Int) < 0; omega))).symm
