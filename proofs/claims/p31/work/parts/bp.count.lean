/-! ===== HOW MANY WERE TOLD ===== -/
theorem gR_at {μ μ' : xM} (h : gRm gF μ μ') (h0 : 119 ≤ μ.2.2.2) : 119 ≤ μ'.2.2.2 ∧ μ'.1 44 3 = μ.1 44 3 ∧ μ'.1 75 64 = μ.1 75 64 := ⟨(h h0).1, (h h0).2 (44, 5, 3) (by decide), (h h0).2 (75, 12, 64) (by decide)⟩
theorem gRb_at {μ μ' : xM} (h : gRm gFb μ μ') (h0 : 119 ≤ μ.2.2.2) : 119 ≤ μ'.2.2.2 ∧ μ'.1 44 3 = μ.1 44 3 := ⟨(h h0).1, (h h0).2 (44, 5, 3) (by decide)⟩
theorem gRc_at {μ μ' : xM} (h : gRm gFc μ μ') (h0 : 119 ≤ μ.2.2.2) : 119 ≤ μ'.2.2.2 ∧ μ'.1 75 64 = μ.1 75 64 := ⟨(h h0).1, (h h0).2 (75, 12, 64) (by decide)⟩
abbrev xq_74 : xP := (⟨"CapitalCase", "beginAnew", "()V"⟩, prog_1_method_6_code, 2, none)
abbrev xq_82 : xP := (⟨"CapitalCase", "forget", "()I"⟩, prog_1_method_39_code, 2, (some .int))
abbrev xq_137 : xP := (⟨"CapitalCaseModel", "forget", "()I"⟩, prog_14_method_107_code, 2, (some .int))
abbrev xq_105 : xP := (⟨"CapitalCase", "tell", "(IIZ)I"⟩, prog_1_method_38_code, 4, (some .int))
abbrev xq_188 : xP := (⟨"CapitalCaseModel", "tell", "(IIZ)I"⟩, prog_14_method_106_code, 4, (some .int))
abbrev xq_42 : xP := (⟨"CapitalCase$Prints", "note", "(IIZ)I"⟩, prog_7_method_2_code, 4, (some .int))
abbrev xq_154 : xP := (⟨"CapitalCaseModel", "isSort", "(I)Z"⟩, prog_14_method_44_code, 1, (some .boolean))
abbrev xq_148 : xP := (⟨"CapitalCaseModel", "in", "(III)Z"⟩, prog_14_method_40_code, 3, (some .boolean))
set_option maxRecDepth 10000 in
set_option maxHeartbeats 4000000 in
theorem ex_cforget {μ μ' : xM} {r : Option zV} (h0 : Ex gx xq_82 [.inr (.inl (some 0))] μ r μ') : r = some (.inl (μ.1 44 3)) ∧ μ' = xpi μ 44 3 0 := by
  obtain ⟨n, h⟩ := tx_in (L := [some (.inr (.inl (some 0))), none]) h0 rfl
  replace h := tx_aload_n (p' := 1) h em82_0 rfl rfl
  replace h := tx_getc (c := 11) (j := 13) (p' := 4) h em82_1 ((congrFun xo_0 64).trans rfl) rfl rfl rfl
  replace h := tx_getf (c := 5) (j := 3) (p' := 7) h em82_4 ((congrFun xo_0 133).trans rfl) rfl rfl (by decide) rfl
  replace h := tx_istore_n (p' := 8) h em82_7 rfl
  replace h : eT xq_82 _ 8 [some (.inr (.inl (some 0))), some (.inl (μ.1 44 3))] [] μ r μ' := h
  replace h := tx_aload_n (p' := 9) h em82_8 rfl rfl
  replace h := tx_getc (c := 11) (j := 13) (p' := 12) h em82_9 ((congrFun xo_0 64).trans rfl) rfl rfl rfl
  replace h := tx_iconst (v := 0) (p' := 13) h em82_12 (by decide +kernel) rfl
  replace h := tx_putf (a := 44) (c := 5) (j := 3) (p' := 16) h em82_13 ((congrFun xo_0 133).trans rfl) rfl
  replace h := tx_iload_n (p' := 17) h em82_16 rfl rfl
  obtain ⟨rfl, hμ⟩ := tx_ireturn h em82_17
  exact ⟨rfl, hμ⟩
set_option maxRecDepth 10000 in
set_option maxHeartbeats 4000000 in
theorem ex_mforget {μ μ' : xM} {r : Option zV} (h0 : Ex gx xq_137 [.inr (.inl (some 75))] μ r μ') : r = some (.inl (μ.1 75 64)) ∧ μ' = xpi μ 75 64 0 := by
  obtain ⟨n, h⟩ := tx_in (L := [some (.inr (.inl (some 75))), none]) h0 rfl
  replace h := tx_aload_n (p' := 1) h em137_0 rfl rfl
  replace h := tx_getf (c := 12) (j := 64) (p' := 4) h em137_1 ((congrFun xo_12 251).trans rfl) rfl rfl (by decide) rfl
  replace h := tx_istore_n (p' := 5) h em137_4 rfl
  replace h : eT xq_137 _ 5 [some (.inr (.inl (some 75))), some (.inl (μ.1 75 64))] [] μ r μ' := h
  replace h := tx_aload_n (p' := 6) h em137_5 rfl rfl
  replace h := tx_iconst (v := 0) (p' := 7) h em137_6 (by decide +kernel) rfl
  replace h := tx_putf (a := 75) (c := 12) (j := 64) (p' := 10) h em137_7 ((congrFun xo_12 251).trans rfl) rfl
  replace h := tx_iload_n (p' := 11) h em137_10 rfl rfl
  obtain ⟨rfl, hμ⟩ := tx_ireturn h em137_11
  exact ⟨rfl, hμ⟩
set_option maxRecDepth 10000 in
set_option maxHeartbeats 4000000 in
theorem bg_29 {μ' : xM} {r : Option zV} : ∀ (n : Nat) (i : Int32) (ω : xM), eT xq_74 n 29 [some (.inr (.inl (some 0))), some (.inl i)] [] ω r μ' → (ω.1 44 3).toInt = 0 → (μ'.1 44 3).toInt = 0 := by
  intro n
  induction n using Nat.strongRecOn with
  | ind n ih =>
  intro i ω h hP
  replace h := tx_iload_n (p' := 30) h em74_29 rfl rfl
  replace h := tx_iconst (v := 3) (p' := 31) h em74_30 (by decide +kernel) rfl
  rcases tx_icmp (t := 47) (p' := 34) h em74_31 (by decide) rfl with ⟨c31, h⟩ | ⟨c31, h⟩
  · replace c31 : 3 ≤ i.toInt := c31
    obtain ⟨rfl, hμ⟩ := tx_return h em74_47
    rw [hμ]
    exact hP
  · replace c31 : ¬ 3 ≤ i.toInt := c31
    replace h := tx_aload_n (p' := 35) h em74_34 rfl rfl
    replace h := tx_getc (c := 11) (j := 12) (p' := 38) h em74_35 ((congrFun xo_0 57).trans rfl) rfl rfl rfl
    replace h := tx_iload_n (p' := 39) h em74_38 rfl rfl
    replace h := tx_iconst (v := 0) (p' := 40) h em74_39 (by decide +kernel) rfl
    obtain ⟨hb40, h⟩ := tx_bast (len := 3) (p' := 41) h em74_40 rfl rfl
    replace hb40 : (0 : Int) ≤ i.toInt ∧ i.toInt < 3 := hb40
    replace h := tx_iinc (v := 1) (p' := 44) h em74_41 (by decide +kernel) rfl rfl
    replace h : eT xq_74 _ 44 [some (.inr (.inl (some 0))), some (.inl (i + 1))] [] (xpi ω 43 i.toInt.toNat ((0 : Int32)).toInt8.toInt32) r μ' := h
    obtain ⟨n2, hn2, h⟩ := tx_gotoS (t := 29) h em74_44 (by decide)
    exact ih n2 hn2 _ _ h (by rw [xpi_ne (fun q => absurd q.1 (by decide))]; exact hP)
set_option maxRecDepth 10000 in
set_option maxHeartbeats 4000000 in
theorem bg_count {μ μ' : xM} {r : Option zV} (h0 : Ex gx xq_74 [.inr (.inl (some 0))] μ r μ') : (μ'.1 44 3).toInt = 0 := by
  obtain ⟨n, h⟩ := tx_in (L := [some (.inr (.inl (some 0))), none]) h0 rfl
  replace h := tx_aload_n (p' := 1) h em74_0 rfl rfl
  replace h := tx_getc (c := 11) (j := 1) (p' := 4) h em74_1 ((congrFun xo_0 39).trans rfl) rfl rfl rfl
  replace h := tx_aload_n (p' := 5) h em74_4 rfl rfl
  replace h := tx_getc (c := 11) (j := 0) (p' := 8) h em74_5 ((congrFun xo_0 23).trans rfl) rfl rfl rfl
  obtain ⟨r8, μ8, hE8, h⟩ := tx_invV (na := 2) (mn := 50) (as := [.inr (.inl (some 28)), .inr (.inl (some 2))]) (rest := []) (p' := 11) h em74_8 ((congrFun xo_0 127).trans rfl) xm_50 rfl rfl
  have hG8 := gR xm_50 (by decide +kernel) hE8
  have er8 := ex_void [0, 1, 4, 5, 6, 9, 10, 12, 15, 16, 19, 20, 23, 24, 27, 28, 31, 32, 35, 36, 39, 40, 41, 44, 45, 46, 49, 50, 51, 54, 55, 56, 59, 60, 61, 64, 65] (by decide +kernel) hE8
  subst er8
  replace h : eT xq_74 _ 11 [some (.inr (.inl (some 0))), none] [] μ8 r μ' := h
  replace h := tx_aload_n (p' := 12) h em74_11 rfl rfl
  replace h := tx_getc (c := 11) (j := 8) (p' := 15) h em74_12 ((congrFun xo_0 49).trans rfl) rfl rfl rfl
  replace h := tx_iconst (v := 0) (p' := 16) h em74_15 (by decide +kernel) rfl
  replace h := tx_putf (a := 40) (c := 0) (j := 2) (p' := 19) h em74_16 ((congrFun xo_0 130).trans rfl) rfl
  replace h := tx_aload_n (p' := 20) h em74_19 rfl rfl
  replace h := tx_getc (c := 11) (j := 13) (p' := 23) h em74_20 ((congrFun xo_0 64).trans rfl) rfl rfl rfl
  replace h := tx_iconst (v := 0) (p' := 24) h em74_23 (by decide +kernel) rfl
  replace h := tx_putf (a := 44) (c := 5) (j := 3) (p' := 27) h em74_24 ((congrFun xo_0 133).trans rfl) rfl
  replace h := tx_iconst (v := 0) (p' := 28) h em74_27 (by decide +kernel) rfl
  replace h := tx_istore_n (p' := 29) h em74_28 rfl
  replace h : eT xq_74 _ 29 [some (.inr (.inl (some 0))), some (.inl (0 : Int32))] [] (xpi (xpi μ8 40 2 (0 : Int32)) 44 3 (0 : Int32)) r μ' := h
  exact bg_29 _ _ _ h (by rw [xpi_at]; decide)
set_option maxRecDepth 10000 in
set_option maxHeartbeats 4000000 in
theorem rc_count {μ μ' : xM} {r : Option zV} (h0 : Ex gx xq_98 [.inr (.inl (some 0))] μ r μ') (h9 : 119 ≤ μ.2.2.2) (hn : 0 ≤ (μ.1 0 6).toInt ∧ (μ.1 0 6).toInt ≤ 2000) : ∃ x : Int32, r = some (.inl x) ∧ (¬ x.toInt = 0 → μ'.1 44 3 = μ.1 44 3) ∧ (x.toInt = 0 → (μ'.1 44 3).toInt = 0) := by
  obtain ⟨n, h⟩ := tx_in (L := [some (.inr (.inl (some 0))), none]) h0 rfl
  replace h := tx_aload_n (p' := 1) h em98_0 rfl rfl
  replace h := tx_getc (c := 11) (j := 10) (p' := 4) h em98_1 ((congrFun xo_0 32).trans rfl) rfl rfl rfl
  replace h := tx_aload_n (p' := 5) h em98_4 rfl rfl
  replace h := tx_getf (c := 11) (j := 6) (p' := 8) h em98_5 ((congrFun xo_0 13).trans rfl) rfl rfl (by decide) rfl
  obtain ⟨r8, μ8, hE8, h⟩ := tx_invV (na := 2) (mn := 16) (as := [.inr (.inl (some 12)), .inl (μ.1 0 6)]) (rest := []) (p' := 11) h em98_8 ((congrFun xo_0 113).trans rfl) xm_16 rfl rfl
  have hG8 := gR xm_16 (by decide +kernel) hE8
  obtain ⟨x, E, w, rfl, -⟩ := ex_parse hE8 hn.1 hn.2
  replace h : eT xq_98 _ 11 [some (.inr (.inl (some 0))), none] [.inl x] μ8 r μ' := h
  replace h := tx_istore_n (p' := 12) h em98_11 rfl
  replace h : eT xq_98 _ 12 [some (.inr (.inl (some 0))), some (.inl x)] [] μ8 r μ' := h
  replace h := tx_aload_n (p' := 13) h em98_12 rfl rfl
  replace h := tx_iconst (v := 0) (p' := 14) h em98_13 (by decide +kernel) rfl
  replace h := tx_putf (a := 0) (c := 11) (j := 6) (p' := 17) h em98_14 ((congrFun xo_0 13).trans rfl) rfl
  replace h := tx_aload_n (p' := 18) h em98_17 rfl rfl
  replace h := tx_iload_n (p' := 19) h em98_18 rfl rfl
  rcases tx_if (t := 26) (p' := 22) h em98_19 (by decide) rfl with ⟨c19, h⟩ | ⟨c19, h⟩
  · replace c19 : ¬ x.toInt = 0 := c19
    replace h := tx_aload_n (p' := 27) h em98_26 rfl rfl
    replace h := tx_getc (c := 11) (j := 10) (p' := 30) h em98_27 ((congrFun xo_0 32).trans rfl) rfl rfl rfl
    replace h := tx_getf (c := 2) (j := 5) (p' := 33) h em98_30 ((congrFun xo_0 117).trans rfl) rfl rfl (by decide) rfl
    replace h : eT xq_98 _ 33 [some (.inr (.inl (some 0))), some (.inl x)] [.inl (μ8.1 12 5), .inr (.inl (some 0))] (xpi μ8 0 6 (0 : Int32)) r μ' := h
    replace h := tx_putf (a := 0) (c := 11) (j := 9) (p' := 36) h em98_33 ((congrFun xo_0 17).trans rfl) rfl
    replace h := tx_iload_n (p' := 37) h em98_36 rfl rfl
    rcases tx_if (t := 58) (p' := 40) h em98_37 (by decide) rfl with ⟨c37, h⟩ | ⟨c37, h⟩
    · replace c37 : ¬ x.toInt = 0 := c37
      replace h := tx_iload_n (p' := 59) h em98_58 rfl rfl
      obtain ⟨rfl, hμ⟩ := tx_ireturn h em98_59
      rw [hμ]
      first
        | (refine ⟨x, rfl, fun _ => ?_, fun q => absurd q (by omega)⟩
           rw [xpi_ne (fun q => absurd q.1 (by decide)), xpi_ne (fun q => absurd q.1 (by decide))]
           exact (gR_at hG8 h9).2.1)
        | (exfalso; omega)
    · replace c37 : ¬ ¬ x.toInt = 0 := c37
      replace h := tx_aload_n (p' := 41) h em98_40 rfl rfl
      replace h := tx_getc (c := 11) (j := 0) (p' := 44) h em98_41 ((congrFun xo_0 23).trans rfl) rfl rfl rfl
      replace h := tx_aload_n (p' := 45) h em98_44 rfl rfl
      replace h := tx_getc (c := 11) (j := 10) (p' := 48) h em98_45 ((congrFun xo_0 32).trans rfl) rfl rfl rfl
      replace h := tx_getc (c := 2) (j := 0) (p' := 51) h em98_48 ((congrFun xo_0 120).trans rfl) rfl rfl rfl
      obtain ⟨r51, μ51, hE51, h⟩ := tx_invV (na := 2) (mn := 44) (as := [.inr (.inl (some 2)), .inr (.inl (some 13))]) (rest := []) (p' := 54) h em98_51 ((congrFun xo_0 121).trans rfl) xm_44 rfl rfl
      have hG51 := gR xm_44 (by decide +kernel) hE51
      have er51 := ex_void [0, 1, 2, 5, 8, 9, 10, 13, 16, 17, 18, 21, 24, 25, 26, 29, 32, 33, 34, 37, 40, 41, 42, 45, 48, 49, 52, 53, 54, 57, 58, 60, 63, 64, 67, 68, 69, 72, 73, 75, 78, 79, 82, 83, 84, 87, 88, 90, 93, 94, 97, 98, 99, 102, 103, 105, 108, 109, 112, 113, 114, 117, 118, 120, 123, 124, 127, 128, 129, 132, 133, 135, 138, 139, 142, 143, 144, 147, 148, 149, 152, 153, 156, 157, 158, 161, 162, 165, 168, 169, 172, 173, 174, 177, 178, 181, 184, 185] (by decide +kernel) hE51
      subst er51
      replace h : eT xq_98 _ 54 [some (.inr (.inl (some 0))), some (.inl x)] [] μ51 r μ' := h
      replace h := tx_aload_n (p' := 55) h em98_54 rfl rfl
      obtain ⟨r55, μ55, hE55, h⟩ := tx_invV (na := 1) (mn := 74) (as := [.inr (.inl (some 0))]) (rest := []) (p' := 58) h em98_55 ((congrFun xo_0 124).trans rfl) xm_74 rfl rfl
      have hB55 := bg_count hE55
      have er55 := ex_void [0, 1, 4, 5, 8, 11, 12, 15, 16, 19, 20, 23, 24, 27, 28, 29, 30, 31, 34, 35, 38, 39, 40, 41, 44, 47, 48] (by decide +kernel) hE55
      subst er55
      replace h : eT xq_98 _ 58 [some (.inr (.inl (some 0))), some (.inl x)] [] μ55 r μ' := h
      replace h := tx_iload_n (p' := 59) h em98_58 rfl rfl
      obtain ⟨rfl, hμ⟩ := tx_ireturn h em98_59
      rw [hμ]
      first
        | exact ⟨x, rfl, fun q => absurd (show x.toInt = 0 by omega) q, fun _ => hB55⟩
        | (exfalso; omega)
  · replace c19 : ¬ ¬ x.toInt = 0 := c19
    replace h := tx_iconst (v := (-1)) (p' := 23) h em98_22 (by decide +kernel) rfl
    replace h := tx_goto (t := 33) h em98_23 (by decide)
    replace h := tx_putf (a := 0) (c := 11) (j := 9) (p' := 36) h em98_33 ((congrFun xo_0 17).trans rfl) rfl
    replace h := tx_iload_n (p' := 37) h em98_36 rfl rfl
    rcases tx_if (t := 58) (p' := 40) h em98_37 (by decide) rfl with ⟨c37_1, h⟩ | ⟨c37_1, h⟩
    · replace c37_1 : ¬ x.toInt = 0 := c37_1
      replace h := tx_iload_n (p' := 59) h em98_58 rfl rfl
      obtain ⟨rfl, hμ⟩ := tx_ireturn h em98_59
      rw [hμ]
      first
        | (refine ⟨x, rfl, fun _ => ?_, fun q => absurd q (by omega)⟩
           rw [xpi_ne (fun q => absurd q.1 (by decide)), xpi_ne (fun q => absurd q.1 (by decide))]
           exact (gR_at hG8 h9).2.1)
        | (exfalso; omega)
    · replace c37_1 : ¬ ¬ x.toInt = 0 := c37_1
      replace h := tx_aload_n (p' := 41) h em98_40 rfl rfl
      replace h := tx_getc (c := 11) (j := 0) (p' := 44) h em98_41 ((congrFun xo_0 23).trans rfl) rfl rfl rfl
      replace h := tx_aload_n (p' := 45) h em98_44 rfl rfl
      replace h := tx_getc (c := 11) (j := 10) (p' := 48) h em98_45 ((congrFun xo_0 32).trans rfl) rfl rfl rfl
      replace h := tx_getc (c := 2) (j := 0) (p' := 51) h em98_48 ((congrFun xo_0 120).trans rfl) rfl rfl rfl
      obtain ⟨r51_1, μ51_1, hE51_1, h⟩ := tx_invV (na := 2) (mn := 44) (as := [.inr (.inl (some 2)), .inr (.inl (some 13))]) (rest := []) (p' := 54) h em98_51 ((congrFun xo_0 121).trans rfl) xm_44 rfl rfl
      have hG51_1 := gR xm_44 (by decide +kernel) hE51_1
      have er51_1 := ex_void [0, 1, 2, 5, 8, 9, 10, 13, 16, 17, 18, 21, 24, 25, 26, 29, 32, 33, 34, 37, 40, 41, 42, 45, 48, 49, 52, 53, 54, 57, 58, 60, 63, 64, 67, 68, 69, 72, 73, 75, 78, 79, 82, 83, 84, 87, 88, 90, 93, 94, 97, 98, 99, 102, 103, 105, 108, 109, 112, 113, 114, 117, 118, 120, 123, 124, 127, 128, 129, 132, 133, 135, 138, 139, 142, 143, 144, 147, 148, 149, 152, 153, 156, 157, 158, 161, 162, 165, 168, 169, 172, 173, 174, 177, 178, 181, 184, 185] (by decide +kernel) hE51_1
      subst er51_1
      replace h : eT xq_98 _ 54 [some (.inr (.inl (some 0))), some (.inl x)] [] μ51_1 r μ' := h
      replace h := tx_aload_n (p' := 55) h em98_54 rfl rfl
      obtain ⟨r55_1, μ55_1, hE55_1, h⟩ := tx_invV (na := 1) (mn := 74) (as := [.inr (.inl (some 0))]) (rest := []) (p' := 58) h em98_55 ((congrFun xo_0 124).trans rfl) xm_74 rfl rfl
      have hB55_1 := bg_count hE55_1
      have er55_1 := ex_void [0, 1, 4, 5, 8, 11, 12, 15, 16, 19, 20, 23, 24, 27, 28, 29, 30, 31, 34, 35, 38, 39, 40, 41, 44, 47, 48] (by decide +kernel) hE55_1
      subst er55_1
      replace h : eT xq_98 _ 58 [some (.inr (.inl (some 0))), some (.inl x)] [] μ55_1 r μ' := h
      replace h := tx_iload_n (p' := 59) h em98_58 rfl rfl
      obtain ⟨rfl, hμ⟩ := tx_ireturn h em98_59
      rw [hμ]
      first
        | exact ⟨x, rfl, fun q => absurd (show x.toInt = 0 by omega) q, fun _ => hB55_1⟩
        | (exfalso; omega)
set_option maxRecDepth 10000 in
set_option maxHeartbeats 4000000 in
theorem rp_219 {T : Int32} {μ' : xM} {r : Option zV} : ∀ (n : Nat) (i : Int32) (ω : xM), eT xq_180 n 219 [some (.inr (.inl (some 75))), some (.inl i)] [] ω r μ' → (ω.1 75 64).toInt = 0 → ∃ x : Int32, r = some (.inl x) ∧ (¬ x.toInt = 0 → μ'.1 75 64 = T) ∧ (x.toInt = 0 → (μ'.1 75 64).toInt = 0) := by
  intro n
  induction n using Nat.strongRecOn with
  | ind n ih =>
  intro i ω h hP
  replace h := tx_iload_n (p' := 220) h em180_219 rfl rfl
  replace h := tx_iconst (v := 3) (p' := 221) h em180_220 (by decide +kernel) rfl
  rcases tx_icmp (t := 237) (p' := 224) h em180_221 (by decide) rfl with ⟨c221, h⟩ | ⟨c221, h⟩
  · replace c221 : 3 ≤ i.toInt := c221
    replace h := tx_iconst (v := 0) (p' := 238) h em180_237 (by decide +kernel) rfl
    obtain ⟨rfl, hμ⟩ := tx_ireturn h em180_238
    rw [hμ]
    exact ⟨_, rfl, fun q => absurd (by decide) q, fun _ => hP⟩
  · replace c221 : ¬ 3 ≤ i.toInt := c221
    replace h := tx_aload_n (p' := 225) h em180_224 rfl rfl
    replace h := tx_getc (c := 12) (j := 68) (p' := 228) h em180_225 ((congrFun xo_12 143).trans rfl) rfl rfl rfl
    replace h := tx_iload_n (p' := 229) h em180_228 rfl rfl
    replace h := tx_iconst (v := 0) (p' := 230) h em180_229 (by decide +kernel) rfl
    obtain ⟨hb230, h⟩ := tx_bast (len := 3) (p' := 231) h em180_230 rfl rfl
    replace hb230 : (0 : Int) ≤ i.toInt ∧ i.toInt < 3 := hb230
    replace h := tx_iinc (v := 1) (p' := 234) h em180_231 (by decide +kernel) rfl rfl
    replace h : eT xq_180 _ 234 [some (.inr (.inl (some 75))), some (.inl (i + 1))] [] (xpi ω 117 i.toInt.toNat ((0 : Int32)).toInt8.toInt32) r μ' := h
    obtain ⟨n2, hn2, h⟩ := tx_gotoS (t := 219) h em180_234 (by decide)
    exact ih n2 hn2 _ _ h (by rw [xpi_ne (fun q => absurd q.1 (by decide))]; exact hP)
set_option maxRecDepth 10000 in
set_option maxHeartbeats 4000000 in
theorem rp_134 {T : Int32} {ω μ' : xM} {r : Option zV} (hT : ω.1 75 64 = T) {n : Nat} {i : Int32} (h : eT xq_180 n 134 [some (.inr (.inl (some 75))), some (.inl i)] [] ω r μ') : ∃ x : Int32, r = some (.inl x) ∧ (¬ x.toInt = 0 → μ'.1 75 64 = T) ∧ (x.toInt = 0 → (μ'.1 75 64).toInt = 0) := by
  replace h := tx_aload_n (p' := 135) h em180_134 rfl rfl
  replace h := tx_aload_n (p' := 136) h em180_135 rfl rfl
  replace h := tx_getf (c := 12) (j := 27) (p' := 139) h em180_136 ((congrFun xo_12 200).trans rfl) rfl rfl (by decide) rfl
  rcases tx_if (t := 149) (p' := 142) h em180_139 (by decide) rfl with ⟨c139, h⟩ | ⟨c139, h⟩
  · replace c139 : (ω.1 75 27).toInt ≤ 0 := c139
    replace h := tx_aload_n (p' := 150) h em180_149 rfl rfl
    replace h := tx_getf (c := 12) (j := 29) (p' := 153) h em180_150 ((congrFun xo_12 209).trans rfl) rfl rfl (by decide) rfl
    rcases tx_if (t := 163) (p' := 156) h em180_153 (by decide) rfl with ⟨c153, h⟩ | ⟨c153, h⟩
    · replace c153 : (ω.1 75 29).toInt ≤ 0 := c153
      replace h := tx_iconst (v := (-1)) (p' := 164) h em180_163 (by decide +kernel) rfl
      replace h := tx_putf (a := 75) (c := 12) (j := 31) (p' := 167) h em180_164 ((congrFun xo_12 37).trans rfl) rfl
      replace h := tx_aload_n (p' := 168) h em180_167 rfl rfl
      replace h := tx_getf (c := 12) (j := 27) (p' := 171) h em180_168 ((congrFun xo_12 200).trans rfl) rfl rfl (by decide) rfl
      replace h : eT xq_180 _ 171 [some (.inr (.inl (some 75))), some (.inl i)] [.inl (ω.1 75 27)] (xpi ω 75 31 (-1 : Int32)) r μ' := h
      rcases tx_if (t := 179) (p' := 174) h em180_171 (by decide) rfl with ⟨c171, h⟩ | ⟨c171, h⟩
      · replace c171 : (ω.1 75 27).toInt ≤ 0 := c171
        replace h := tx_aload_n (p' := 180) h em180_179 rfl rfl
        replace h := tx_getf (c := 12) (j := 29) (p' := 183) h em180_180 ((congrFun xo_12 209).trans rfl) rfl rfl (by decide) rfl
        replace h : eT xq_180 _ 183 [some (.inr (.inl (some 75))), some (.inl i)] [.inl (ω.1 75 29)] (xpi ω 75 31 (-1 : Int32)) r μ' := h
        rcases tx_if (t := 191) (p' := 186) h em180_183 (by decide) rfl with ⟨c183, h⟩ | ⟨c183, h⟩
        · replace c183 : (ω.1 75 29).toInt ≤ 0 := c183
          replace h := tx_aload_n (p' := 192) h em180_191 rfl rfl
          replace h := tx_aload_n (p' := 193) h em180_192 rfl rfl
          replace h := tx_getf (c := 12) (j := 32) (p' := 196) h em180_193 ((congrFun xo_12 233).trans rfl) rfl rfl (by decide) rfl
          replace h : eT xq_180 _ 196 [some (.inr (.inl (some 75))), some (.inl i)] [.inl (ω.1 75 32), .inr (.inl (some 75))] (xpi ω 75 31 (-1 : Int32)) r μ' := h
          replace h := tx_putf (a := 75) (c := 12) (j := 2) (p' := 199) h em180_196 ((congrFun xo_12 230).trans rfl) rfl
          replace h := tx_aload_n (p' := 200) h em180_199 rfl rfl
          obtain ⟨r200, μ200, hE200, h⟩ := tx_invV (na := 1) (mn := 121) (as := [.inr (.inl (some 75))]) (rest := []) (p' := 203) h em180_200 ((congrFun xo_12 157).trans rfl) xm_121 rfl rfl
          have hG200 := gR xm_121 (by decide +kernel) hE200
          have er200 := ex_void [0, 1, 2, 3, 6, 9, 10, 13, 14, 15, 16, 19, 22, 23, 24, 25, 27, 28, 31, 32, 35, 36, 37, 40, 41, 44, 45, 46, 49, 51, 52, 55, 56, 57, 58, 59, 60, 63, 66, 67, 68, 71, 72, 75, 76, 79, 80, 81, 84, 85, 86, 89, 90] (by decide +kernel) hE200
          subst er200
          replace h : eT xq_180 _ 203 [some (.inr (.inl (some 75))), some (.inl i)] [] μ200 r μ' := h
          replace h := tx_aload_n (p' := 204) h em180_203 rfl rfl
          obtain ⟨r204, μ204, hE204, h⟩ := tx_invV (na := 1) (mn := 157) (as := [.inr (.inl (some 75))]) (rest := []) (p' := 207) h em180_204 ((congrFun xo_12 160).trans rfl) xm_157 rfl rfl
          have hG204 := gR xm_157 (by decide +kernel) hE204
          have er204 := ex_void [0, 1, 2, 3, 6, 9, 10, 13, 14, 15, 18, 19, 20, 21, 24, 27, 28] (by decide +kernel) hE204
          subst er204
          replace h : eT xq_180 _ 207 [some (.inr (.inl (some 75))), some (.inl i)] [] μ204 r μ' := h
          replace h := tx_aload_n (p' := 208) h em180_207 rfl rfl
          replace h := tx_iconst (v := 0) (p' := 209) h em180_208 (by decide +kernel) rfl
          replace h := tx_putf (a := 75) (c := 12) (j := 10) (p' := 212) h em180_209 ((congrFun xo_12 248).trans rfl) rfl
          replace h := tx_aload_n (p' := 213) h em180_212 rfl rfl
          replace h := tx_iconst (v := 0) (p' := 214) h em180_213 (by decide +kernel) rfl
          replace h := tx_putf (a := 75) (c := 12) (j := 64) (p' := 217) h em180_214 ((congrFun xo_12 251).trans rfl) rfl
          replace h := tx_iconst (v := 0) (p' := 218) h em180_217 (by decide +kernel) rfl
          replace h := tx_istore_n (p' := 219) h em180_218 rfl
          replace h : eT xq_180 _ 219 [some (.inr (.inl (some 75))), some (.inl (0 : Int32))] [] (xpi (xpi μ204 75 10 (0 : Int32)) 75 64 (0 : Int32)) r μ' := h
          exact rp_219 _ _ _ h (by rw [xpi_at]; decide)
        · replace c183 : ¬ (ω.1 75 29).toInt ≤ 0 := c183
          replace h := tx_aload_n (p' := 187) h em180_186 rfl rfl
          replace h := tx_getf (c := 12) (j := 29) (p' := 190) h em180_187 ((congrFun xo_12 209).trans rfl) rfl rfl (by decide) rfl
          replace h : eT xq_180 _ 190 [some (.inr (.inl (some 75))), some (.inl i)] [.inl (ω.1 75 29)] (xpi ω 75 31 (-1 : Int32)) r μ' := h
          obtain ⟨rfl, hμ⟩ := tx_ireturn h em180_190
          rw [hμ]
          exact ⟨_, rfl, fun _ => by rw [xpi_ne (fun q => absurd q.2 (by decide))]; exact hT, fun q => absurd q (by omega)⟩
      · replace c171 : ¬ (ω.1 75 27).toInt ≤ 0 := c171
        replace h := tx_aload_n (p' := 175) h em180_174 rfl rfl
        replace h := tx_getf (c := 12) (j := 27) (p' := 178) h em180_175 ((congrFun xo_12 200).trans rfl) rfl rfl (by decide) rfl
        replace h : eT xq_180 _ 178 [some (.inr (.inl (some 75))), some (.inl i)] [.inl (ω.1 75 27)] (xpi ω 75 31 (-1 : Int32)) r μ' := h
        obtain ⟨rfl, hμ⟩ := tx_ireturn h em180_178
        rw [hμ]
        exact ⟨_, rfl, fun _ => by rw [xpi_ne (fun q => absurd q.2 (by decide))]; exact hT, fun q => absurd q (by omega)⟩
    · replace c153 : ¬ (ω.1 75 29).toInt ≤ 0 := c153
      replace h := tx_aload_n (p' := 157) h em180_156 rfl rfl
      replace h := tx_getf (c := 12) (j := 30) (p' := 160) h em180_157 ((congrFun xo_12 212).trans rfl) rfl rfl (by decide) rfl
      replace h := tx_goto (t := 164) h em180_160 (by decide)
      replace h := tx_putf (a := 75) (c := 12) (j := 31) (p' := 167) h em180_164 ((congrFun xo_12 37).trans rfl) rfl
      replace h := tx_aload_n (p' := 168) h em180_167 rfl rfl
      replace h := tx_getf (c := 12) (j := 27) (p' := 171) h em180_168 ((congrFun xo_12 200).trans rfl) rfl rfl (by decide) rfl
      replace h : eT xq_180 _ 171 [some (.inr (.inl (some 75))), some (.inl i)] [.inl (ω.1 75 27)] (xpi ω 75 31 (ω.1 75 30)) r μ' := h
      rcases tx_if (t := 179) (p' := 174) h em180_171 (by decide) rfl with ⟨c171_1, h⟩ | ⟨c171_1, h⟩
      · replace c171_1 : (ω.1 75 27).toInt ≤ 0 := c171_1
        replace h := tx_aload_n (p' := 180) h em180_179 rfl rfl
        replace h := tx_getf (c := 12) (j := 29) (p' := 183) h em180_180 ((congrFun xo_12 209).trans rfl) rfl rfl (by decide) rfl
        replace h : eT xq_180 _ 183 [some (.inr (.inl (some 75))), some (.inl i)] [.inl (ω.1 75 29)] (xpi ω 75 31 (ω.1 75 30)) r μ' := h
        rcases tx_if (t := 191) (p' := 186) h em180_183 (by decide) rfl with ⟨c183_1, h⟩ | ⟨c183_1, h⟩
        · replace c183_1 : (ω.1 75 29).toInt ≤ 0 := c183_1
          replace h := tx_aload_n (p' := 192) h em180_191 rfl rfl
          replace h := tx_aload_n (p' := 193) h em180_192 rfl rfl
          replace h := tx_getf (c := 12) (j := 32) (p' := 196) h em180_193 ((congrFun xo_12 233).trans rfl) rfl rfl (by decide) rfl
          replace h : eT xq_180 _ 196 [some (.inr (.inl (some 75))), some (.inl i)] [.inl (ω.1 75 32), .inr (.inl (some 75))] (xpi ω 75 31 (ω.1 75 30)) r μ' := h
          replace h := tx_putf (a := 75) (c := 12) (j := 2) (p' := 199) h em180_196 ((congrFun xo_12 230).trans rfl) rfl
          replace h := tx_aload_n (p' := 200) h em180_199 rfl rfl
          obtain ⟨r200_1, μ200_1, hE200_1, h⟩ := tx_invV (na := 1) (mn := 121) (as := [.inr (.inl (some 75))]) (rest := []) (p' := 203) h em180_200 ((congrFun xo_12 157).trans rfl) xm_121 rfl rfl
          have hG200_1 := gR xm_121 (by decide +kernel) hE200_1
          have er200_1 := ex_void [0, 1, 2, 3, 6, 9, 10, 13, 14, 15, 16, 19, 22, 23, 24, 25, 27, 28, 31, 32, 35, 36, 37, 40, 41, 44, 45, 46, 49, 51, 52, 55, 56, 57, 58, 59, 60, 63, 66, 67, 68, 71, 72, 75, 76, 79, 80, 81, 84, 85, 86, 89, 90] (by decide +kernel) hE200_1
          subst er200_1
          replace h : eT xq_180 _ 203 [some (.inr (.inl (some 75))), some (.inl i)] [] μ200_1 r μ' := h
          replace h := tx_aload_n (p' := 204) h em180_203 rfl rfl
          obtain ⟨r204_1, μ204_1, hE204_1, h⟩ := tx_invV (na := 1) (mn := 157) (as := [.inr (.inl (some 75))]) (rest := []) (p' := 207) h em180_204 ((congrFun xo_12 160).trans rfl) xm_157 rfl rfl
          have hG204_1 := gR xm_157 (by decide +kernel) hE204_1
          have er204_1 := ex_void [0, 1, 2, 3, 6, 9, 10, 13, 14, 15, 18, 19, 20, 21, 24, 27, 28] (by decide +kernel) hE204_1
          subst er204_1
          replace h : eT xq_180 _ 207 [some (.inr (.inl (some 75))), some (.inl i)] [] μ204_1 r μ' := h
          replace h := tx_aload_n (p' := 208) h em180_207 rfl rfl
          replace h := tx_iconst (v := 0) (p' := 209) h em180_208 (by decide +kernel) rfl
          replace h := tx_putf (a := 75) (c := 12) (j := 10) (p' := 212) h em180_209 ((congrFun xo_12 248).trans rfl) rfl
          replace h := tx_aload_n (p' := 213) h em180_212 rfl rfl
          replace h := tx_iconst (v := 0) (p' := 214) h em180_213 (by decide +kernel) rfl
          replace h := tx_putf (a := 75) (c := 12) (j := 64) (p' := 217) h em180_214 ((congrFun xo_12 251).trans rfl) rfl
          replace h := tx_iconst (v := 0) (p' := 218) h em180_217 (by decide +kernel) rfl
          replace h := tx_istore_n (p' := 219) h em180_218 rfl
          replace h : eT xq_180 _ 219 [some (.inr (.inl (some 75))), some (.inl (0 : Int32))] [] (xpi (xpi μ204_1 75 10 (0 : Int32)) 75 64 (0 : Int32)) r μ' := h
          exact rp_219 _ _ _ h (by rw [xpi_at]; decide)
        · replace c183_1 : ¬ (ω.1 75 29).toInt ≤ 0 := c183_1
          replace h := tx_aload_n (p' := 187) h em180_186 rfl rfl
          replace h := tx_getf (c := 12) (j := 29) (p' := 190) h em180_187 ((congrFun xo_12 209).trans rfl) rfl rfl (by decide) rfl
          replace h : eT xq_180 _ 190 [some (.inr (.inl (some 75))), some (.inl i)] [.inl (ω.1 75 29)] (xpi ω 75 31 (ω.1 75 30)) r μ' := h
          obtain ⟨rfl, hμ⟩ := tx_ireturn h em180_190
          rw [hμ]
          exact ⟨_, rfl, fun _ => by rw [xpi_ne (fun q => absurd q.2 (by decide))]; exact hT, fun q => absurd q (by omega)⟩
      · replace c171_1 : ¬ (ω.1 75 27).toInt ≤ 0 := c171_1
        replace h := tx_aload_n (p' := 175) h em180_174 rfl rfl
        replace h := tx_getf (c := 12) (j := 27) (p' := 178) h em180_175 ((congrFun xo_12 200).trans rfl) rfl rfl (by decide) rfl
        replace h : eT xq_180 _ 178 [some (.inr (.inl (some 75))), some (.inl i)] [.inl (ω.1 75 27)] (xpi ω 75 31 (ω.1 75 30)) r μ' := h
        obtain ⟨rfl, hμ⟩ := tx_ireturn h em180_178
        rw [hμ]
        exact ⟨_, rfl, fun _ => by rw [xpi_ne (fun q => absurd q.2 (by decide))]; exact hT, fun q => absurd q (by omega)⟩
  · replace c139 : ¬ (ω.1 75 27).toInt ≤ 0 := c139
    replace h := tx_aload_n (p' := 143) h em180_142 rfl rfl
    replace h := tx_getf (c := 12) (j := 28) (p' := 146) h em180_143 ((congrFun xo_12 206).trans rfl) rfl rfl (by decide) rfl
    replace h := tx_goto (t := 164) h em180_146 (by decide)
    replace h := tx_putf (a := 75) (c := 12) (j := 31) (p' := 167) h em180_164 ((congrFun xo_12 37).trans rfl) rfl
    replace h := tx_aload_n (p' := 168) h em180_167 rfl rfl
    replace h := tx_getf (c := 12) (j := 27) (p' := 171) h em180_168 ((congrFun xo_12 200).trans rfl) rfl rfl (by decide) rfl
    replace h : eT xq_180 _ 171 [some (.inr (.inl (some 75))), some (.inl i)] [.inl (ω.1 75 27)] (xpi ω 75 31 (ω.1 75 28)) r μ' := h
    rcases tx_if (t := 179) (p' := 174) h em180_171 (by decide) rfl with ⟨c171_2, h⟩ | ⟨c171_2, h⟩
    · replace c171_2 : (ω.1 75 27).toInt ≤ 0 := c171_2
      replace h := tx_aload_n (p' := 180) h em180_179 rfl rfl
      replace h := tx_getf (c := 12) (j := 29) (p' := 183) h em180_180 ((congrFun xo_12 209).trans rfl) rfl rfl (by decide) rfl
      replace h : eT xq_180 _ 183 [some (.inr (.inl (some 75))), some (.inl i)] [.inl (ω.1 75 29)] (xpi ω 75 31 (ω.1 75 28)) r μ' := h
      rcases tx_if (t := 191) (p' := 186) h em180_183 (by decide) rfl with ⟨c183_2, h⟩ | ⟨c183_2, h⟩
      · replace c183_2 : (ω.1 75 29).toInt ≤ 0 := c183_2
        replace h := tx_aload_n (p' := 192) h em180_191 rfl rfl
        replace h := tx_aload_n (p' := 193) h em180_192 rfl rfl
        replace h := tx_getf (c := 12) (j := 32) (p' := 196) h em180_193 ((congrFun xo_12 233).trans rfl) rfl rfl (by decide) rfl
        replace h : eT xq_180 _ 196 [some (.inr (.inl (some 75))), some (.inl i)] [.inl (ω.1 75 32), .inr (.inl (some 75))] (xpi ω 75 31 (ω.1 75 28)) r μ' := h
        replace h := tx_putf (a := 75) (c := 12) (j := 2) (p' := 199) h em180_196 ((congrFun xo_12 230).trans rfl) rfl
        replace h := tx_aload_n (p' := 200) h em180_199 rfl rfl
        obtain ⟨r200_2, μ200_2, hE200_2, h⟩ := tx_invV (na := 1) (mn := 121) (as := [.inr (.inl (some 75))]) (rest := []) (p' := 203) h em180_200 ((congrFun xo_12 157).trans rfl) xm_121 rfl rfl
        have hG200_2 := gR xm_121 (by decide +kernel) hE200_2
        have er200_2 := ex_void [0, 1, 2, 3, 6, 9, 10, 13, 14, 15, 16, 19, 22, 23, 24, 25, 27, 28, 31, 32, 35, 36, 37, 40, 41, 44, 45, 46, 49, 51, 52, 55, 56, 57, 58, 59, 60, 63, 66, 67, 68, 71, 72, 75, 76, 79, 80, 81, 84, 85, 86, 89, 90] (by decide +kernel) hE200_2
        subst er200_2
        replace h : eT xq_180 _ 203 [some (.inr (.inl (some 75))), some (.inl i)] [] μ200_2 r μ' := h
        replace h := tx_aload_n (p' := 204) h em180_203 rfl rfl
        obtain ⟨r204_2, μ204_2, hE204_2, h⟩ := tx_invV (na := 1) (mn := 157) (as := [.inr (.inl (some 75))]) (rest := []) (p' := 207) h em180_204 ((congrFun xo_12 160).trans rfl) xm_157 rfl rfl
        have hG204_2 := gR xm_157 (by decide +kernel) hE204_2
        have er204_2 := ex_void [0, 1, 2, 3, 6, 9, 10, 13, 14, 15, 18, 19, 20, 21, 24, 27, 28] (by decide +kernel) hE204_2
        subst er204_2
        replace h : eT xq_180 _ 207 [some (.inr (.inl (some 75))), some (.inl i)] [] μ204_2 r μ' := h
        replace h := tx_aload_n (p' := 208) h em180_207 rfl rfl
        replace h := tx_iconst (v := 0) (p' := 209) h em180_208 (by decide +kernel) rfl
        replace h := tx_putf (a := 75) (c := 12) (j := 10) (p' := 212) h em180_209 ((congrFun xo_12 248).trans rfl) rfl
        replace h := tx_aload_n (p' := 213) h em180_212 rfl rfl
        replace h := tx_iconst (v := 0) (p' := 214) h em180_213 (by decide +kernel) rfl
        replace h := tx_putf (a := 75) (c := 12) (j := 64) (p' := 217) h em180_214 ((congrFun xo_12 251).trans rfl) rfl
        replace h := tx_iconst (v := 0) (p' := 218) h em180_217 (by decide +kernel) rfl
        replace h := tx_istore_n (p' := 219) h em180_218 rfl
        replace h : eT xq_180 _ 219 [some (.inr (.inl (some 75))), some (.inl (0 : Int32))] [] (xpi (xpi μ204_2 75 10 (0 : Int32)) 75 64 (0 : Int32)) r μ' := h
        exact rp_219 _ _ _ h (by rw [xpi_at]; decide)
      · replace c183_2 : ¬ (ω.1 75 29).toInt ≤ 0 := c183_2
        replace h := tx_aload_n (p' := 187) h em180_186 rfl rfl
        replace h := tx_getf (c := 12) (j := 29) (p' := 190) h em180_187 ((congrFun xo_12 209).trans rfl) rfl rfl (by decide) rfl
        replace h : eT xq_180 _ 190 [some (.inr (.inl (some 75))), some (.inl i)] [.inl (ω.1 75 29)] (xpi ω 75 31 (ω.1 75 28)) r μ' := h
        obtain ⟨rfl, hμ⟩ := tx_ireturn h em180_190
        rw [hμ]
        exact ⟨_, rfl, fun _ => by rw [xpi_ne (fun q => absurd q.2 (by decide))]; exact hT, fun q => absurd q (by omega)⟩
    · replace c171_2 : ¬ (ω.1 75 27).toInt ≤ 0 := c171_2
      replace h := tx_aload_n (p' := 175) h em180_174 rfl rfl
      replace h := tx_getf (c := 12) (j := 27) (p' := 178) h em180_175 ((congrFun xo_12 200).trans rfl) rfl rfl (by decide) rfl
      replace h : eT xq_180 _ 178 [some (.inr (.inl (some 75))), some (.inl i)] [.inl (ω.1 75 27)] (xpi ω 75 31 (ω.1 75 28)) r μ' := h
      obtain ⟨rfl, hμ⟩ := tx_ireturn h em180_178
      rw [hμ]
      exact ⟨_, rfl, fun _ => by rw [xpi_ne (fun q => absurd q.2 (by decide))]; exact hT, fun q => absurd q (by omega)⟩
set_option maxRecDepth 10000 in
set_option maxHeartbeats 4000000 in
theorem rp_112 {T : Int32} {μ' : xM} {r : Option zV} : ∀ (n : Nat) (i : Int32) (ω : xM), eT xq_180 n 112 [some (.inr (.inl (some 75))), some (.inl i)] [] ω r μ' → 119 ≤ ω.2.2.2 → ω.1 75 64 = T → ∃ x : Int32, r = some (.inl x) ∧ (¬ x.toInt = 0 → μ'.1 75 64 = T) ∧ (x.toInt = 0 → (μ'.1 75 64).toInt = 0) := by
  intro n
  induction n using Nat.strongRecOn with
  | ind n ih =>
  intro i ω h h9 hT
  replace h := tx_aload_n (p' := 113) h em180_112 rfl rfl
  replace h := tx_getf (c := 12) (j := 27) (p' := 116) h em180_113 ((congrFun xo_12 200).trans rfl) rfl rfl (by decide) rfl
  rcases tx_if (t := 134) (p' := 119) h em180_116 (by decide) rfl with ⟨c116, h⟩ | ⟨c116, h⟩
  · replace c116 : ¬ (ω.1 75 27).toInt = 0 := c116
    exact rp_134 hT h
  · replace c116 : ¬ ¬ (ω.1 75 27).toInt = 0 := c116
    replace h := tx_aload_n (p' := 120) h em180_119 rfl rfl
    replace h := tx_iconst (v := 0) (p' := 121) h em180_120 (by decide +kernel) rfl
    obtain ⟨r121, μ121, hE121, h⟩ := tx_invV (na := 2) (mn := 149) (as := [.inr (.inl (some 75)), .inl (0 : Int32)]) (rest := []) (p' := 124) h em180_121 ((congrFun xo_12 218).trans rfl) xm_149 rfl rfl
    obtain ⟨hm, ⟨rfl, i1211, i1212, i1213⟩ | ⟨rfl, i1211⟩⟩ := ex_is hE121 (by decide)
    · rw [hm] at h
      replace h : eT xq_180 _ 124 [some (.inr (.inl (some 75))), some (.inl i)] [.inl (1 : Int32)] ω r μ' := h
      rcases tx_if (t := 134) (p' := 127) h em180_124 (by decide) rfl with ⟨c124, h⟩ | ⟨c124, h⟩
      · replace c124 : ¬ (1 : Int) = (0 : Int) := c124
        exact rp_134 hT h
      · replace c124 : ¬ ¬ (1 : Int) = (0 : Int) := c124
        exfalso
        omega
    · rw [hm] at h
      replace h : eT xq_180 _ 124 [some (.inr (.inl (some 75))), some (.inl i)] [.inl (0 : Int32)] ω r μ' := h
      rcases tx_if (t := 134) (p' := 127) h em180_124 (by decide) rfl with ⟨c124_1, h⟩ | ⟨c124_1, h⟩
      · replace c124_1 : ¬ (0 : Int) = (0 : Int) := c124_1
        exfalso
        omega
      · replace c124_1 : ¬ ¬ (0 : Int) = (0 : Int) := c124_1
        replace h := tx_aload_n (p' := 128) h em180_127 rfl rfl
        obtain ⟨r128, μ128, hE128, h⟩ := tx_invV (na := 1) (mn := 219) (as := [.inr (.inl (some 75))]) (rest := []) (p' := 131) h em180_128 ((congrFun xo_12 245).trans rfl) xm_219 rfl rfl
        have hG128 := gR xm_219 (by decide +kernel) hE128
        have er128 := ex_void [0, 1, 4, 5, 8, 9, 60, 61, 62, 65, 66, 69, 70, 71, 74, 75, 78, 81, 82, 85, 88, 89, 90, 93, 94, 97, 98, 100, 103, 104, 107, 110, 111, 114, 117, 118, 121, 122, 125, 126, 127, 129, 132, 133, 136, 137, 140, 141, 144, 145, 146, 148, 151, 152, 155, 156, 159, 160, 163, 164, 165, 168, 171, 172, 175, 176, 179, 180, 183, 184, 186, 187, 188, 189, 192, 193, 196, 197, 200, 201, 203, 206, 207, 208, 211, 212, 215, 218, 219, 220, 223, 224, 225, 228, 229] (by decide +kernel) hE128
        subst er128
        replace h : eT xq_180 _ 131 [some (.inr (.inl (some 75))), some (.inl i)] [] μ128 r μ' := h
        obtain ⟨n2, hn2, h⟩ := tx_gotoS (t := 112) h em180_131 (by decide)
        exact ih n2 hn2 _ _ h (gR_at hG128 h9).1 ((gR_at hG128 h9).2.2.trans hT)
set_option maxRecDepth 10000 in
set_option maxHeartbeats 4000000 in
theorem rp_36 {T : Int32} {ω μ' : xM} {r : Option zV} (h9 : 119 ≤ ω.2.2.2) (hT : ω.1 75 64 = T) {n : Nat} {i : Int32} (h : eT xq_180 n 36 [some (.inr (.inl (some 75))), some (.inl i)] [] ω r μ') : ∃ x : Int32, r = some (.inl x) ∧ (¬ x.toInt = 0 → μ'.1 75 64 = T) ∧ (x.toInt = 0 → (μ'.1 75 64).toInt = 0) := by
  replace h := tx_aload_n (p' := 37) h em180_36 rfl rfl
  replace h := tx_iconst (v := 0) (p' := 38) h em180_37 (by decide +kernel) rfl
  replace h := tx_putf (a := 75) (c := 12) (j := 12) (p' := 41) h em180_38 ((congrFun xo_12 163).trans rfl) rfl
  replace h := tx_aload_n (p' := 42) h em180_41 rfl rfl
  obtain ⟨r42, μ42, hE42, h⟩ := tx_invV (na := 1) (mn := 214) (as := [.inr (.inl (some 75))]) (rest := []) (p' := 45) h em180_42 ((congrFun xo_12 224).trans rfl) xm_214 rfl rfl
  have hG42 := gR xm_214 (by decide +kernel) hE42
  have er42 := ex_void [0, 1, 2, 5, 6, 7, 8, 11, 14, 17, 18, 19, 22, 23, 24, 25, 28, 31, 32, 33, 34, 37, 38, 39, 42, 43, 44, 46, 49, 50, 52, 55, 56, 58, 61, 62, 64, 67, 70, 73, 74, 77, 80, 81, 82, 83, 85, 86, 87, 88, 89, 92, 95, 98, 99, 101, 104, 106, 107, 108, 109, 110, 113, 116, 118, 121, 124, 125, 127, 130, 131, 134, 135, 137, 138, 140, 143, 144, 146, 148, 150, 153, 154, 157, 159, 160, 162, 163, 166, 168, 170, 171, 173, 176, 179, 180, 182, 183, 184, 186, 189, 190, 191, 192, 193, 196, 197, 200, 203, 204, 205, 206, 208, 209, 210, 211, 212, 215, 218, 221, 222, 223, 226, 228, 230, 231, 232, 233, 234, 235, 238, 239, 241, 242, 244, 247, 250, 251, 252, 253, 256, 257, 260, 261, 262, 264, 265, 268, 269, 270, 271, 272, 275, 276, 277, 278, 279, 280, 281, 282, 283, 286, 289, 290, 291, 294, 295] (by decide +kernel) hE42
  subst er42
  replace h : eT xq_180 _ 45 [some (.inr (.inl (some 75))), some (.inl i)] [] μ42 r μ' := h
  replace h := tx_aload_n (p' := 46) h em180_45 rfl rfl
  replace h := tx_iconst (v := 0) (p' := 47) h em180_46 (by decide +kernel) rfl
  replace h := tx_putf (a := 75) (c := 12) (j := 25) (p' := 50) h em180_47 ((congrFun xo_12 203).trans rfl) rfl
  replace h := tx_aload_n (p' := 51) h em180_50 rfl rfl
  replace h := tx_iconst (v := 0) (p' := 52) h em180_51 (by decide +kernel) rfl
  replace h := tx_putf (a := 75) (c := 12) (j := 26) (p' := 55) h em180_52 ((congrFun xo_12 227).trans rfl) rfl
  replace h := tx_aload_n (p' := 56) h em180_55 rfl rfl
  replace h := tx_iconst (v := 0) (p' := 57) h em180_56 (by decide +kernel) rfl
  replace h := tx_putf (a := 75) (c := 12) (j := 27) (p' := 60) h em180_57 ((congrFun xo_12 200).trans rfl) rfl
  replace h := tx_aload_n (p' := 61) h em180_60 rfl rfl
  replace h := tx_iconst (v := 0) (p' := 62) h em180_61 (by decide +kernel) rfl
  replace h := tx_putf (a := 75) (c := 12) (j := 29) (p' := 65) h em180_62 ((congrFun xo_12 209).trans rfl) rfl
  replace h := tx_aload_n (p' := 66) h em180_65 rfl rfl
  replace h := tx_iconst (v := 1) (p' := 67) h em180_66 (by decide +kernel) rfl
  replace h := tx_aload_n (p' := 68) h em180_67 rfl rfl
  replace h := tx_getf (c := 12) (j := 2) (p' := 71) h em180_68 ((congrFun xo_12 230).trans rfl) rfl rfl (by decide) rfl
  replace h : eT xq_180 _ 71 [some (.inr (.inl (some 75))), some (.inl i)] [.inl (μ42.1 75 2), .inl (1 : Int32), .inr (.inl (some 75))] (xpi (xpi (xpi (xpi μ42 75 25 (0 : Int32)) 75 26 (0 : Int32)) 75 27 (0 : Int32)) 75 29 (0 : Int32)) r μ' := h
  replace h := tx_isub (p' := 72) h em180_71 rfl
  replace h := tx_putf (a := 75) (c := 12) (j := 32) (p' := 75) h em180_72 ((congrFun xo_12 233).trans rfl) rfl
  replace h := tx_aload_n (p' := 76) h em180_75 rfl rfl
  replace h := tx_iconst (v := 0) (p' := 77) h em180_76 (by decide +kernel) rfl
  replace h := tx_putf (a := 75) (c := 12) (j := 33) (p' := 80) h em180_77 ((congrFun xo_12 236).trans rfl) rfl
  replace h := tx_aload_n (p' := 81) h em180_80 rfl rfl
  replace h := tx_aload_n (p' := 82) h em180_81 rfl rfl
  replace h := tx_getf (c := 12) (j := 32) (p' := 85) h em180_82 ((congrFun xo_12 233).trans rfl) rfl rfl (by decide) rfl
  replace h : eT xq_180 _ 85 [some (.inr (.inl (some 75))), some (.inl i)] [.inl ((1 : Int32) - (μ42.1 75 2)), .inr (.inl (some 75))] (xpi (xpi (xpi (xpi (xpi (xpi μ42 75 25 (0 : Int32)) 75 26 (0 : Int32)) 75 27 (0 : Int32)) 75 29 (0 : Int32)) 75 32 ((1 : Int32) - (μ42.1 75 2))) 75 33 (0 : Int32)) r μ' := h
  obtain ⟨r85, μ85, hE85, h⟩ := tx_invV (na := 2) (mn := 218) (as := [.inr (.inl (some 75)), .inl ((1 : Int32) - (μ42.1 75 2))]) (rest := []) (p' := 88) h em180_85 ((congrFun xo_12 149).trans rfl) xm_218 rfl rfl
  have hG85 := gR xm_218 (by decide +kernel) hE85
  have er85 := ex_void [0, 1, 4, 5, 6, 7, 8, 11, 12, 13, 14, 15, 18, 19, 21, 22, 23, 26, 27, 28, 29, 30, 33, 34, 35, 36, 37, 38, 39, 40, 43, 44, 47, 48, 49, 50, 51, 52, 53, 54, 55, 58, 59, 60, 61, 62, 63, 64, 65, 68, 71, 72] (by decide +kernel) hE85
  subst er85
  replace h : eT xq_180 _ 88 [some (.inr (.inl (some 75))), some (.inl i)] [] μ85 r μ' := h
  replace h := tx_aload_n (p' := 89) h em180_88 rfl rfl
  replace h := tx_sipush (v := 130) (p' := 92) h em180_89 (by decide +kernel) rfl
  replace h := tx_aload_n (p' := 93) h em180_92 rfl rfl
  replace h := tx_getf (c := 12) (j := 32) (p' := 96) h em180_93 ((congrFun xo_12 233).trans rfl) rfl rfl (by decide) rfl
  replace h := tx_imul (p' := 97) h em180_96 rfl
  replace h := tx_putf (a := 75) (c := 12) (j := 43) (p' := 100) h em180_97 ((congrFun xo_12 239).trans rfl) rfl
  replace h := tx_aload_n (p' := 101) h em180_100 rfl rfl
  replace h := tx_sipush (v := 420) (p' := 104) h em180_101 (by decide +kernel) rfl
  replace h := tx_aload_n (p' := 105) h em180_104 rfl rfl
  replace h := tx_getf (c := 12) (j := 32) (p' := 108) h em180_105 ((congrFun xo_12 233).trans rfl) rfl rfl (by decide) rfl
  replace h : eT xq_180 _ 108 [some (.inr (.inl (some 75))), some (.inl i)] [.inl (μ85.1 75 32), .inl (420 : Int32), .inr (.inl (some 75))] (xpi μ85 75 43 ((130 : Int32) * (μ85.1 75 32))) r μ' := h
  replace h := tx_imul (p' := 109) h em180_108 rfl
  replace h := tx_putf (a := 75) (c := 12) (j := 49) (p' := 112) h em180_109 ((congrFun xo_12 242).trans rfl) rfl
  obtain ⟨k1, -, k2⟩ := gR_at hG42 h9
  obtain ⟨k3, -, k4⟩ := gR_at hG85 k1
  refine rp_112 _ _ _ h k3 ?_
  rw [xpi_ne (fun q => absurd q.2 (by decide)), xpi_ne (fun q => absurd q.2 (by decide)), k4]
  repeat rw [xpi_ne (fun q => absurd q.2 (by decide))]
  rw [k2]
  rw [xpi_ne (fun q => absurd q.2 (by decide))]
  exact hT
set_option maxRecDepth 10000 in
set_option maxHeartbeats 4000000 in
theorem rp_10 {T : Int32} {μ' : xM} {r : Option zV} : ∀ (n : Nat) (i : Int32) (ω : xM), eT xq_180 n 10 [some (.inr (.inl (some 75))), some (.inl i)] [] ω r μ' → 119 ≤ ω.2.2.2 → ω.1 75 64 = T → ∃ x : Int32, r = some (.inl x) ∧ (¬ x.toInt = 0 → μ'.1 75 64 = T) ∧ (x.toInt = 0 → (μ'.1 75 64).toInt = 0) := by
  intro n
  induction n using Nat.strongRecOn with
  | ind n ih =>
  intro i ω h h9 hT
  replace h := tx_iload_n (p' := 11) h em180_10 rfl rfl
  replace h := tx_aload_n (p' := 12) h em180_11 rfl rfl
  replace h := tx_getf (c := 12) (j := 18) (p' := 15) h em180_12 ((congrFun xo_12 169).trans rfl) rfl rfl (by decide) rfl
  rcases tx_icmp (t := 36) (p' := 18) h em180_15 (by decide) rfl with ⟨c15, h⟩ | ⟨c15, h⟩
  · replace c15 : (ω.1 75 18).toInt ≤ i.toInt := c15
    exact rp_36 h9 hT h
  · replace c15 : ¬ (ω.1 75 18).toInt ≤ i.toInt := c15
    replace h := tx_aload_n (p' := 19) h em180_18 rfl rfl
    replace h := tx_getc (c := 12) (j := 17) (p' := 22) h em180_19 ((congrFun xo_12 17).trans rfl) rfl rfl rfl
    replace h := tx_iload_n (p' := 23) h em180_22 rfl rfl
    replace h := tx_aload_n (p' := 24) h em180_23 rfl rfl
    replace h := tx_getc (c := 12) (j := 13) (p' := 27) h em180_24 ((congrFun xo_12 13).trans rfl) rfl rfl rfl
    replace h := tx_iload_n (p' := 28) h em180_27 rfl rfl
    obtain ⟨hb28, h⟩ := tx_bald (len := 2000) (p' := 29) h em180_28 rfl rfl
    replace hb28 : (0 : Int) ≤ i.toInt ∧ i.toInt < 2000 := hb28
    obtain ⟨hb29, h⟩ := tx_bast (len := 2000) (p' := 30) h em180_29 rfl rfl
    replace hb29 : (0 : Int) ≤ i.toInt ∧ i.toInt < 2000 := hb29
    replace h := tx_iinc (v := 1) (p' := 33) h em180_30 (by decide +kernel) rfl rfl
    replace h : eT xq_180 _ 33 [some (.inr (.inl (some 75))), some (.inl (i + 1))] [] (xpi ω 77 i.toInt.toNat ((ω.1 76 i.toInt.toNat)).toInt8.toInt32) r μ' := h
    obtain ⟨n2, hn2, h⟩ := tx_gotoS (t := 10) h em180_33 (by decide)
    exact ih n2 hn2 _ _ h h9 (by rw [xpi_ne (fun q => absurd q.1 (by decide))]; exact hT)
set_option maxRecDepth 10000 in
set_option maxHeartbeats 4000000 in
theorem rm_count {μ μ' : xM} {r : Option zV} (h0 : Ex gx xq_180 [.inr (.inl (some 75))] μ r μ') (h9 : 119 ≤ μ.2.2.2) : ∃ x : Int32, r = some (.inl x) ∧ (¬ x.toInt = 0 → μ'.1 75 64 = μ.1 75 64) ∧ (x.toInt = 0 → (μ'.1 75 64).toInt = 0) := by
  obtain ⟨n, h⟩ := tx_in (L := [some (.inr (.inl (some 75))), none]) h0 rfl
  replace h := tx_aload_n (p' := 1) h em180_0 rfl rfl
  replace h := tx_aload_n (p' := 2) h em180_1 rfl rfl
  replace h := tx_getf (c := 12) (j := 12) (p' := 5) h em180_2 ((congrFun xo_12 163).trans rfl) rfl rfl (by decide) rfl
  replace h := tx_putf (a := 75) (c := 12) (j := 18) (p' := 8) h em180_5 ((congrFun xo_12 169).trans rfl) rfl
  replace h := tx_iconst (v := 0) (p' := 9) h em180_8 (by decide +kernel) rfl
  replace h := tx_istore_n (p' := 10) h em180_9 rfl
  replace h : eT xq_180 _ 10 [some (.inr (.inl (some 75))), some (.inl (0 : Int32))] [] (xpi μ 75 18 (μ.1 75 12)) r μ' := h
  exact rp_10 _ _ _ h h9 (xpi_ne (fun q => absurd q.2 (by decide)))
set_option maxRecDepth 10000 in
set_option maxHeartbeats 4000000 in
theorem ex_note {a d o : Int32} {μ μ' : xM} {r : Option zV} (h0 : Ex gx xq_42 [.inr (.inl (some 44)), .inl a, .inl d, .inl o] μ r μ') (h0c : 0 ≤ (μ.1 44 3).toInt) : ((20 ≤ (μ.1 44 3).toInt) ∧ r = some (.inl (-1)) ∧ μ' = μ) ∨ ((μ.1 44 3).toInt < 20 ∧ (∃ x : Int32, r = some (.inl x) ∧ x.toInt = (μ.1 44 3).toInt) ∧ (μ'.1 44 3).toInt = (μ.1 44 3).toInt + 1) := by
  obtain ⟨n, h⟩ := tx_in (L := [some (.inr (.inl (some 44))), some (.inl a), some (.inl d), some (.inl o)]) h0 rfl
  replace h := tx_aload_n (p' := 1) h em42_0 rfl rfl
  replace h := tx_getf (c := 5) (j := 3) (p' := 4) h em42_1 ((congrFun xo_6 22).trans rfl) rfl rfl (by decide) rfl
  replace h := tx_bipush (v := 20) (p' := 6) h em42_4 (by decide +kernel) rfl
  rcases tx_icmp (t := 11) (p' := 9) h em42_6 (by decide) rfl with ⟨c6, h⟩ | ⟨c6, h⟩
  · replace c6 : (μ.1 44 3).toInt < 20 := c6
    replace h := tx_aload_n (p' := 12) h em42_11 rfl rfl
    replace h := tx_getc (c := 5) (j := 0) (p' := 15) h em42_12 ((congrFun xo_6 11).trans rfl) rfl rfl rfl
    replace h := tx_aload_n (p' := 16) h em42_15 rfl rfl
    replace h := tx_getf (c := 5) (j := 3) (p' := 19) h em42_16 ((congrFun xo_6 22).trans rfl) rfl rfl (by decide) rfl
    replace h := tx_iload_n (p' := 20) h em42_19 rfl rfl
    obtain ⟨hb20, h⟩ := tx_iast (len := 20) (p' := 21) h em42_20 rfl rfl
    replace hb20 : (0 : Int) ≤ (μ.1 44 3).toInt ∧ (μ.1 44 3).toInt < 20 := hb20
    replace h := tx_aload_n (p' := 22) h em42_21 rfl rfl
    replace h := tx_getc (c := 5) (j := 1) (p' := 25) h em42_22 ((congrFun xo_6 15).trans rfl) rfl rfl rfl
    replace h := tx_aload_n (p' := 26) h em42_25 rfl rfl
    replace h := tx_getf (c := 5) (j := 3) (p' := 29) h em42_26 ((congrFun xo_6 22).trans rfl) rfl rfl (by decide) rfl
    replace h : eT xq_42 _ 29 [some (.inr (.inl (some 44))), some (.inl a), some (.inl d), some (.inl o)] [.inl (μ.1 44 3), .inr (.inl (some 46))] (xpi μ 45 (μ.1 44 3).toInt.toNat a) r μ' := h
    replace h := tx_iload_n (p' := 30) h em42_29 rfl rfl
    obtain ⟨hb30, h⟩ := tx_iast (len := 20) (p' := 31) h em42_30 rfl rfl
    replace hb30 : (0 : Int) ≤ (μ.1 44 3).toInt ∧ (μ.1 44 3).toInt < 20 := hb30
    replace h := tx_aload_n (p' := 32) h em42_31 rfl rfl
    replace h := tx_getc (c := 5) (j := 2) (p' := 35) h em42_32 ((congrFun xo_6 18).trans rfl) rfl rfl rfl
    replace h := tx_aload_n (p' := 36) h em42_35 rfl rfl
    replace h := tx_getf (c := 5) (j := 3) (p' := 39) h em42_36 ((congrFun xo_6 22).trans rfl) rfl rfl (by decide) rfl
    replace h : eT xq_42 _ 39 [some (.inr (.inl (some 44))), some (.inl a), some (.inl d), some (.inl o)] [.inl (μ.1 44 3), .inr (.inl (some 47))] (xpi (xpi μ 45 (μ.1 44 3).toInt.toNat a) 46 (μ.1 44 3).toInt.toNat d) r μ' := h
    replace h := tx_iload_n (p' := 40) h em42_39 rfl rfl
    obtain ⟨hb40, h⟩ := tx_bast (len := 20) (p' := 41) h em42_40 rfl rfl
    replace hb40 : (0 : Int) ≤ (μ.1 44 3).toInt ∧ (μ.1 44 3).toInt < 20 := hb40
    replace h := tx_aload_n (p' := 42) h em42_41 rfl rfl
    replace h := tx_dup (p' := 43) h em42_42 rfl
    replace h := tx_getf (c := 5) (j := 3) (p' := 46) h em42_43 ((congrFun xo_6 22).trans rfl) rfl rfl (by decide) rfl
    replace h : eT xq_42 _ 46 [some (.inr (.inl (some 44))), some (.inl a), some (.inl d), some (.inl o)] [.inl (μ.1 44 3), .inr (.inl (some 44))] (xpi (xpi (xpi μ 45 (μ.1 44 3).toInt.toNat a) 46 (μ.1 44 3).toInt.toNat d) 47 (μ.1 44 3).toInt.toNat (o).toInt8.toInt32) r μ' := h
    replace h := tx_iconst (v := 1) (p' := 47) h em42_46 (by decide +kernel) rfl
    replace h := tx_iadd (p' := 48) h em42_47 rfl
    replace h := tx_putf (a := 44) (c := 5) (j := 3) (p' := 51) h em42_48 ((congrFun xo_6 22).trans rfl) rfl
    replace h := tx_aload_n (p' := 52) h em42_51 rfl rfl
    replace h := tx_getf (c := 5) (j := 3) (p' := 55) h em42_52 ((congrFun xo_6 22).trans rfl) rfl rfl (by decide) rfl
    replace h : eT xq_42 _ 55 [some (.inr (.inl (some 44))), some (.inl a), some (.inl d), some (.inl o)] [.inl ((μ.1 44 3) + (1 : Int32))] (xpi (xpi (xpi (xpi μ 45 (μ.1 44 3).toInt.toNat a) 46 (μ.1 44 3).toInt.toNat d) 47 (μ.1 44 3).toInt.toNat (o).toInt8.toInt32) 44 3 ((μ.1 44 3) + (1 : Int32))) r μ' := h
    replace h := tx_iconst (v := 1) (p' := 56) h em42_55 (by decide +kernel) rfl
    replace h := tx_isub (p' := 57) h em42_56 rfl
    obtain ⟨rfl, hμ⟩ := tx_ireturn h em42_57
    have e1i : (1 : Int32).toInt = 1 := by decide
    have ea : (μ.1 44 3 + 1).toInt = (μ.1 44 3).toInt + 1 := by rw [an_add (by rw [e1i]; omega) (by rw [e1i]; omega), e1i]
    refine Or.inr ⟨by omega, ⟨_, rfl, ?_⟩, ?_⟩
    · rw [an_sub (by rw [ea, e1i]; omega) (by rw [ea, e1i]; omega), ea, e1i]
      omega
    · rw [hμ, xpi_at]
      exact ea
  · replace c6 : ¬ (μ.1 44 3).toInt < 20 := c6
    replace h := tx_iconst (v := (-1)) (p' := 10) h em42_9 (by decide +kernel) rfl
    obtain ⟨rfl, hμ⟩ := tx_ireturn h em42_10
    exact Or.inl ⟨by omega, rfl, hμ⟩
set_option maxRecDepth 10000 in
set_option maxHeartbeats 4000000 in
theorem ex_ctell {a d o : Int32} {μ μ' : xM} {r : Option zV} (h0 : Ex gx xq_105 [.inr (.inl (some 0)), .inl a, .inl d, .inl o] μ r μ') (h0c : 0 ≤ (μ.1 44 3).toInt) : (¬ (0 ≤ a.toInt ∧ a.toInt < 8 ∧ 0 ≤ d.toInt ∧ d.toInt ≤ 999 ∧ (μ.1 44 3).toInt < 20) ∧ r = some (.inl (-1)) ∧ μ'.1 44 3 = μ.1 44 3) ∨ ((0 ≤ a.toInt ∧ a.toInt < 8 ∧ 0 ≤ d.toInt ∧ d.toInt ≤ 999 ∧ (μ.1 44 3).toInt < 20) ∧ (∃ x : Int32, r = some (.inl x) ∧ x.toInt = (μ.1 44 3).toInt) ∧ (μ'.1 44 3).toInt = (μ.1 44 3).toInt + 1) := by
  obtain ⟨n, h⟩ := tx_in (L := [some (.inr (.inl (some 0))), some (.inl a), some (.inl d), some (.inl o)]) h0 rfl
  replace h := tx_iload_n (p' := 1) h em105_0 rfl rfl
  rcases tx_if (t := 21) (p' := 4) h em105_1 (by decide) rfl with ⟨c1, h⟩ | ⟨c1, h⟩
  · replace c1 : a.toInt < 0 := c1
    replace h := tx_iconst (v := (-1)) (p' := 22) h em105_21 (by decide +kernel) rfl
    obtain ⟨rfl, hμ⟩ := tx_ireturn h em105_22
    exact Or.inl ⟨by omega, rfl, by rw [hμ]⟩
  · replace c1 : ¬ a.toInt < 0 := c1
    replace h := tx_iload_n (p' := 5) h em105_4 rfl rfl
    replace h := tx_bipush (v := 8) (p' := 7) h em105_5 (by decide +kernel) rfl
    rcases tx_icmp (t := 21) (p' := 10) h em105_7 (by decide) rfl with ⟨c7, h⟩ | ⟨c7, h⟩
    · replace c7 : 8 ≤ a.toInt := c7
      replace h := tx_iconst (v := (-1)) (p' := 22) h em105_21 (by decide +kernel) rfl
      obtain ⟨rfl, hμ⟩ := tx_ireturn h em105_22
      exact Or.inl ⟨by omega, rfl, by rw [hμ]⟩
    · replace c7 : ¬ 8 ≤ a.toInt := c7
      replace h := tx_iload_n (p' := 11) h em105_10 rfl rfl
      rcases tx_if (t := 21) (p' := 14) h em105_11 (by decide) rfl with ⟨c11, h⟩ | ⟨c11, h⟩
      · replace c11 : d.toInt < 0 := c11
        replace h := tx_iconst (v := (-1)) (p' := 22) h em105_21 (by decide +kernel) rfl
        obtain ⟨rfl, hμ⟩ := tx_ireturn h em105_22
        exact Or.inl ⟨by omega, rfl, by rw [hμ]⟩
      · replace c11 : ¬ d.toInt < 0 := c11
        replace h := tx_iload_n (p' := 15) h em105_14 rfl rfl
        replace h := tx_sipush (v := 999) (p' := 18) h em105_15 (by decide +kernel) rfl
        rcases tx_icmp (t := 23) (p' := 21) h em105_18 (by decide) rfl with ⟨c18, h⟩ | ⟨c18, h⟩
        · replace c18 : d.toInt ≤ 999 := c18
          replace h := tx_aload_n (p' := 24) h em105_23 rfl rfl
          replace h := tx_getc (c := 11) (j := 13) (p' := 27) h em105_24 ((congrFun xo_0 64).trans rfl) rfl rfl rfl
          replace h := tx_iload_n (p' := 28) h em105_27 rfl rfl
          replace h := tx_iload_n (p' := 29) h em105_28 rfl rfl
          replace h := tx_iload_n (p' := 30) h em105_29 rfl rfl
          obtain ⟨r30, μ30, hE30, h⟩ := tx_invV (na := 4) (mn := 42) (as := [.inr (.inl (some 44)), .inl a, .inl d, .inl o]) (rest := []) (p' := 33) h em105_30 ((congrFun xo_0 307).trans rfl) xm_42 rfl rfl
          have hN30 := ex_note hE30 h0c
          obtain ⟨z30, hz30⟩ : ∃ z : Int32, r30 = some (.inl z) := by
            rcases hN30 with ⟨-, e, -⟩ | ⟨-, ⟨z, e, -⟩, -⟩
            · exact ⟨_, e⟩
            · exact ⟨_, e⟩
          subst hz30
          replace h : eT xq_105 _ 33 [some (.inr (.inl (some 0))), some (.inl a), some (.inl d), some (.inl o)] [.inl z30] μ30 r μ' := h
          obtain ⟨rfl, hμ⟩ := tx_ireturn h em105_33
          rcases hN30 with ⟨b1, b2, b3⟩ | ⟨b1, ⟨z, b2, b3⟩, b4⟩
          · exact Or.inl ⟨by omega, b2, by rw [hμ, b3]⟩
          · exact Or.inr ⟨⟨by omega, by omega, by omega, by omega, b1⟩, ⟨z, b2, b3⟩, by rw [hμ]; exact b4⟩
        · replace c18 : ¬ d.toInt ≤ 999 := c18
          replace h := tx_iconst (v := (-1)) (p' := 22) h em105_21 (by decide +kernel) rfl
          obtain ⟨rfl, hμ⟩ := tx_ireturn h em105_22
          exact Or.inl ⟨by omega, rfl, by rw [hμ]⟩
set_option maxRecDepth 10000 in
set_option maxHeartbeats 4000000 in
theorem ex_in {a lo hi : Int32} {μ μ' : xM} {r : Option zV} (h0 : Ex gx xq_148 [.inl a, .inl lo, .inl hi] μ r μ') : μ' = μ ∧ ((r = some (.inl 1) ∧ lo.toInt ≤ a.toInt ∧ a.toInt ≤ hi.toInt) ∨ (r = some (.inl 0) ∧ ¬ (lo.toInt ≤ a.toInt ∧ a.toInt ≤ hi.toInt))) := by
  obtain ⟨n, h⟩ := tx_in (L := [some (.inl a), some (.inl lo), some (.inl hi)]) h0 rfl
  replace h := tx_iload_n (p' := 1) h em148_0 rfl rfl
  replace h := tx_iload_n (p' := 2) h em148_1 rfl rfl
  rcases tx_icmp (t := 14) (p' := 5) h em148_2 (by decide) rfl with ⟨c2, h⟩ | ⟨c2, h⟩
  · replace c2 : a.toInt < lo.toInt := c2
    replace h := tx_iconst (v := 0) (p' := 15) h em148_14 (by decide +kernel) rfl
    obtain ⟨rfl, hμ⟩ := tx_ireturn h em148_15
    first
      | exact ⟨hμ, Or.inl ⟨rfl, by omega, by omega⟩⟩
      | exact ⟨hμ, Or.inr ⟨rfl, by omega⟩⟩
  · replace c2 : ¬ a.toInt < lo.toInt := c2
    replace h := tx_iload_n (p' := 6) h em148_5 rfl rfl
    replace h := tx_iload_n (p' := 7) h em148_6 rfl rfl
    rcases tx_icmp (t := 14) (p' := 10) h em148_7 (by decide) rfl with ⟨c7, h⟩ | ⟨c7, h⟩
    · replace c7 : hi.toInt < a.toInt := c7
      replace h := tx_iconst (v := 0) (p' := 15) h em148_14 (by decide +kernel) rfl
      obtain ⟨rfl, hμ⟩ := tx_ireturn h em148_15
      first
        | exact ⟨hμ, Or.inl ⟨rfl, by omega, by omega⟩⟩
        | exact ⟨hμ, Or.inr ⟨rfl, by omega⟩⟩
    · replace c7 : ¬ hi.toInt < a.toInt := c7
      replace h := tx_iconst (v := 1) (p' := 11) h em148_10 (by decide +kernel) rfl
      replace h := tx_goto (t := 15) h em148_11 (by decide)
      obtain ⟨rfl, hμ⟩ := tx_ireturn h em148_15
      first
        | exact ⟨hμ, Or.inl ⟨rfl, by omega, by omega⟩⟩
        | exact ⟨hμ, Or.inr ⟨rfl, by omega⟩⟩
set_option maxRecDepth 10000 in
set_option maxHeartbeats 4000000 in
theorem ex_isSort {a : Int32} {μ μ' : xM} {r : Option zV} (h0 : Ex gx xq_154 [.inl a] μ r μ') : μ' = μ ∧ ((r = some (.inl 1) ∧ 0 ≤ a.toInt ∧ a.toInt ≤ 7) ∨ (r = some (.inl 0) ∧ ¬ (0 ≤ a.toInt ∧ a.toInt ≤ 7))) := by
  obtain ⟨n, h⟩ := tx_in (L := [some (.inl a)]) h0 rfl
  replace h := tx_iload_n (p' := 1) h em154_0 rfl rfl
  replace h := tx_iconst (v := 0) (p' := 2) h em154_1 (by decide +kernel) rfl
  replace h := tx_bipush (v := 7) (p' := 4) h em154_2 (by decide +kernel) rfl
  obtain ⟨r4, μ4, hE4, h⟩ := tx_invS (na := 3) (mn := 148) (as := [.inl a, .inl (0 : Int32), .inl (7 : Int32)]) (rest := []) (p' := 7) h em154_4 ((congrFun xo_12 324).trans rfl) xm_148 rfl rfl
  obtain ⟨hm, ⟨rfl, i41, i42⟩ | ⟨rfl, i41⟩⟩ := ex_in hE4
  · rw [hm] at h
    replace h : eT xq_154 _ 7 [some (.inl a)] [.inl (1 : Int32)] μ r μ' := h
    obtain ⟨rfl, hμ⟩ := tx_ireturn h em154_7
    have e0i : (0 : Int32).toInt = 0 := by decide
    have e7i : (7 : Int32).toInt = 7 := by decide
    have e999 : (999 : Int32).toInt = 999 := by decide
    first
      | exact ⟨hμ, Or.inl ⟨rfl, by omega, by omega⟩⟩
      | exact ⟨hμ, Or.inr ⟨rfl, by omega⟩⟩
  · rw [hm] at h
    replace h : eT xq_154 _ 7 [some (.inl a)] [.inl (0 : Int32)] μ r μ' := h
    obtain ⟨rfl, hμ⟩ := tx_ireturn h em154_7
    have e0i : (0 : Int32).toInt = 0 := by decide
    have e7i : (7 : Int32).toInt = 7 := by decide
    have e999 : (999 : Int32).toInt = 999 := by decide
    first
      | exact ⟨hμ, Or.inl ⟨rfl, by omega, by omega⟩⟩
      | exact ⟨hμ, Or.inr ⟨rfl, by omega⟩⟩
set_option maxRecDepth 10000 in
set_option maxHeartbeats 4000000 in
theorem ex_mtell {a d o : Int32} {μ μ' : xM} {r : Option zV} (h0 : Ex gx xq_188 [.inr (.inl (some 75)), .inl a, .inl d, .inl o] μ r μ') (h0c : 0 ≤ (μ.1 75 64).toInt) (h1c : (μ.1 75 64).toInt ≤ 20) : (¬ (0 ≤ a.toInt ∧ a.toInt < 8 ∧ 0 ≤ d.toInt ∧ d.toInt ≤ 999 ∧ (μ.1 75 64).toInt < 20) ∧ r = some (.inl (-1)) ∧ μ'.1 75 64 = μ.1 75 64) ∨ ((0 ≤ a.toInt ∧ a.toInt < 8 ∧ 0 ≤ d.toInt ∧ d.toInt ≤ 999 ∧ (μ.1 75 64).toInt < 20) ∧ (∃ x : Int32, r = some (.inl x) ∧ x.toInt = (μ.1 75 64).toInt) ∧ (μ'.1 75 64).toInt = (μ.1 75 64).toInt + 1) := by
  obtain ⟨n, h⟩ := tx_in (L := [some (.inr (.inl (some 75))), some (.inl a), some (.inl d), some (.inl o)]) h0 rfl
  have e20 : (20 : Int32).toInt = 20 := by decide
  replace h := tx_aload_n (p' := 1) h em188_0 rfl rfl
  replace h := tx_getf (c := 12) (j := 64) (p' := 4) h em188_1 ((congrFun xo_12 251).trans rfl) rfl rfl (by decide) rfl
  replace h := tx_bipush (v := 20) (p' := 6) h em188_4 (by decide +kernel) rfl
  rcases tx_icmp (t := 27) (p' := 9) h em188_6 (by decide) rfl with ⟨c6, h⟩ | ⟨c6, h⟩
  · replace c6 : (μ.1 75 64).toInt = 20 := c6
    replace h := tx_iconst (v := (-1)) (p' := 28) h em188_27 (by decide +kernel) rfl
    obtain ⟨rfl, hμ⟩ := tx_ireturn h em188_28
    have e0i : (0 : Int32).toInt = 0 := by decide
    have e7i : (7 : Int32).toInt = 7 := by decide
    have e999 : (999 : Int32).toInt = 999 := by decide
    first
      | exact Or.inl ⟨by omega, rfl, by rw [hμ]⟩
      | (exfalso; omega)
  · replace c6 : ¬ (μ.1 75 64).toInt = 20 := c6
    replace h := tx_iload_n (p' := 10) h em188_9 rfl rfl
    obtain ⟨r10, μ10, hE10, h⟩ := tx_invS (na := 1) (mn := 154) (as := [.inl a]) (rest := []) (p' := 13) h em188_10 ((congrFun xo_12 408).trans rfl) xm_154 rfl rfl
    obtain ⟨hm, ⟨rfl, i101, i102⟩ | ⟨rfl, i101⟩⟩ := ex_isSort hE10
    · rw [hm] at h
      replace h : eT xq_188 _ 13 [some (.inr (.inl (some 75))), some (.inl a), some (.inl d), some (.inl o)] [.inl (1 : Int32)] μ r μ' := h
      rcases tx_if (t := 27) (p' := 16) h em188_13 (by decide) rfl with ⟨c13, h⟩ | ⟨c13, h⟩
      · replace c13 : (1 : Int) = (0 : Int) := c13
        exfalso
        omega
      · replace c13 : ¬ (1 : Int) = (0 : Int) := c13
        replace h := tx_iload_n (p' := 17) h em188_16 rfl rfl
        replace h := tx_iconst (v := 0) (p' := 18) h em188_17 (by decide +kernel) rfl
        replace h := tx_sipush (v := 999) (p' := 21) h em188_18 (by decide +kernel) rfl
        obtain ⟨r21, μ21, hE21, h⟩ := tx_invS (na := 3) (mn := 148) (as := [.inl d, .inl (0 : Int32), .inl (999 : Int32)]) (rest := []) (p' := 24) h em188_21 ((congrFun xo_12 324).trans rfl) xm_148 rfl rfl
        obtain ⟨hm, ⟨rfl, i211, i212⟩ | ⟨rfl, i211⟩⟩ := ex_in hE21
        · rw [hm] at h
          replace h : eT xq_188 _ 24 [some (.inr (.inl (some 75))), some (.inl a), some (.inl d), some (.inl o)] [.inl (1 : Int32)] μ r μ' := h
          rcases tx_if (t := 29) (p' := 27) h em188_24 (by decide) rfl with ⟨c24, h⟩ | ⟨c24, h⟩
          · replace c24 : ¬ (1 : Int) = (0 : Int) := c24
            replace h := tx_aload_n (p' := 30) h em188_29 rfl rfl
            replace h := tx_getc (c := 12) (j := 65) (p' := 33) h em188_30 ((congrFun xo_12 134).trans rfl) rfl rfl rfl
            replace h := tx_aload_n (p' := 34) h em188_33 rfl rfl
            replace h := tx_getf (c := 12) (j := 64) (p' := 37) h em188_34 ((congrFun xo_12 251).trans rfl) rfl rfl (by decide) rfl
            replace h := tx_iload_n (p' := 38) h em188_37 rfl rfl
            obtain ⟨hb38, h⟩ := tx_iast (len := 20) (p' := 39) h em188_38 rfl rfl
            replace hb38 : (0 : Int) ≤ (μ.1 75 64).toInt ∧ (μ.1 75 64).toInt < 20 := hb38
            replace h := tx_aload_n (p' := 40) h em188_39 rfl rfl
            replace h := tx_getc (c := 12) (j := 66) (p' := 43) h em188_40 ((congrFun xo_12 137).trans rfl) rfl rfl rfl
            replace h := tx_aload_n (p' := 44) h em188_43 rfl rfl
            replace h := tx_getf (c := 12) (j := 64) (p' := 47) h em188_44 ((congrFun xo_12 251).trans rfl) rfl rfl (by decide) rfl
            replace h : eT xq_188 _ 47 [some (.inr (.inl (some 75))), some (.inl a), some (.inl d), some (.inl o)] [.inl (μ.1 75 64), .inr (.inl (some 115))] (xpi μ 114 (μ.1 75 64).toInt.toNat a) r μ' := h
            replace h := tx_iload_n (p' := 48) h em188_47 rfl rfl
            obtain ⟨hb48, h⟩ := tx_iast (len := 20) (p' := 49) h em188_48 rfl rfl
            replace hb48 : (0 : Int) ≤ (μ.1 75 64).toInt ∧ (μ.1 75 64).toInt < 20 := hb48
            replace h := tx_aload_n (p' := 50) h em188_49 rfl rfl
            replace h := tx_getc (c := 12) (j := 67) (p' := 53) h em188_50 ((congrFun xo_12 140).trans rfl) rfl rfl rfl
            replace h := tx_aload_n (p' := 54) h em188_53 rfl rfl
            replace h := tx_getf (c := 12) (j := 64) (p' := 57) h em188_54 ((congrFun xo_12 251).trans rfl) rfl rfl (by decide) rfl
            replace h : eT xq_188 _ 57 [some (.inr (.inl (some 75))), some (.inl a), some (.inl d), some (.inl o)] [.inl (μ.1 75 64), .inr (.inl (some 116))] (xpi (xpi μ 114 (μ.1 75 64).toInt.toNat a) 115 (μ.1 75 64).toInt.toNat d) r μ' := h
            replace h := tx_iload_n (p' := 58) h em188_57 rfl rfl
            obtain ⟨hb58, h⟩ := tx_bast (len := 20) (p' := 59) h em188_58 rfl rfl
            replace hb58 : (0 : Int) ≤ (μ.1 75 64).toInt ∧ (μ.1 75 64).toInt < 20 := hb58
            replace h := tx_aload_n (p' := 60) h em188_59 rfl rfl
            replace h := tx_dup (p' := 61) h em188_60 rfl
            replace h := tx_getf (c := 12) (j := 64) (p' := 64) h em188_61 ((congrFun xo_12 251).trans rfl) rfl rfl (by decide) rfl
            replace h : eT xq_188 _ 64 [some (.inr (.inl (some 75))), some (.inl a), some (.inl d), some (.inl o)] [.inl (μ.1 75 64), .inr (.inl (some 75))] (xpi (xpi (xpi μ 114 (μ.1 75 64).toInt.toNat a) 115 (μ.1 75 64).toInt.toNat d) 116 (μ.1 75 64).toInt.toNat (o).toInt8.toInt32) r μ' := h
            replace h := tx_iconst (v := 1) (p' := 65) h em188_64 (by decide +kernel) rfl
            replace h := tx_iadd (p' := 66) h em188_65 rfl
            replace h := tx_putf (a := 75) (c := 12) (j := 64) (p' := 69) h em188_66 ((congrFun xo_12 251).trans rfl) rfl
            replace h := tx_aload_n (p' := 70) h em188_69 rfl rfl
            replace h := tx_getf (c := 12) (j := 64) (p' := 73) h em188_70 ((congrFun xo_12 251).trans rfl) rfl rfl (by decide) rfl
            replace h : eT xq_188 _ 73 [some (.inr (.inl (some 75))), some (.inl a), some (.inl d), some (.inl o)] [.inl ((μ.1 75 64) + (1 : Int32))] (xpi (xpi (xpi (xpi μ 114 (μ.1 75 64).toInt.toNat a) 115 (μ.1 75 64).toInt.toNat d) 116 (μ.1 75 64).toInt.toNat (o).toInt8.toInt32) 75 64 ((μ.1 75 64) + (1 : Int32))) r μ' := h
            replace h := tx_iconst (v := 1) (p' := 74) h em188_73 (by decide +kernel) rfl
            replace h := tx_isub (p' := 75) h em188_74 rfl
            obtain ⟨rfl, hμ⟩ := tx_ireturn h em188_75
            have e0i : (0 : Int32).toInt = 0 := by decide
            have e7i : (7 : Int32).toInt = 7 := by decide
            have e999 : (999 : Int32).toInt = 999 := by decide
            have e1i : (1 : Int32).toInt = 1 := by decide
            have ea : (μ.1 75 64 + 1).toInt = (μ.1 75 64).toInt + 1 := by rw [an_add (by rw [e1i]; omega) (by rw [e1i]; omega), e1i]
            first
              | (refine Or.inr ⟨⟨by omega, by omega, by omega, by omega, by omega⟩, ⟨_, rfl, ?_⟩, ?_⟩
                 · rw [an_sub (by rw [ea, e1i]; omega) (by rw [ea, e1i]; omega), ea, e1i]
                   omega
                 · rw [hμ, xpi_at]
                   exact ea)
              | (exfalso; omega)
          · replace c24 : ¬ ¬ (1 : Int) = (0 : Int) := c24
            exfalso
            omega
        · rw [hm] at h
          replace h : eT xq_188 _ 24 [some (.inr (.inl (some 75))), some (.inl a), some (.inl d), some (.inl o)] [.inl (0 : Int32)] μ r μ' := h
          rcases tx_if (t := 29) (p' := 27) h em188_24 (by decide) rfl with ⟨c24_1, h⟩ | ⟨c24_1, h⟩
          · replace c24_1 : ¬ (0 : Int) = (0 : Int) := c24_1
            exfalso
            omega
          · replace c24_1 : ¬ ¬ (0 : Int) = (0 : Int) := c24_1
            replace h := tx_iconst (v := (-1)) (p' := 28) h em188_27 (by decide +kernel) rfl
            obtain ⟨rfl, hμ⟩ := tx_ireturn h em188_28
            have e0i : (0 : Int32).toInt = 0 := by decide
            have e7i : (7 : Int32).toInt = 7 := by decide
            have e999 : (999 : Int32).toInt = 999 := by decide
            first
              | exact Or.inl ⟨by omega, rfl, by rw [hμ]⟩
              | (exfalso; omega)
    · rw [hm] at h
      replace h : eT xq_188 _ 13 [some (.inr (.inl (some 75))), some (.inl a), some (.inl d), some (.inl o)] [.inl (0 : Int32)] μ r μ' := h
      rcases tx_if (t := 27) (p' := 16) h em188_13 (by decide) rfl with ⟨c13_1, h⟩ | ⟨c13_1, h⟩
      · replace c13_1 : (0 : Int) = (0 : Int) := c13_1
        replace h := tx_iconst (v := (-1)) (p' := 28) h em188_27 (by decide +kernel) rfl
        obtain ⟨rfl, hμ⟩ := tx_ireturn h em188_28
        have e0i : (0 : Int32).toInt = 0 := by decide
        have e7i : (7 : Int32).toInt = 7 := by decide
        have e999 : (999 : Int32).toInt = 999 := by decide
        first
          | exact Or.inl ⟨by omega, rfl, by rw [hμ]⟩
          | (exfalso; omega)
      · replace c13_1 : ¬ (0 : Int) = (0 : Int) := c13_1
        exfalso
        omega
/-- between the calls: the tapes are alike, and as many were told -/
def lwR (μ : xM) : Prop := lwT μ ∧ (0 ≤ (μ.1 44 3).toInt ∧ (μ.1 44 3).toInt ≤ 20) ∧ μ.1 75 64 = μ.1 44 3
theorem lwR_g {a b : Nat} {q q' : xP} {as as' : List zV} {r r' : Option zV} {μ μ1 μ2 : xM} (hq : xMB a = some q) (hl : gL a = true) (hq' : xMB b = some q') (hl' : gL b = true) (h : Ex gx q as μ r μ1) (h' : Ex gx q' as' μ1 r' μ2) (hT : lwT μ2) (hR : lwR μ) : lwR μ2 := by
  obtain ⟨a0, a1, a2⟩ := gR_at (gR hq hl h) hR.1.1
  obtain ⟨b0, b1, b2⟩ := gR_at (gR hq' hl' h') a0
  exact ⟨hT, by rw [b1, a1]; exact hR.2.1, by rw [b1, b2, a1, a2]; exact hR.2.2⟩
theorem lwR_2 {a b : Nat} {q q' : xP} {as as' : List zV} {r r' : Option zV} {μ μ1 μ2 : xM} (hq : xMB a = some q) (hl : (fL2 a && gL a) = true) (hq' : xMB b = some q') (hl' : (fL2 b && gL b) = true) (h : Ex gx q as μ r μ1) (h' : Ex gx q' as' μ1 r' μ2) (hR : lwR μ) : lwR μ2 := by
  rw [Bool.and_eq_true] at hl hl'
  exact lwR_g hq hl.2 hq' hl'.2 h h' (lwT_2 hq hl.1 hq' hl'.1 h h' hR.1) hR
theorem lwR_feed {a b d e f : Int32} {r r' : Option zV} {μ μ1 μ2 : xM} (h1 : Ex gx xq_81 [.inr (.inl (some 0)), .inl a, .inl b, .inl d, .inl e, .inl f] μ r μ1) (h2 : Ex gx xq_134 [.inr (.inl (some 75)), .inl a, .inl b, .inl d, .inl e, .inl f] μ1 r' μ2) (hR : lwR μ) : lwR μ2 := lwR_g xm_81 (by decide +kernel) xm_134 (by decide +kernel) h1 h2 (lwT_feed h1 h2 hR.1) hR
theorem lwR_back {a : Int32} {r r' : Option zV} {μ μ1 μ2 : xM} (h1 : Ex gx xq_72 [.inr (.inl (some 0)), .inl a] μ r μ1) (h2 : Ex gx xq_119 [.inr (.inl (some 75)), .inl a] μ1 r' μ2) (hR : lwR μ) : lwR μ2 := lwR_g xm_72 (by decide +kernel) xm_119 (by decide +kernel) h1 h2 (lwT_back h1 h2 hR.1) hR
theorem lwR_read {r r' : Option zV} {μ μ1 μ2 : xM} (h1 : Ex gx xq_98 [.inr (.inl (some 0))] μ r μ1) (h2 : Ex gx xq_180 [.inr (.inl (some 75))] μ1 r' μ2) (hR : lwR μ) : (∃ x : Int32, r = some (.inl x) ∧ r' = some (.inl x)) ∧ lwR μ2 := by
  obtain ⟨⟨x, rfl, rfl⟩, hT⟩ := lwT_read h1 h2 hR.1
  obtain ⟨c1, c2⟩ := gRc_at (gRc xm_98 (by decide +kernel) h1) hR.1.1
  obtain ⟨d1, d2⟩ := gRb_at (gRb xm_180 (by decide +kernel) h2) c1
  obtain ⟨y, e, p1, p2⟩ := rc_count h1 hR.1.1 hR.1.2.1
  cases e
  obtain ⟨y, e, q1, q2⟩ := rm_count h2 c1
  cases e
  refine ⟨⟨_, rfl, rfl⟩, hT, ?_⟩
  by_cases q : x.toInt = 0
  · have e1 := p2 q
    have e2 := q2 q
    rw [d2]
    exact ⟨by omega, Int32.toInt_inj.mp (e2.trans e1.symm)⟩
  · rw [d2, p1 q, q1 q, c2]
    exact hR.2
theorem lwR_forget {r r' : Option zV} {μ μ1 μ2 : xM} (h1 : Ex gx xq_82 [.inr (.inl (some 0))] μ r μ1) (h2 : Ex gx xq_137 [.inr (.inl (some 75))] μ1 r' μ2) (hR : lwR μ) : (∃ x : Int32, r = some (.inl x) ∧ r' = some (.inl x)) ∧ lwR μ2 := by
  have hT := lwT_2 xm_82 (by decide +kernel) xm_137 (by decide +kernel) h1 h2 hR.1
  obtain ⟨rfl, rfl⟩ := ex_cforget h1
  obtain ⟨rfl, rfl⟩ := ex_mforget h2
  have e1 : (xpi μ 44 3 0).1 75 64 = μ.1 75 64 := xpi_ne (fun q => absurd q.1 (by decide))
  have e2 : (xpi (xpi μ 44 3 0) 75 64 0).1 75 64 = 0 := xpi_at
  have e3 : (xpi (xpi μ 44 3 0) 75 64 0).1 44 3 = 0 := (xpi_ne (fun q => absurd q.1 (by decide))).trans xpi_at
  exact ⟨⟨_, rfl, by rw [e1, hR.2.2]⟩, hT, by rw [e3]; decide, by rw [e2, e3]⟩
theorem lwR_tell {a d o : Int32} {r r' : Option zV} {μ μ1 μ2 : xM} (h1 : Ex gx xq_105 [.inr (.inl (some 0)), .inl a, .inl d, .inl o] μ r μ1) (h2 : Ex gx xq_188 [.inr (.inl (some 75)), .inl a, .inl d, .inl o] μ1 r' μ2) (hR : lwR μ) : (∃ x : Int32, r = some (.inl x) ∧ r' = some (.inl x)) ∧ lwR μ2 := by
  have hT := lwT_2 xm_105 (by decide +kernel) xm_188 (by decide +kernel) h1 h2 hR.1
  obtain ⟨c1, c2⟩ := gRc_at (gRc xm_105 (by decide +kernel) h1) hR.1.1
  obtain ⟨d1, d2⟩ := gRb_at (gRb xm_188 (by decide +kernel) h2) c1
  obtain ⟨g1, g2⟩ := hR.2
  have e0 : μ1.1 75 64 = μ.1 44 3 := c2.trans g2
  have hm := ex_mtell h2 (by rw [e0]; exact g1.1) (by rw [e0]; exact g1.2)
  have hc := ex_ctell h1 g1.1
  rw [e0] at hm
  rcases hc with ⟨b1, b2, b3⟩ | ⟨b1, ⟨x, b2, b3⟩, b4⟩
  · rcases hm with ⟨a1, a2, a3⟩ | ⟨a1, -⟩
    · exact ⟨⟨_, b2, a2⟩, hT, by rw [d2, b3]; exact g1, by rw [d2, b3]; exact a3⟩
    · exact absurd a1 b1
  · rcases hm with ⟨a1, -⟩ | ⟨-, ⟨y, a2, a3⟩, a4⟩
    · exact absurd b1 a1
    · have hxy : y = x := Int32.toInt_inj.mp (by omega)
      subst hxy
      exact ⟨⟨_, b2, a2⟩, hT, by rw [d2]; omega, by rw [d2]; exact Int32.toInt_inj.mp (by omega)⟩
