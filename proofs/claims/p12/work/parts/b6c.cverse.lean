theorem dec99 {x : Int} (h : 0 ≤ x) : decide (x < (0 : Int32).toInt ∨ (99 : Int32).toInt < x) = decide (99 < x) :=
  decide_eq_decide.mpr ⟨fun q => q.elim (fun q => absurd q (by show ¬ _ < (0 : Int); omega)) id, Or.inr⟩
set_option maxRecDepth 10000 in
set_option maxHeartbeats 4000000 in
theorem ex_verse {e : Int} {μ μ' : xM} {r : Option zV} (h0 : Ex gx xq_20 [.inr (.inl (some 12))] μ r μ') (ha0 : 0 ≤ cA μ) (ha : cA μ ≤ e) (ht : cTV μ e) (hn : nmI e μ) (hkk : cK μ (cA μ) = 129) : r = none ∧ oT e μ μ' := by
  obtain ⟨n, h⟩ := tx_in (L := [some (.inr (.inl (some 12))), none, none, none, none]) h0 rfl
  have hG0 : pE μ μ := pE_rf
  have hT0 := ht
  have h400 := ht.1
  have e1i : (1 : Int32).toInt = 1 := by decide
  have e2i : (2 : Int32).toInt = 2 := by decide
  have e3i : (3 : Int32).toInt = 3 := by decide
  have e4i : (4 : Int32).toInt = 4 := by decide
  have o1 : ((μ.1 12 3) + 1).toInt = cA μ + 1 := by unfold cA at *; rw [an_add (by rw [e1i]; omega) (by rw [e1i]; omega), e1i]
  have o2 : ((μ.1 12 3) + 2).toInt = cA μ + 2 := by unfold cA at *; rw [an_add (by rw [e2i]; omega) (by rw [e2i]; omega), e2i]
  have o3 : ((μ.1 12 3) + 3).toInt = cA μ + 3 := by unfold cA at *; rw [an_add (by rw [e3i]; omega) (by rw [e3i]; omega), e3i]
  have o4 : ((μ.1 12 3) + 4).toInt = cA μ + 4 := by unfold cA at *; rw [an_add (by rw [e4i]; omega) (by rw [e4i]; omega), e4i]
  have loop : ∀ (n : Nat) (i vn : Int32) (ω : xM) {o : Option zV}, eT xq_20 n 175 [some (.inr (.inl (some 12))), some (.inl (μ.1 12 3)), some (.inl vn), some (.inl i), o] [] ω r μ' → gE μ ω → 0 ≤ i.toInt → cK μ (cA μ + 2) = 2 → cA μ + 2 ≤ e → ω.1 17 vn.toInt.toNat = μ.1 26 ((μ.1 12 3) + 2).toInt.toNat → ∃ ω', r = none ∧ (∀ k j, k ≠ 18 → k ≠ 19 → ω'.1 k j = ω.1 k j) ∧ ω'.2 = ω.2 ∧ μ' = xpi ω' 13 1 ((ω.1 13 1) + 1) := by
    intro n
    induction n using Nat.strongRecOn with
    | ind n ih =>
    intro i vn ω o h hGω hi0 hk2 ho2 hw17
    replace h := tx_iload_n (p' := 176) h em20_175 rfl rfl
    replace h := tx_bipush (v := 8) (p' := 178) h em20_176 (by decide +kernel) rfl
    rcases tx_icmp (t := 257) (p' := 181) h em20_178 (by decide) rfl with ⟨c178, h⟩ | ⟨c178, h⟩
    · replace c178 : 8 ≤ i.toInt := c178
      replace h := tx_aload_n (p' := 258) h em20_257 rfl rfl
      replace h := tx_getc (c := 2) (j := 0) (p' := 261) h em20_258 ((congrFun xo_3 12).trans rfl) rfl rfl rfl
      replace h := tx_dup (p' := 262) h em20_261 rfl
      replace h := tx_getf (c := 6) (j := 1) (p' := 265) h em20_262 ((congrFun xo_3 112).trans rfl) rfl rfl (by decide) rfl
      replace h := tx_iconst (v := 1) (p' := 266) h em20_265 (by decide +kernel) rfl
      replace h := tx_iadd (p' := 267) h em20_266 rfl
      replace h := tx_putf (a := 13) (c := 6) (j := 1) (p' := 270) h em20_267 ((congrFun xo_3 112).trans rfl) rfl
      obtain ⟨rfl, hμ⟩ := tx_return h em20_270
      exact ⟨ω, rfl, fun _ _ _ _ => rfl, rfl, hμ⟩
    · replace c178 : ¬ 8 ≤ i.toInt := c178
      replace h := tx_iload_n (p' := 182) h em20_181 rfl rfl
      replace h := tx_aload_n (p' := 183) h em20_182 rfl rfl
      replace h := tx_getc (c := 2) (j := 0) (p' := 186) h em20_183 ((congrFun xo_3 12).trans rfl) rfl rfl rfl
      replace h := tx_getc (c := 6) (j := 8) (p' := 189) h em20_186 ((congrFun xo_3 125).trans rfl) rfl rfl rfl
      replace h := tx_iload_n (p' := 190) h em20_189 rfl rfl
      obtain ⟨hb190, h⟩ := tx_iald (len := 7) (p' := 191) h em20_190 rfl rfl
      replace hb190 : 0 ≤ vn.toInt ∧ vn.toInt < 7 := hb190
      rcases tx_icmp (t := 257) (p' := 194) h em20_191 (by decide) rfl with ⟨c191, h⟩ | ⟨c191, h⟩
      · replace c191 : (ω.1 17 vn.toInt.toNat).toInt ≤ i.toInt := c191
        replace h := tx_aload_n (p' := 258) h em20_257 rfl rfl
        replace h := tx_getc (c := 2) (j := 0) (p' := 261) h em20_258 ((congrFun xo_3 12).trans rfl) rfl rfl rfl
        replace h := tx_dup (p' := 262) h em20_261 rfl
        replace h := tx_getf (c := 6) (j := 1) (p' := 265) h em20_262 ((congrFun xo_3 112).trans rfl) rfl rfl (by decide) rfl
        replace h := tx_iconst (v := 1) (p' := 266) h em20_265 (by decide +kernel) rfl
        replace h := tx_iadd (p' := 267) h em20_266 rfl
        replace h := tx_putf (a := 13) (c := 6) (j := 1) (p' := 270) h em20_267 ((congrFun xo_3 112).trans rfl) rfl
        obtain ⟨rfl, hμ⟩ := tx_return h em20_270
        exact ⟨ω, rfl, fun _ _ _ _ => rfl, rfl, hμ⟩
      · replace c191 : ¬ (ω.1 17 vn.toInt.toNat).toInt ≤ i.toInt := c191
        replace h := tx_aload_n (p' := 195) h em20_194 rfl rfl
        replace h := tx_iload_n (p' := 196) h em20_195 rfl rfl
        replace h := tx_iconst (v := 2) (p' := 197) h em20_196 (by decide +kernel) rfl
        replace h := tx_iadd (p' := 198) h em20_197 rfl
        replace h := tx_iload_n (p' := 199) h em20_198 rfl rfl
        obtain ⟨r199, μ199, hE199, h⟩ := tx_invV (na := 3) (mn := 237) (as := [.inr (.inl (some 12)), .inl ((μ.1 12 3) + (2 : Int32)), .inl i]) (rest := []) (p' := 202) h em20_199 ((congrFun xo_3 105).trans rfl) xm_237 rfl rfl
        obtain ⟨lv, rfl, hlv, hm⟩ := ex_letterOf hE199 (gE_TV hGω ht) (by omega) (by omega) (by rw [gE_K hGω, o2]; exact hk2) (by omega) (by unfold cS; rw [hGω.1 26 _ (by decide) (by decide), ← hw17]; omega)
        rw [hm] at h
        replace h : eT xq_20 _ 202 [some (.inr (.inl (some 12))), some (.inl (μ.1 12 3)), some (.inl vn), some (.inl i), o] [.inl lv] ω r μ' := h
        replace h := tx_istore (p' := 204) h em20_202 rfl
        replace h : eT xq_20 _ 204 [some (.inr (.inl (some 12))), some (.inl (μ.1 12 3)), some (.inl vn), some (.inl i), some (.inl lv)] [] ω r μ' := h
        replace h := tx_iload (p' := 206) h em20_204 rfl rfl
        rcases tx_if (t := 251) (p' := 209) h em20_206 (by decide) rfl with ⟨c206, h⟩ | ⟨c206, h⟩
        · replace c206 : lv.toInt < 0 := c206
          replace h := tx_iinc (v := 1) (p' := 254) h em20_251 (by decide +kernel) rfl rfl
          replace h : eT xq_20 _ 254 [some (.inr (.inl (some 12))), some (.inl (μ.1 12 3)), some (.inl vn), some (.inl (i + 1)), some (.inl lv)] [] ω r μ' := h
          obtain ⟨n2, hn2, h⟩ := tx_gotoS (t := 175) h em20_254 (by decide)
          have hi1 : (i + 1).toInt = i.toInt + 1 := by rw [an_add (by rw [e1i]; omega) (by rw [e1i]; omega), e1i]
          obtain ⟨ω1, v0, v1, v2, v4⟩ := ih n2 hn2 _ _ _ h hGω (by rw [hi1]; omega) hk2 ho2 hw17
          exact ⟨ω1, v0, fun k j a b => v1 k j a b, v2, v4⟩
        · replace c206 : ¬ lv.toInt < 0 := c206
          replace h := tx_iload (p' := 211) h em20_209 rfl rfl
          replace h := tx_bipush (v := 8) (p' := 213) h em20_211 (by decide +kernel) rfl
          rcases tx_icmp (t := 251) (p' := 216) h em20_213 (by decide) rfl with ⟨c213, h⟩ | ⟨c213, h⟩
          · replace c213 : 8 ≤ lv.toInt := c213
            replace h := tx_iinc (v := 1) (p' := 254) h em20_251 (by decide +kernel) rfl rfl
            replace h : eT xq_20 _ 254 [some (.inr (.inl (some 12))), some (.inl (μ.1 12 3)), some (.inl vn), some (.inl (i + 1)), some (.inl lv)] [] ω r μ' := h
            obtain ⟨n2, hn2, h⟩ := tx_gotoS (t := 175) h em20_254 (by decide)
            have hi1 : (i + 1).toInt = i.toInt + 1 := by rw [an_add (by rw [e1i]; omega) (by rw [e1i]; omega), e1i]
            obtain ⟨ω1, v0, v1, v2, v4⟩ := ih n2 hn2 _ _ _ h hGω (by rw [hi1]; omega) hk2 ho2 hw17
            exact ⟨ω1, v0, fun k j a b => v1 k j a b, v2, v4⟩
          · replace c213 : ¬ 8 ≤ lv.toInt := c213
            replace h := tx_aload_n (p' := 217) h em20_216 rfl rfl
            replace h := tx_getc (c := 2) (j := 0) (p' := 220) h em20_217 ((congrFun xo_3 12).trans rfl) rfl rfl rfl
            replace h := tx_getc (c := 6) (j := 9) (p' := 223) h em20_220 ((congrFun xo_3 128).trans rfl) rfl rfl rfl
            replace h := tx_iload_n (p' := 224) h em20_223 rfl rfl
            replace h := tx_bipush (v := 8) (p' := 226) h em20_224 (by decide +kernel) rfl
            replace h := tx_imul (p' := 227) h em20_226 rfl
            replace h := tx_iload_n (p' := 228) h em20_227 rfl rfl
            replace h := tx_iadd (p' := 229) h em20_228 rfl
            replace h := tx_iload (p' := 231) h em20_229 rfl rfl
            obtain ⟨hb231, h⟩ := tx_iast (len := 56) (p' := 232) h em20_231 rfl rfl
            replace hb231 : 0 ≤ ((vn * (8 : Int32)) + i).toInt ∧ ((vn * (8 : Int32)) + i).toInt < 56 := hb231
            replace h := tx_aload_n (p' := 233) h em20_232 rfl rfl
            replace h := tx_getc (c := 2) (j := 0) (p' := 236) h em20_233 ((congrFun xo_3 12).trans rfl) rfl rfl rfl
            replace h := tx_getc (c := 6) (j := 10) (p' := 239) h em20_236 ((congrFun xo_3 131).trans rfl) rfl rfl rfl
            replace h := tx_iload_n (p' := 240) h em20_239 rfl rfl
            replace h := tx_bipush (v := 8) (p' := 242) h em20_240 (by decide +kernel) rfl
            replace h := tx_imul (p' := 243) h em20_242 rfl
            replace h := tx_iload (p' := 245) h em20_243 rfl rfl
            replace h := tx_iadd (p' := 246) h em20_245 rfl
            replace h := tx_dup2 (p' := 247) h em20_246 rfl
            obtain ⟨hb247, h⟩ := tx_iald (len := 56) (p' := 248) h em20_247 rfl rfl
            replace hb247 : 0 ≤ ((vn * (8 : Int32)) + lv).toInt ∧ ((vn * (8 : Int32)) + lv).toInt < 56 := hb247
            replace h : eT xq_20 _ 248 [some (.inr (.inl (some 12))), some (.inl (μ.1 12 3)), some (.inl vn), some (.inl i), some (.inl lv)] [.inl (ω.1 19 ((vn * (8 : Int32)) + lv).toInt.toNat), .inl ((vn * (8 : Int32)) + lv), .inr (.inl (some 19))] (xpi ω 18 ((vn * (8 : Int32)) + i).toInt.toNat lv) r μ' := h
            replace h := tx_iconst (v := 1) (p' := 249) h em20_248 (by decide +kernel) rfl
            replace h := tx_iadd (p' := 250) h em20_249 rfl
            obtain ⟨hb250, h⟩ := tx_iast (len := 56) (p' := 251) h em20_250 rfl rfl
            replace hb250 : 0 ≤ ((vn * (8 : Int32)) + lv).toInt ∧ ((vn * (8 : Int32)) + lv).toInt < 56 := hb250
            replace h := tx_iinc (v := 1) (p' := 254) h em20_251 (by decide +kernel) rfl rfl
            replace h : eT xq_20 _ 254 [some (.inr (.inl (some 12))), some (.inl (μ.1 12 3)), some (.inl vn), some (.inl (i + 1)), some (.inl lv)] [] (xpi (xpi ω 18 ((vn * (8 : Int32)) + i).toInt.toNat lv) 19 ((vn * (8 : Int32)) + lv).toInt.toNat ((ω.1 19 ((vn * (8 : Int32)) + lv).toInt.toNat) + (1 : Int32))) r μ' := h
            obtain ⟨n2, hn2, h⟩ := tx_gotoS (t := 175) h em20_254 (by decide)
            have hi1 : (i + 1).toInt = i.toInt + 1 := by rw [an_add (by rw [e1i]; omega) (by rw [e1i]; omega), e1i]
            obtain ⟨ω1, v0, v1, v2, v4⟩ := ih n2 hn2 _ _ _ h (gE_i (gE_i hGω (by decide)) (by decide)) (by rw [hi1]; omega) hk2 ho2 ((xpi_ne (fun q => absurd q.1 (by decide))).trans ((xpi_ne (fun q => absurd q.1 (by decide))).trans hw17))
            exact ⟨ω1, v0, fun k j a b => (v1 k j a b).trans ((xpi_ne (fun q => b q.1)).trans (xpi_ne (fun q => a q.1))), v2, v4.trans (by rw [xpi_ne (fun q => absurd q.1 (by decide)), xpi_ne (fun q => absurd q.1 (by decide))])⟩
  replace h := tx_aload_n (p' := 1) h em20_0 rfl rfl
  replace h := tx_getc (c := 2) (j := 0) (p' := 4) h em20_1 ((congrFun xo_3 12).trans rfl) rfl rfl rfl
  replace h := tx_getf (c := 6) (j := 1) (p' := 7) h em20_4 ((congrFun xo_3 112).trans rfl) rfl rfl (by decide) rfl
  replace h := tx_bipush (v := 7) (p' := 9) h em20_7 (by decide +kernel) rfl
  rcases tx_icmp (t := 19) (p' := 12) h em20_9 (by decide) rfl with ⟨c9, h⟩ | ⟨c9, h⟩
  · replace c9 : (μ.1 13 1).toInt < 7 := c9
    replace h := tx_aload_n (p' := 20) h em20_19 rfl rfl
    replace h := tx_getf (c := 2) (j := 3) (p' := 23) h em20_20 ((congrFun xo_3 40).trans rfl) rfl rfl (by decide) rfl
    replace h := tx_istore_n (p' := 24) h em20_23 rfl
    replace h : eT xq_20 _ 24 [some (.inr (.inl (some 12))), some (.inl (μ.1 12 3)), none, none, none] [] μ r μ' := h
    replace h := tx_aload_n (p' := 25) h em20_24 rfl rfl
    replace h := tx_sipush (v := 129) (p' := 28) h em20_25 (by decide +kernel) rfl
    obtain ⟨r28, μ28, hE28, h⟩ := tx_invV (na := 2) (mn := 9) (as := [.inr (.inl (some 12)), .inl (129 : Int32)]) (rest := []) (p' := 31) h em20_28 ((congrFun xo_3 89).trans rfl) xm_9 rfl rfl
    obtain ⟨hg28, ⟨rfl, a28l, a28e, a28x, a284, a285⟩ | ⟨rfl, p28, f28, a28x, a28f, a284, a285⟩⟩ := st_acc (e := e) (k0 := 129) hE28 (by omega) (by omega) hT0 (by decide) (by decide)
    · have hG28 := pE_tr hG0 hg28
      have hT28 := pE_TV hG28 ht
      replace h : eT xq_20 _ 31 [some (.inr (.inl (some 12))), some (.inl (μ.1 12 3)), none, none, none] [.inl (1 : Int32)] μ28 r μ' := h
      rcases tx_if (t := 75) (p' := 34) h em20_31 (by decide) rfl with ⟨c31, h⟩ | ⟨c31, h⟩
      · replace c31 : (1 : Int) = (0 : Int) := c31
        exfalso
        omega
      · replace c31 : ¬ (1 : Int) = (0 : Int) := c31
        replace h := tx_aload_n (p' := 35) h em20_34 rfl rfl
        replace h := tx_iconst (v := 2) (p' := 36) h em20_35 (by decide +kernel) rfl
        obtain ⟨r36, μ36, hE36, h⟩ := tx_invV (na := 2) (mn := 9) (as := [.inr (.inl (some 12)), .inl (2 : Int32)]) (rest := []) (p' := 39) h em20_36 ((congrFun xo_3 89).trans rfl) xm_9 rfl rfl
        obtain ⟨hg36, ⟨rfl, a36l, a36e, a36x, a364, a365⟩ | ⟨rfl, p36, f36, a36x, a36f, a364, a365⟩⟩ := st_acc (e := e) (k0 := 2) hE36 (by omega) (by omega) hT28 (by decide) (by decide)
        · have hG36 := pE_tr hG28 hg36
          have hT36 := pE_TV hG36 ht
          rw [pE_Kf hG28] at a36x
          replace h : eT xq_20 _ 39 [some (.inr (.inl (some 12))), some (.inl (μ.1 12 3)), none, none, none] [.inl (1 : Int32)] μ36 r μ' := h
          rcases tx_if (t := 75) (p' := 42) h em20_39 (by decide) rfl with ⟨c39, h⟩ | ⟨c39, h⟩
          · replace c39 : (1 : Int) = (0 : Int) := c39
            exfalso
            omega
          · replace c39 : ¬ (1 : Int) = (0 : Int) := c39
            replace h := tx_aload_n (p' := 43) h em20_42 rfl rfl
            replace h := tx_iconst (v := 2) (p' := 44) h em20_43 (by decide +kernel) rfl
            obtain ⟨r44, μ44, hE44, h⟩ := tx_invV (na := 2) (mn := 9) (as := [.inr (.inl (some 12)), .inl (2 : Int32)]) (rest := []) (p' := 47) h em20_44 ((congrFun xo_3 89).trans rfl) xm_9 rfl rfl
            obtain ⟨hg44, ⟨rfl, a44l, a44e, a44x, a444, a445⟩ | ⟨rfl, p44, f44, a44x, a44f, a444, a445⟩⟩ := st_acc (e := e) (k0 := 2) hE44 (by omega) (by omega) hT36 (by decide) (by decide)
            · have hG44 := pE_tr hG36 hg44
              have hT44 := pE_TV hG44 ht
              rw [pE_Kf hG36] at a44x
              replace h : eT xq_20 _ 47 [some (.inr (.inl (some 12))), some (.inl (μ.1 12 3)), none, none, none] [.inl (1 : Int32)] μ44 r μ' := h
              rcases tx_if (t := 75) (p' := 50) h em20_47 (by decide) rfl with ⟨c47, h⟩ | ⟨c47, h⟩
              · replace c47 : (1 : Int) = (0 : Int) := c47
                exfalso
                omega
              · replace c47 : ¬ (1 : Int) = (0 : Int) := c47
                replace h := tx_aload_n (p' := 51) h em20_50 rfl rfl
                replace h := tx_iconst (v := 3) (p' := 52) h em20_51 (by decide +kernel) rfl
                obtain ⟨r52, μ52, hE52, h⟩ := tx_invV (na := 2) (mn := 9) (as := [.inr (.inl (some 12)), .inl (3 : Int32)]) (rest := []) (p' := 55) h em20_52 ((congrFun xo_3 89).trans rfl) xm_9 rfl rfl
                obtain ⟨hg52, ⟨rfl, a52l, a52e, a52x, a524, a525⟩ | ⟨rfl, p52, f52, a52x, a52f, a524, a525⟩⟩ := st_acc (e := e) (k0 := 3) hE52 (by omega) (by omega) hT44 (by decide) (by decide)
                · have hG52 := pE_tr hG44 hg52
                  have hT52 := pE_TV hG52 ht
                  rw [pE_Kf hG44] at a52x
                  replace h : eT xq_20 _ 55 [some (.inr (.inl (some 12))), some (.inl (μ.1 12 3)), none, none, none] [.inl (1 : Int32)] μ52 r μ' := h
                  rcases tx_if (t := 75) (p' := 58) h em20_55 (by decide) rfl with ⟨c55, h⟩ | ⟨c55, h⟩
                  · replace c55 : (1 : Int) = (0 : Int) := c55
                    exfalso
                    omega
                  · replace c55 : ¬ (1 : Int) = (0 : Int) := c55
                    replace h := tx_aload_n (p' := 59) h em20_58 rfl rfl
                    replace h := tx_iconst (v := 3) (p' := 60) h em20_59 (by decide +kernel) rfl
                    obtain ⟨r60, μ60, hE60, h⟩ := tx_invV (na := 2) (mn := 9) (as := [.inr (.inl (some 12)), .inl (3 : Int32)]) (rest := []) (p' := 63) h em20_60 ((congrFun xo_3 89).trans rfl) xm_9 rfl rfl
                    obtain ⟨hg60, ⟨rfl, a60l, a60e, a60x, a604, a605⟩ | ⟨rfl, p60, f60, a60x, a60f, a604, a605⟩⟩ := st_acc (e := e) (k0 := 3) hE60 (by omega) (by omega) hT52 (by decide) (by decide)
                    · have hG60 := pE_tr hG52 hg60
                      have hT60 := pE_TV hG60 ht
                      rw [pE_Kf hG52] at a60x
                      replace h : eT xq_20 _ 63 [some (.inr (.inl (some 12))), some (.inl (μ.1 12 3)), none, none, none] [.inl (1 : Int32)] μ60 r μ' := h
                      rcases tx_if (t := 75) (p' := 66) h em20_63 (by decide) rfl with ⟨c63, h⟩ | ⟨c63, h⟩
                      · replace c63 : (1 : Int) = (0 : Int) := c63
                        exfalso
                        omega
                      · replace c63 : ¬ (1 : Int) = (0 : Int) := c63
                        replace h := tx_aload_n (p' := 67) h em20_66 rfl rfl
                        replace h := tx_bipush (v := 59) (p' := 69) h em20_67 (by decide +kernel) rfl
                        obtain ⟨r69, μ69, hE69, h⟩ := tx_invV (na := 2) (mn := 9) (as := [.inr (.inl (some 12)), .inl (59 : Int32)]) (rest := []) (p' := 72) h em20_69 ((congrFun xo_3 89).trans rfl) xm_9 rfl rfl
                        obtain ⟨hg69, ⟨rfl, a69l, a69e, a69x, a694, a695⟩ | ⟨rfl, p69, f69, a69x, a69f, a694, a695⟩⟩ := st_acc (e := e) (k0 := 59) hE69 (by omega) (by omega) hT60 (by decide) (by decide)
                        · have hG69 := pE_tr hG60 hg69
                          have hT69 := pE_TV hG69 ht
                          rw [pE_Kf hG60] at a69x
                          replace h : eT xq_20 _ 72 [some (.inr (.inl (some 12))), some (.inl (μ.1 12 3)), none, none, none] [.inl (1 : Int32)] μ69 r μ' := h
                          rcases tx_if (t := 76) (p' := 75) h em20_72 (by decide) rfl with ⟨c72, h⟩ | ⟨c72, h⟩
                          · replace c72 : ¬ (1 : Int) = (0 : Int) := c72
                            replace h := tx_aload_n (p' := 77) h em20_76 rfl rfl
                            replace h := tx_iload_n (p' := 78) h em20_77 rfl rfl
                            replace h := tx_iconst (v := 1) (p' := 79) h em20_78 (by decide +kernel) rfl
                            replace h := tx_iadd (p' := 80) h em20_79 rfl
                            obtain ⟨r80, μ80, hE80, h⟩ := tx_invV (na := 2) (mn := 15) (as := [.inr (.inl (some 12)), .inl ((μ.1 12 3) + (1 : Int32))]) (rest := []) (p' := 83) h em20_80 ((congrFun xo_3 92).trans rfl) xm_15 rfl rfl
                            obtain ⟨k28, e28⟩ := pAcc_v a28x
                            obtain ⟨k36, e36⟩ := pAcc_v a36x
                            obtain ⟨k44, e44⟩ := pAcc_v a44x
                            obtain ⟨k52, e52⟩ := pAcc_v a52x
                            obtain ⟨k60, e60⟩ := pAcc_v a60x
                            obtain ⟨k69, e69⟩ := pAcc_v a69x
                            have hk1 : cK μ (cA μ + 1) = 2 := by rw [show cA μ + 1 = cA μ28 by omega]; exact k36
                            have hk2 : cK μ (cA μ + 2) = 2 := by rw [show cA μ + 2 = cA μ36 by omega]; exact k44
                            have hk3 : cK μ (cA μ + 3) = 3 := by rw [show cA μ + 3 = cA μ44 by omega]; exact k52
                            have hk4 : cK μ (cA μ + 4) = 3 := by rw [show cA μ + 4 = cA μ52 by omega]; exact k60
                            have n9 : μ69.1 12 9 = μ.1 12 9 := hG69.2.1 9 (by decide) (by decide) (by decide)
                            have n27 : ∀ j, μ69.1 27 j = μ.1 27 j := fun j => hG69.1 27 j (by decide) (by decide) (by decide) (by decide)
                            have hnx := nmI_cg (gE_p hG69) (hG69.2.2.1 0 (by decide)) (hG69.2.2.1 1 (by decide)) n9 n27 hn
                            have eH : cH μ69 = cH μ := by unfold cH; rw [hG69.2.2.1 0 (by decide)]
                            have eU : cU μ69 = cU μ := by unfold cU; rw [hG69.2.2.1 1 (by decide)]
                            obtain ⟨rfl, q1, q2, q3, q4, q5, q6, q7⟩ := name_ok hE80 hT69 (by omega) (by omega) (by rw [pE_Kf hG69, o1]; exact hk1) hnx (by have a2 := hn.1.2; have a1 : cU μ ≤ 6 := (by unfold cU; omega); rw [eH, eU]; omega)
                            have hGn := gE_tr (gE_p hG69) q1
                            replace h : eT xq_20 _ 83 [some (.inr (.inl (some 12))), some (.inl (μ.1 12 3)), none, none, none] [] μ80 r μ' := h
                            replace h := tx_aload_n (p' := 84) h em20_83 rfl rfl
                            replace h := tx_aload_n (p' := 85) h em20_84 rfl rfl
                            replace h := tx_iload_n (p' := 86) h em20_85 rfl rfl
                            replace h := tx_iconst (v := 2) (p' := 87) h em20_86 (by decide +kernel) rfl
                            replace h := tx_iadd (p' := 88) h em20_87 rfl
                            obtain ⟨r88, μ88, hE88, h⟩ := tx_invV (na := 2) (mn := 238) (as := [.inr (.inl (some 12)), .inl ((μ.1 12 3) + (2 : Int32))]) (rest := [.inr (.inl (some 12))]) (p' := 91) h em20_88 ((congrFun xo_3 95).trans rfl) xm_238 rfl rfl
                            rcases ex_areLetters hE88 (gE_TV hGn ht) (by omega) (by omega) (by rw [gE_K hGn, o2]; exact hk2) with ⟨rfl, hl, hm⟩ | ⟨rfl, hl, hm⟩
                            · rw [hm] at h
                              replace h : eT xq_20 _ 91 [some (.inr (.inl (some 12))), some (.inl (μ.1 12 3)), none, none, none] [.inl (1 : Int32), .inr (.inl (some 12))] μ80 r μ' := h
                              rcases tx_if (t := 98) (p' := 94) h em20_91 (by decide) rfl with ⟨c91, h⟩ | ⟨c91, h⟩
                              · replace c91 : ¬ (1 : Int) = (0 : Int) := c91
                                replace h := tx_iconst (v := 0) (p' := 99) h em20_98 (by decide +kernel) rfl
                                replace h := tx_bipush (v := 6) (p' := 101) h em20_99 (by decide +kernel) rfl
                                replace h := tx_iload_n (p' := 102) h em20_101 rfl rfl
                                replace h := tx_iconst (v := 2) (p' := 103) h em20_102 (by decide +kernel) rfl
                                replace h := tx_iadd (p' := 104) h em20_103 rfl
                                obtain ⟨r104, μ104, hE104, h⟩ := tx_invV (na := 4) (mn := 14) (as := [.inr (.inl (some 12)), .inl (0 : Int32), .inl (6 : Int32), .inl ((μ.1 12 3) + (2 : Int32))]) (rest := []) (p' := 107) h em20_104 ((congrFun xo_3 98).trans rfl) xm_14 rfl rfl
                                obtain ⟨rfl, hgl, hwl⟩ := note_ok (b := ¬ cL μ80 ((μ.1 12 3) + 2).toInt) hE104 (by exact ⟨fun q => absurd (by decide) q, fun q => absurd hl q⟩)
                                have hGl := gE_tr hGn (gE_n hgl)
                                replace h : eT xq_20 _ 107 [some (.inr (.inl (some 12))), some (.inl (μ.1 12 3)), none, none, none] [] μ104 r μ' := h
                                replace h := tx_aload_n (p' := 108) h em20_107 rfl rfl
                                replace h := tx_getc (c := 2) (j := 0) (p' := 111) h em20_108 ((congrFun xo_3 12).trans rfl) rfl rfl rfl
                                replace h := tx_getf (c := 6) (j := 1) (p' := 114) h em20_111 ((congrFun xo_3 112).trans rfl) rfl rfl (by decide) rfl
                                replace h := tx_istore_n (p' := 115) h em20_114 rfl
                                replace h : eT xq_20 _ 115 [some (.inr (.inl (some 12))), some (.inl (μ.1 12 3)), some (.inl (μ104.1 13 1)), none, none] [] μ104 r μ' := h
                                replace h := tx_aload_n (p' := 116) h em20_115 rfl rfl
                                replace h := tx_getc (c := 2) (j := 0) (p' := 119) h em20_116 ((congrFun xo_3 12).trans rfl) rfl rfl rfl
                                replace h := tx_getc (c := 6) (j := 6) (p' := 122) h em20_119 ((congrFun xo_3 115).trans rfl) rfl rfl rfl
                                replace h := tx_iload_n (p' := 123) h em20_122 rfl rfl
                                replace h := tx_aload_n (p' := 124) h em20_123 rfl rfl
                                replace h := tx_iload_n (p' := 125) h em20_124 rfl rfl
                                replace h := tx_iconst (v := 3) (p' := 126) h em20_125 (by decide +kernel) rfl
                                replace h := tx_iadd (p' := 127) h em20_126 rfl
                                replace h := tx_iconst (v := 0) (p' := 128) h em20_127 (by decide +kernel) rfl
                                replace h := tx_bipush (v := 99) (p' := 130) h em20_128 (by decide +kernel) rfl
                                obtain ⟨r130, μ130, hE130, h⟩ := tx_invV (na := 4) (mn := 11) (as := [.inr (.inl (some 12)), .inl ((μ.1 12 3) + (3 : Int32)), .inl (0 : Int32), .inl (99 : Int32)]) (rest := [.inl (μ104.1 13 1), .inr (.inl (some 15))]) (p' := 133) h em20_130 ((congrFun xo_3 118).trans rfl) xm_11 rfl rfl
                                obtain ⟨ivi, rfl, hgi, hwi⟩ := int_ok hE130 (gE_TV hGl ht) (by omega) (by omega) (by rw [gE_K hGl, o3]; exact hk3)
                                rw [gE_P hGl, gE_V hGl, o3, dec99 (cV0 ht (by omega) (by omega) hk3)] at hwi
                                have hGi := gE_tr hGl (gE_n hgi)
                                replace h : eT xq_20 _ 133 [some (.inr (.inl (some 12))), some (.inl (μ.1 12 3)), some (.inl (μ104.1 13 1)), none, none] [.inl ivi, .inl (μ104.1 13 1), .inr (.inl (some 15))] μ130 r μ' := h
                                obtain ⟨hb133, h⟩ := tx_iast (len := 7) (p' := 134) h em20_133 rfl rfl
                                replace hb133 : 0 ≤ (μ104.1 13 1).toInt ∧ (μ104.1 13 1).toInt < 7 := hb133
                                replace h := tx_aload_n (p' := 135) h em20_134 rfl rfl
                                replace h := tx_getc (c := 2) (j := 0) (p' := 138) h em20_135 ((congrFun xo_3 12).trans rfl) rfl rfl rfl
                                replace h := tx_getc (c := 6) (j := 7) (p' := 141) h em20_138 ((congrFun xo_3 122).trans rfl) rfl rfl rfl
                                replace h := tx_iload_n (p' := 142) h em20_141 rfl rfl
                                replace h := tx_aload_n (p' := 143) h em20_142 rfl rfl
                                replace h := tx_iload_n (p' := 144) h em20_143 rfl rfl
                                replace h := tx_iconst (v := 4) (p' := 145) h em20_144 (by decide +kernel) rfl
                                replace h := tx_iadd (p' := 146) h em20_145 rfl
                                replace h := tx_iconst (v := 0) (p' := 147) h em20_146 (by decide +kernel) rfl
                                replace h := tx_bipush (v := 99) (p' := 149) h em20_147 (by decide +kernel) rfl
                                obtain ⟨r149, μ149, hE149, h⟩ := tx_invV (na := 4) (mn := 11) (as := [.inr (.inl (some 12)), .inl ((μ.1 12 3) + (4 : Int32)), .inl (0 : Int32), .inl (99 : Int32)]) (rest := [.inl (μ104.1 13 1), .inr (.inl (some 16))]) (p' := 152) h em20_149 ((congrFun xo_3 118).trans rfl) xm_11 rfl rfl
                                obtain ⟨ivj, rfl, hgj, hwj⟩ := int_ok hE149 (gE_TV (gE_i hGi (by decide)) ht) (by omega) (by omega) (by rw [gE_K (gE_i hGi (by decide)), o4]; exact hk4)
                                rw [gE_P (gE_i hGi (by decide)), gE_V (gE_i hGi (by decide)), o4, dec99 (cV0 ht (by omega) (by omega) hk4)] at hwj
                                have hGj := gE_tr (gE_i hGi (by decide)) (gE_n hgj)
                                replace h : eT xq_20 _ 152 [some (.inr (.inl (some 12))), some (.inl (μ.1 12 3)), some (.inl (μ104.1 13 1)), none, none] [.inl ivj, .inl (μ104.1 13 1), .inr (.inl (some 16))] μ149 r μ' := h
                                obtain ⟨hb152, h⟩ := tx_iast (len := 7) (p' := 153) h em20_152 rfl rfl
                                replace hb152 : 0 ≤ (μ104.1 13 1).toInt ∧ (μ104.1 13 1).toInt < 7 := hb152
                                replace h := tx_aload_n (p' := 154) h em20_153 rfl rfl
                                replace h := tx_getc (c := 2) (j := 0) (p' := 157) h em20_154 ((congrFun xo_3 12).trans rfl) rfl rfl rfl
                                replace h := tx_getc (c := 6) (j := 8) (p' := 160) h em20_157 ((congrFun xo_3 125).trans rfl) rfl rfl rfl
                                replace h := tx_iload_n (p' := 161) h em20_160 rfl rfl
                                replace h := tx_aload_n (p' := 162) h em20_161 rfl rfl
                                replace h := tx_getc (c := 2) (j := 1) (p' := 165) h em20_162 ((congrFun xo_3 21).trans rfl) rfl rfl rfl
                                replace h := tx_getc (c := 7) (j := 2) (p' := 168) h em20_165 ((congrFun xo_3 102).trans rfl) rfl rfl rfl
                                replace h := tx_iload_n (p' := 169) h em20_168 rfl rfl
                                replace h := tx_iconst (v := 2) (p' := 170) h em20_169 (by decide +kernel) rfl
                                replace h := tx_iadd (p' := 171) h em20_170 rfl
                                obtain ⟨hb171, h⟩ := tx_iald (len := 401) (p' := 172) h em20_171 rfl rfl
                                replace hb171 : 0 ≤ ((μ.1 12 3) + (2 : Int32)).toInt ∧ ((μ.1 12 3) + (2 : Int32)).toInt < 401 := hb171
                                replace h : eT xq_20 _ 172 [some (.inr (.inl (some 12))), some (.inl (μ.1 12 3)), some (.inl (μ104.1 13 1)), none, none] [.inl (μ149.1 26 ((μ.1 12 3) + (2 : Int32)).toInt.toNat), .inl (μ104.1 13 1), .inr (.inl (some 17))] (xpi μ149 16 (μ104.1 13 1).toInt.toNat ivj) r μ' := h
                                obtain ⟨hb172, h⟩ := tx_iast (len := 7) (p' := 173) h em20_172 rfl rfl
                                replace hb172 : 0 ≤ (μ104.1 13 1).toInt ∧ (μ104.1 13 1).toInt < 7 := hb172
                                replace h := tx_iconst (v := 0) (p' := 174) h em20_173 (by decide +kernel) rfl
                                replace h := tx_istore_n (p' := 175) h em20_174 rfl
                                replace h : eT xq_20 _ 175 [some (.inr (.inl (some 12))), some (.inl (μ.1 12 3)), some (.inl (μ104.1 13 1)), some (.inl (0 : Int32)), none] [] (xpi (xpi μ149 16 (μ104.1 13 1).toInt.toNat ivj) 17 (μ104.1 13 1).toInt.toNat (μ149.1 26 ((μ.1 12 3) + (2 : Int32)).toInt.toNat)) r μ' := h
                                have hGm := gE_i (j := (μ104.1 13 1).toInt.toNat) (v := ((μ149.1 26 ((μ.1 12 3) + (2 : Int32)).toInt.toNat))) (gE_i (j := (μ104.1 13 1).toInt.toNat) (v := ivj) (k := 16) hGj (by decide)) (show 12 ≤ 17 ∧ 17 ≤ 22 by decide)
                                obtain ⟨ω, rfl, w1, w2, hμ⟩ := loop _ _ _ _ h hGm (by decide) hk2 (by omega) (by rw [xpi_at]; exact hGj.1 26 _ (by decide) (by decide))
                                have hgg : gE μ ω := gE_tr hGm ⟨fun k j a _ => w1 k j (by omega) (by omega), w2⟩
                                have r12 : ∀ j, ω.1 12 j = μ149.1 12 j := fun j => (w1 12 j (by decide) (by decide)).trans ((xpi_ne (fun q => absurd q.1 (by decide))).trans (xpi_ne (fun q => absurd q.1 (by decide))))
                                have c12 : ∀ j, j ≠ 6 → j ≠ 7 → ω.1 12 j = μ80.1 12 j := fun j a b => (r12 j).trans ((hgj.2.1 j a b).trans ((xpi_ne (fun q => absurd q.1 (by decide))).trans ((hgi.2.1 j a b).trans (hgl.2.1 j a b))))
                                have c13 : ∀ j, ω.1 13 j = μ80.1 13 j := fun j => (w1 13 j (by decide) (by decide)).trans (((xpi_ne (fun q => absurd q.1 (by decide))).trans (xpi_ne (fun q => absurd q.1 (by decide)))).trans ((hgj.1 13 j (by decide)).trans ((xpi_ne (fun q => absurd q.1 (by decide))).trans ((hgi.1 13 j (by decide)).trans (hgl.1 13 j (by decide))))))
                                have c27 : ∀ j, ω.1 27 j = μ80.1 27 j := fun j => (w1 27 j (by decide) (by decide)).trans (((xpi_ne (fun q => absurd q.1 (by decide))).trans (xpi_ne (fun q => absurd q.1 (by decide)))).trans ((hgj.1 27 j (by decide)).trans ((xpi_ne (fun q => absurd q.1 (by decide))).trans ((hgi.1 27 j (by decide)).trans (hgl.1 27 j (by decide))))))
                                have e13 : ((xpi (xpi μ149 16 (μ104.1 13 1).toInt.toNat ivj) 17 (μ104.1 13 1).toInt.toNat (μ149.1 26 ((μ.1 12 3) + (2 : Int32)).toInt.toNat))).1 13 1 = μ.1 13 1 := ((xpi_ne (fun q => absurd q.1 (by decide))).trans (xpi_ne (fun q => absurd q.1 (by decide)))).trans ((hgj.1 13 1 (by decide)).trans ((xpi_ne (fun q => absurd q.1 (by decide))).trans ((hgi.1 13 1 (by decide)).trans ((hgl.1 13 1 (by decide)).trans ((q3 1).trans (hG69.2.2.1 1 (by decide)))))))
                                have hw0 : cW μ69 = cW μ := by unfold cW; rw [hG69.2.1 6 (by decide) (by decide) (by decide), hG69.2.1 7 (by decide) (by decide) (by decide)]
                                rw [e13] at hμ
                                subst hμ
                                have hnb := hn.2.1
                                have hv : ((μ.1 13 1) + 1).toInt = (μ.1 13 1).toInt + 1 := by unfold cU at hnb; rw [an_add (by rw [e1i]; omega) (by rw [e1i]; omega), e1i]
                                obtain ⟨g1, g2, g3, g4⟩ := name_end (d := 1) hG69 hn o1 q3 q5 q6 q7 hgg (c12 9 (by decide) (by decide)) c13 c27 (Or.inr ⟨rfl, by unfold cU; omega⟩) hv
                                have hca : cA (xpi ω 13 1 ((μ.1 13 1) + 1)) = cA μ69 := by unfold cA; rw [xpi_ne (fun q => absurd q.1 (by decide)), c12 3 (by decide) (by decide), q2 3 (by decide) (by decide) (by decide)]
                                refine ⟨rfl, oT_s (gE_i hgg (by decide)) ((pTell_v hkk (by unfold cU; omega)).trans ((((((pSeq_y a28x).trans (pSeq_y a36x)).trans (pSeq_y a44x)).trans (pSeq_y a52x)).trans (pSeq_y a60x)).trans (a69x))) (by omega) (by omega) hca ?_ ?_ ⟨g1, ?_, ?_, ?_, ?_⟩⟩
                                · rw [xpi_ne (fun q => absurd q.1 (by decide)), c12 4 (by decide) (by decide), q2 4 (by decide) (by decide) (by decide)]
                                  rw [a694, a604, a524, a444, a364, a284]
                                · rw [xpi_ne (fun q => absurd q.1 (by decide)), c12 5 (by decide) (by decide), q2 5 (by decide) (by decide) (by decide)]
                                  rw [a695, a605, a525, a445, a365, a285]
                                · have ew : cW (xpi ω 13 1 ((μ.1 13 1) + 1)) = cW μ149 := by unfold cW; rw [xpi_ne (fun q => absurd q.1 (by decide)), xpi_ne (fun q => absurd q.1 (by decide)), r12 6, r12 7]
                                  have ex : ∀ j v, cW (xpi μ130 15 j v) = cW μ130 := fun _ _ => rfl
                                  have hcm : cm μ69 = cm μ := by unfold cm; rw [gE_M (gE_p hG69)]
                                  rw [ew, hwj, ex, hwi, hwl, q4, hw0, hcm, cN_cg n9 n27, gE_P hGn, gE_P (gE_p hG69), gE_L hGn, bl2_not, o1, o2]
                                  unfold pLater
                                  rw [if_neg (by omega), if_pos hkk]
                                  rfl
                                · rw [g3, if_neg (by decide), if_neg (by omega)]
                                · rw [g4, if_pos rfl, if_pos hkk]
                                · rw [g2, if_pos (Or.inr hkk)]
                              · replace c91 : ¬ ¬ (1 : Int) = (0 : Int) := c91
                                exfalso
                                omega
                            · rw [hm] at h
                              replace h : eT xq_20 _ 91 [some (.inr (.inl (some 12))), some (.inl (μ.1 12 3)), none, none, none] [.inl (0 : Int32), .inr (.inl (some 12))] μ80 r μ' := h
                              rcases tx_if (t := 98) (p' := 94) h em20_91 (by decide) rfl with ⟨c91_1, h⟩ | ⟨c91_1, h⟩
                              · replace c91_1 : ¬ (0 : Int) = (0 : Int) := c91_1
                                exfalso
                                omega
                              · replace c91_1 : ¬ ¬ (0 : Int) = (0 : Int) := c91_1
                                replace h := tx_iconst (v := 1) (p' := 95) h em20_94 (by decide +kernel) rfl
                                replace h := tx_goto (t := 99) h em20_95 (by decide)
                                replace h := tx_bipush (v := 6) (p' := 101) h em20_99 (by decide +kernel) rfl
                                replace h := tx_iload_n (p' := 102) h em20_101 rfl rfl
                                replace h := tx_iconst (v := 2) (p' := 103) h em20_102 (by decide +kernel) rfl
                                replace h := tx_iadd (p' := 104) h em20_103 rfl
                                obtain ⟨r104_1, μ104_1, hE104_1, h⟩ := tx_invV (na := 4) (mn := 14) (as := [.inr (.inl (some 12)), .inl (1 : Int32), .inl (6 : Int32), .inl ((μ.1 12 3) + (2 : Int32))]) (rest := []) (p' := 107) h em20_104 ((congrFun xo_3 98).trans rfl) xm_14 rfl rfl
                                obtain ⟨rfl, hgl, hwl⟩ := note_ok (b := ¬ cL μ80 ((μ.1 12 3) + 2).toInt) hE104_1 (by exact ⟨fun _ => hl, fun _ => by decide⟩)
                                have hGl := gE_tr hGn (gE_n hgl)
                                replace h : eT xq_20 _ 107 [some (.inr (.inl (some 12))), some (.inl (μ.1 12 3)), none, none, none] [] μ104_1 r μ' := h
                                replace h := tx_aload_n (p' := 108) h em20_107 rfl rfl
                                replace h := tx_getc (c := 2) (j := 0) (p' := 111) h em20_108 ((congrFun xo_3 12).trans rfl) rfl rfl rfl
                                replace h := tx_getf (c := 6) (j := 1) (p' := 114) h em20_111 ((congrFun xo_3 112).trans rfl) rfl rfl (by decide) rfl
                                replace h := tx_istore_n (p' := 115) h em20_114 rfl
                                replace h : eT xq_20 _ 115 [some (.inr (.inl (some 12))), some (.inl (μ.1 12 3)), some (.inl (μ104_1.1 13 1)), none, none] [] μ104_1 r μ' := h
                                replace h := tx_aload_n (p' := 116) h em20_115 rfl rfl
                                replace h := tx_getc (c := 2) (j := 0) (p' := 119) h em20_116 ((congrFun xo_3 12).trans rfl) rfl rfl rfl
                                replace h := tx_getc (c := 6) (j := 6) (p' := 122) h em20_119 ((congrFun xo_3 115).trans rfl) rfl rfl rfl
                                replace h := tx_iload_n (p' := 123) h em20_122 rfl rfl
                                replace h := tx_aload_n (p' := 124) h em20_123 rfl rfl
                                replace h := tx_iload_n (p' := 125) h em20_124 rfl rfl
                                replace h := tx_iconst (v := 3) (p' := 126) h em20_125 (by decide +kernel) rfl
                                replace h := tx_iadd (p' := 127) h em20_126 rfl
                                replace h := tx_iconst (v := 0) (p' := 128) h em20_127 (by decide +kernel) rfl
                                replace h := tx_bipush (v := 99) (p' := 130) h em20_128 (by decide +kernel) rfl
                                obtain ⟨r130_1, μ130_1, hE130_1, h⟩ := tx_invV (na := 4) (mn := 11) (as := [.inr (.inl (some 12)), .inl ((μ.1 12 3) + (3 : Int32)), .inl (0 : Int32), .inl (99 : Int32)]) (rest := [.inl (μ104_1.1 13 1), .inr (.inl (some 15))]) (p' := 133) h em20_130 ((congrFun xo_3 118).trans rfl) xm_11 rfl rfl
                                obtain ⟨ivi, rfl, hgi, hwi⟩ := int_ok hE130_1 (gE_TV hGl ht) (by omega) (by omega) (by rw [gE_K hGl, o3]; exact hk3)
                                rw [gE_P hGl, gE_V hGl, o3, dec99 (cV0 ht (by omega) (by omega) hk3)] at hwi
                                have hGi := gE_tr hGl (gE_n hgi)
                                replace h : eT xq_20 _ 133 [some (.inr (.inl (some 12))), some (.inl (μ.1 12 3)), some (.inl (μ104_1.1 13 1)), none, none] [.inl ivi, .inl (μ104_1.1 13 1), .inr (.inl (some 15))] μ130_1 r μ' := h
                                obtain ⟨hb133_1, h⟩ := tx_iast (len := 7) (p' := 134) h em20_133 rfl rfl
                                replace hb133_1 : 0 ≤ (μ104_1.1 13 1).toInt ∧ (μ104_1.1 13 1).toInt < 7 := hb133_1
                                replace h := tx_aload_n (p' := 135) h em20_134 rfl rfl
                                replace h := tx_getc (c := 2) (j := 0) (p' := 138) h em20_135 ((congrFun xo_3 12).trans rfl) rfl rfl rfl
                                replace h := tx_getc (c := 6) (j := 7) (p' := 141) h em20_138 ((congrFun xo_3 122).trans rfl) rfl rfl rfl
                                replace h := tx_iload_n (p' := 142) h em20_141 rfl rfl
                                replace h := tx_aload_n (p' := 143) h em20_142 rfl rfl
                                replace h := tx_iload_n (p' := 144) h em20_143 rfl rfl
                                replace h := tx_iconst (v := 4) (p' := 145) h em20_144 (by decide +kernel) rfl
                                replace h := tx_iadd (p' := 146) h em20_145 rfl
                                replace h := tx_iconst (v := 0) (p' := 147) h em20_146 (by decide +kernel) rfl
                                replace h := tx_bipush (v := 99) (p' := 149) h em20_147 (by decide +kernel) rfl
                                obtain ⟨r149_1, μ149_1, hE149_1, h⟩ := tx_invV (na := 4) (mn := 11) (as := [.inr (.inl (some 12)), .inl ((μ.1 12 3) + (4 : Int32)), .inl (0 : Int32), .inl (99 : Int32)]) (rest := [.inl (μ104_1.1 13 1), .inr (.inl (some 16))]) (p' := 152) h em20_149 ((congrFun xo_3 118).trans rfl) xm_11 rfl rfl
                                obtain ⟨ivj, rfl, hgj, hwj⟩ := int_ok hE149_1 (gE_TV (gE_i hGi (by decide)) ht) (by omega) (by omega) (by rw [gE_K (gE_i hGi (by decide)), o4]; exact hk4)
                                rw [gE_P (gE_i hGi (by decide)), gE_V (gE_i hGi (by decide)), o4, dec99 (cV0 ht (by omega) (by omega) hk4)] at hwj
                                have hGj := gE_tr (gE_i hGi (by decide)) (gE_n hgj)
                                replace h : eT xq_20 _ 152 [some (.inr (.inl (some 12))), some (.inl (μ.1 12 3)), some (.inl (μ104_1.1 13 1)), none, none] [.inl ivj, .inl (μ104_1.1 13 1), .inr (.inl (some 16))] μ149_1 r μ' := h
                                obtain ⟨hb152_1, h⟩ := tx_iast (len := 7) (p' := 153) h em20_152 rfl rfl
                                replace hb152_1 : 0 ≤ (μ104_1.1 13 1).toInt ∧ (μ104_1.1 13 1).toInt < 7 := hb152_1
                                replace h := tx_aload_n (p' := 154) h em20_153 rfl rfl
                                replace h := tx_getc (c := 2) (j := 0) (p' := 157) h em20_154 ((congrFun xo_3 12).trans rfl) rfl rfl rfl
                                replace h := tx_getc (c := 6) (j := 8) (p' := 160) h em20_157 ((congrFun xo_3 125).trans rfl) rfl rfl rfl
                                replace h := tx_iload_n (p' := 161) h em20_160 rfl rfl
                                replace h := tx_aload_n (p' := 162) h em20_161 rfl rfl
                                replace h := tx_getc (c := 2) (j := 1) (p' := 165) h em20_162 ((congrFun xo_3 21).trans rfl) rfl rfl rfl
                                replace h := tx_getc (c := 7) (j := 2) (p' := 168) h em20_165 ((congrFun xo_3 102).trans rfl) rfl rfl rfl
                                replace h := tx_iload_n (p' := 169) h em20_168 rfl rfl
                                replace h := tx_iconst (v := 2) (p' := 170) h em20_169 (by decide +kernel) rfl
                                replace h := tx_iadd (p' := 171) h em20_170 rfl
                                obtain ⟨hb171_1, h⟩ := tx_iald (len := 401) (p' := 172) h em20_171 rfl rfl
                                replace hb171_1 : 0 ≤ ((μ.1 12 3) + (2 : Int32)).toInt ∧ ((μ.1 12 3) + (2 : Int32)).toInt < 401 := hb171_1
                                replace h : eT xq_20 _ 172 [some (.inr (.inl (some 12))), some (.inl (μ.1 12 3)), some (.inl (μ104_1.1 13 1)), none, none] [.inl (μ149_1.1 26 ((μ.1 12 3) + (2 : Int32)).toInt.toNat), .inl (μ104_1.1 13 1), .inr (.inl (some 17))] (xpi μ149_1 16 (μ104_1.1 13 1).toInt.toNat ivj) r μ' := h
                                obtain ⟨hb172_1, h⟩ := tx_iast (len := 7) (p' := 173) h em20_172 rfl rfl
                                replace hb172_1 : 0 ≤ (μ104_1.1 13 1).toInt ∧ (μ104_1.1 13 1).toInt < 7 := hb172_1
                                replace h := tx_iconst (v := 0) (p' := 174) h em20_173 (by decide +kernel) rfl
                                replace h := tx_istore_n (p' := 175) h em20_174 rfl
                                replace h : eT xq_20 _ 175 [some (.inr (.inl (some 12))), some (.inl (μ.1 12 3)), some (.inl (μ104_1.1 13 1)), some (.inl (0 : Int32)), none] [] (xpi (xpi μ149_1 16 (μ104_1.1 13 1).toInt.toNat ivj) 17 (μ104_1.1 13 1).toInt.toNat (μ149_1.1 26 ((μ.1 12 3) + (2 : Int32)).toInt.toNat)) r μ' := h
                                have hGm := gE_i (j := (μ104_1.1 13 1).toInt.toNat) (v := ((μ149_1.1 26 ((μ.1 12 3) + (2 : Int32)).toInt.toNat))) (gE_i (j := (μ104_1.1 13 1).toInt.toNat) (v := ivj) (k := 16) hGj (by decide)) (show 12 ≤ 17 ∧ 17 ≤ 22 by decide)
                                obtain ⟨ω, rfl, w1, w2, hμ⟩ := loop _ _ _ _ h hGm (by decide) hk2 (by omega) (by rw [xpi_at]; exact hGj.1 26 _ (by decide) (by decide))
                                have hgg : gE μ ω := gE_tr hGm ⟨fun k j a _ => w1 k j (by omega) (by omega), w2⟩
                                have r12 : ∀ j, ω.1 12 j = μ149_1.1 12 j := fun j => (w1 12 j (by decide) (by decide)).trans ((xpi_ne (fun q => absurd q.1 (by decide))).trans (xpi_ne (fun q => absurd q.1 (by decide))))
                                have c12 : ∀ j, j ≠ 6 → j ≠ 7 → ω.1 12 j = μ80.1 12 j := fun j a b => (r12 j).trans ((hgj.2.1 j a b).trans ((xpi_ne (fun q => absurd q.1 (by decide))).trans ((hgi.2.1 j a b).trans (hgl.2.1 j a b))))
                                have c13 : ∀ j, ω.1 13 j = μ80.1 13 j := fun j => (w1 13 j (by decide) (by decide)).trans (((xpi_ne (fun q => absurd q.1 (by decide))).trans (xpi_ne (fun q => absurd q.1 (by decide)))).trans ((hgj.1 13 j (by decide)).trans ((xpi_ne (fun q => absurd q.1 (by decide))).trans ((hgi.1 13 j (by decide)).trans (hgl.1 13 j (by decide))))))
                                have c27 : ∀ j, ω.1 27 j = μ80.1 27 j := fun j => (w1 27 j (by decide) (by decide)).trans (((xpi_ne (fun q => absurd q.1 (by decide))).trans (xpi_ne (fun q => absurd q.1 (by decide)))).trans ((hgj.1 27 j (by decide)).trans ((xpi_ne (fun q => absurd q.1 (by decide))).trans ((hgi.1 27 j (by decide)).trans (hgl.1 27 j (by decide))))))
                                have e13 : ((xpi (xpi μ149_1 16 (μ104_1.1 13 1).toInt.toNat ivj) 17 (μ104_1.1 13 1).toInt.toNat (μ149_1.1 26 ((μ.1 12 3) + (2 : Int32)).toInt.toNat))).1 13 1 = μ.1 13 1 := ((xpi_ne (fun q => absurd q.1 (by decide))).trans (xpi_ne (fun q => absurd q.1 (by decide)))).trans ((hgj.1 13 1 (by decide)).trans ((xpi_ne (fun q => absurd q.1 (by decide))).trans ((hgi.1 13 1 (by decide)).trans ((hgl.1 13 1 (by decide)).trans ((q3 1).trans (hG69.2.2.1 1 (by decide)))))))
                                have hw0 : cW μ69 = cW μ := by unfold cW; rw [hG69.2.1 6 (by decide) (by decide) (by decide), hG69.2.1 7 (by decide) (by decide) (by decide)]
                                rw [e13] at hμ
                                subst hμ
                                have hnb := hn.2.1
                                have hv : ((μ.1 13 1) + 1).toInt = (μ.1 13 1).toInt + 1 := by unfold cU at hnb; rw [an_add (by rw [e1i]; omega) (by rw [e1i]; omega), e1i]
                                obtain ⟨g1, g2, g3, g4⟩ := name_end (d := 1) hG69 hn o1 q3 q5 q6 q7 hgg (c12 9 (by decide) (by decide)) c13 c27 (Or.inr ⟨rfl, by unfold cU; omega⟩) hv
                                have hca : cA (xpi ω 13 1 ((μ.1 13 1) + 1)) = cA μ69 := by unfold cA; rw [xpi_ne (fun q => absurd q.1 (by decide)), c12 3 (by decide) (by decide), q2 3 (by decide) (by decide) (by decide)]
                                refine ⟨rfl, oT_s (gE_i hgg (by decide)) ((pTell_v hkk (by unfold cU; omega)).trans ((((((pSeq_y a28x).trans (pSeq_y a36x)).trans (pSeq_y a44x)).trans (pSeq_y a52x)).trans (pSeq_y a60x)).trans (a69x))) (by omega) (by omega) hca ?_ ?_ ⟨g1, ?_, ?_, ?_, ?_⟩⟩
                                · rw [xpi_ne (fun q => absurd q.1 (by decide)), c12 4 (by decide) (by decide), q2 4 (by decide) (by decide) (by decide)]
                                  rw [a694, a604, a524, a444, a364, a284]
                                · rw [xpi_ne (fun q => absurd q.1 (by decide)), c12 5 (by decide) (by decide), q2 5 (by decide) (by decide) (by decide)]
                                  rw [a695, a605, a525, a445, a365, a285]
                                · have ew : cW (xpi ω 13 1 ((μ.1 13 1) + 1)) = cW μ149_1 := by unfold cW; rw [xpi_ne (fun q => absurd q.1 (by decide)), xpi_ne (fun q => absurd q.1 (by decide)), r12 6, r12 7]
                                  have ex : ∀ j v, cW (xpi μ130_1 15 j v) = cW μ130_1 := fun _ _ => rfl
                                  have hcm : cm μ69 = cm μ := by unfold cm; rw [gE_M (gE_p hG69)]
                                  rw [ew, hwj, ex, hwi, hwl, q4, hw0, hcm, cN_cg n9 n27, gE_P hGn, gE_P (gE_p hG69), gE_L hGn, bl2_not, o1, o2]
                                  unfold pLater
                                  rw [if_neg (by omega), if_pos hkk]
                                  rfl
                                · rw [g3, if_neg (by decide), if_neg (by omega)]
                                · rw [g4, if_pos rfl, if_pos hkk]
                                · rw [g2, if_pos (Or.inr hkk)]
                          · replace c72 : ¬ ¬ (1 : Int) = (0 : Int) := c72
                            exfalso
                            omega
                        · have hG69 := pE_tr hG60 hg69
                          have hT69 := pE_TV hG69 ht
                          rw [pE_Kf hG60] at a69x
                          rw [pE_P hG60] at a695
                          replace h : eT xq_20 _ 72 [some (.inr (.inl (some 12))), some (.inl (μ.1 12 3)), none, none, none] [.inl (0 : Int32)] μ69 r μ' := h
                          rcases tx_if (t := 76) (p' := 75) h em20_72 (by decide) rfl with ⟨c72_1, h⟩ | ⟨c72_1, h⟩
                          · replace c72_1 : ¬ (0 : Int) = (0 : Int) := c72_1
                            exfalso
                            omega
                          · replace c72_1 : ¬ ¬ (0 : Int) = (0 : Int) := c72_1
                            obtain ⟨rfl, hμ⟩ := tx_return h em20_75
                            refine ⟨rfl, ?_⟩
                            rw [hμ]
                            exact oT_f (gE_p hG69) ((pTell_v hkk (by unfold cU; omega)).trans ((((((pSeq_y a28x).trans (pSeq_y a36x)).trans (pSeq_y a44x)).trans (pSeq_y a52x)).trans (pSeq_y a60x)).trans (a69x))) a69f a694 a695
                    · have hG60 := pE_tr hG52 hg60
                      have hT60 := pE_TV hG60 ht
                      rw [pE_Kf hG52] at a60x
                      rw [pE_P hG52] at a605
                      replace h : eT xq_20 _ 63 [some (.inr (.inl (some 12))), some (.inl (μ.1 12 3)), none, none, none] [.inl (0 : Int32)] μ60 r μ' := h
                      rcases tx_if (t := 75) (p' := 66) h em20_63 (by decide) rfl with ⟨c63_1, h⟩ | ⟨c63_1, h⟩
                      · replace c63_1 : (0 : Int) = (0 : Int) := c63_1
                        obtain ⟨rfl, hμ⟩ := tx_return h em20_75
                        refine ⟨rfl, ?_⟩
                        rw [hμ]
                        exact oT_f (gE_p hG60) ((pTell_v hkk (by unfold cU; omega)).trans (((((pSeq_y a28x).trans (pSeq_y a36x)).trans (pSeq_y a44x)).trans (pSeq_y a52x)).trans (pSeq_n a60x a60f))) a60f a604 a605
                      · replace c63_1 : ¬ (0 : Int) = (0 : Int) := c63_1
                        exfalso
                        omega
                · have hG52 := pE_tr hG44 hg52
                  have hT52 := pE_TV hG52 ht
                  rw [pE_Kf hG44] at a52x
                  rw [pE_P hG44] at a525
                  replace h : eT xq_20 _ 55 [some (.inr (.inl (some 12))), some (.inl (μ.1 12 3)), none, none, none] [.inl (0 : Int32)] μ52 r μ' := h
                  rcases tx_if (t := 75) (p' := 58) h em20_55 (by decide) rfl with ⟨c55_1, h⟩ | ⟨c55_1, h⟩
                  · replace c55_1 : (0 : Int) = (0 : Int) := c55_1
                    obtain ⟨rfl, hμ⟩ := tx_return h em20_75
                    refine ⟨rfl, ?_⟩
                    rw [hμ]
                    exact oT_f (gE_p hG52) ((pTell_v hkk (by unfold cU; omega)).trans ((((pSeq_y a28x).trans (pSeq_y a36x)).trans (pSeq_y a44x)).trans (pSeq_n a52x a52f))) a52f a524 a525
                  · replace c55_1 : ¬ (0 : Int) = (0 : Int) := c55_1
                    exfalso
                    omega
            · have hG44 := pE_tr hG36 hg44
              have hT44 := pE_TV hG44 ht
              rw [pE_Kf hG36] at a44x
              rw [pE_P hG36] at a445
              replace h : eT xq_20 _ 47 [some (.inr (.inl (some 12))), some (.inl (μ.1 12 3)), none, none, none] [.inl (0 : Int32)] μ44 r μ' := h
              rcases tx_if (t := 75) (p' := 50) h em20_47 (by decide) rfl with ⟨c47_1, h⟩ | ⟨c47_1, h⟩
              · replace c47_1 : (0 : Int) = (0 : Int) := c47_1
                obtain ⟨rfl, hμ⟩ := tx_return h em20_75
                refine ⟨rfl, ?_⟩
                rw [hμ]
                exact oT_f (gE_p hG44) ((pTell_v hkk (by unfold cU; omega)).trans (((pSeq_y a28x).trans (pSeq_y a36x)).trans (pSeq_n a44x a44f))) a44f a444 a445
              · replace c47_1 : ¬ (0 : Int) = (0 : Int) := c47_1
                exfalso
                omega
        · have hG36 := pE_tr hG28 hg36
          have hT36 := pE_TV hG36 ht
          rw [pE_Kf hG28] at a36x
          rw [pE_P hG28] at a365
          replace h : eT xq_20 _ 39 [some (.inr (.inl (some 12))), some (.inl (μ.1 12 3)), none, none, none] [.inl (0 : Int32)] μ36 r μ' := h
          rcases tx_if (t := 75) (p' := 42) h em20_39 (by decide) rfl with ⟨c39_1, h⟩ | ⟨c39_1, h⟩
          · replace c39_1 : (0 : Int) = (0 : Int) := c39_1
            obtain ⟨rfl, hμ⟩ := tx_return h em20_75
            refine ⟨rfl, ?_⟩
            rw [hμ]
            exact oT_f (gE_p hG36) ((pTell_v hkk (by unfold cU; omega)).trans ((pSeq_y a28x).trans (pSeq_n a36x a36f))) a36f a364 a365
          · replace c39_1 : ¬ (0 : Int) = (0 : Int) := c39_1
            exfalso
            omega
    · have hG28 := pE_tr hG0 hg28
      have hT28 := pE_TV hG28 ht
      replace h : eT xq_20 _ 31 [some (.inr (.inl (some 12))), some (.inl (μ.1 12 3)), none, none, none] [.inl (0 : Int32)] μ28 r μ' := h
      rcases tx_if (t := 75) (p' := 34) h em20_31 (by decide) rfl with ⟨c31_1, h⟩ | ⟨c31_1, h⟩
      · replace c31_1 : (0 : Int) = (0 : Int) := c31_1
        obtain ⟨rfl, hμ⟩ := tx_return h em20_75
        refine ⟨rfl, ?_⟩
        rw [hμ]
        exact oT_f (gE_p hG28) ((pTell_v hkk (by unfold cU; omega)).trans (pSeq_n a28x a28f)) a28f a284 a285
      · replace c31_1 : ¬ (0 : Int) = (0 : Int) := c31_1
        exfalso
        omega
  · replace c9 : ¬ (μ.1 13 1).toInt < 7 := c9
    replace h := tx_aload_n (p' := 13) h em20_12 rfl rfl
    replace h := tx_iconst (v := 2) (p' := 14) h em20_13 (by decide +kernel) rfl
    obtain ⟨r14, μ14, hE14, h⟩ := tx_invV (na := 2) (mn := 10) (as := [.inr (.inl (some 12)), .inl (2 : Int32)]) (rest := []) (p' := 17) h em20_14 ((congrFun xo_3 70).trans rfl) xm_10 rfl rfl
    obtain ⟨rfl, hm14⟩ := ex_fail hE14 (by have := ht.1; omega)
    replace h : eT xq_20 _ 17 [some (.inr (.inl (some 12))), none, none, none, none] [.inl (0 : Int32)] μ14 r μ' := h
    replace h := tx_pop (p' := 18) h em20_17 rfl
    obtain ⟨rfl, hμ⟩ := tx_return h em20_18
    rw [hμ, hm14]
    exact ⟨rfl, oT_f (gE_p (pE_F pE_rf)) (pTell_vf hkk (by unfold cU; omega)) (by decide) rfl rfl⟩
