set_option maxRecDepth 10000 in
set_option maxHeartbeats 4000000 in
theorem rk_219 {ω0 μ' : xM} {r : Option zV} : ∀ (n : Nat) (i : Int32) (ω : xM), eT xq_180 n 219 [some (.inr (.inl (some 75))), some (.inl i)] [] ω r μ' → hOK ω → (∀ k j, 84 ≤ k → k ≤ 93 → ω.1 k j = ω0.1 k j) → ω.1 75 2 = ω0.1 75 32 → ∃ x : Int32, r = some (.inl x) ∧ hOK μ' ∧ (∀ k j, 84 ≤ k → k ≤ 93 → μ'.1 k j = ω0.1 k j) ∧ (¬ x.toInt = 0 → μ'.1 75 2 = ω0.1 75 2) ∧ (x.toInt = 0 → μ'.1 75 2 = ω0.1 75 32) := by
  intro n
  induction n using Nat.strongRecOn with
  | ind n ih =>
  intro i ω h hO hF hL
  replace h := tx_iload_n (p' := 220) h em180_219 rfl rfl
  replace h := tx_iconst (v := 3) (p' := 221) h em180_220 (by decide +kernel) rfl
  rcases tx_icmp (t := 237) (p' := 224) h em180_221 (by decide) rfl with ⟨c221, h⟩ | ⟨c221, h⟩
  · replace c221 : 3 ≤ i.toInt := c221
    replace h := tx_iconst (v := 0) (p' := 238) h em180_237 (by decide +kernel) rfl
    obtain ⟨rfl, hμ⟩ := tx_ireturn h em180_238
    rw [hμ]
    exact ⟨_, rfl, hO, hF, fun q => absurd (by decide) q, fun _ => hL⟩
  · replace c221 : ¬ 3 ≤ i.toInt := c221
    replace h := tx_aload_n (p' := 225) h em180_224 rfl rfl
    replace h := tx_getc (c := 12) (j := 68) (p' := 228) h em180_225 ((congrFun xo_12 143).trans rfl) rfl rfl rfl
    replace h := tx_iload_n (p' := 229) h em180_228 rfl rfl
    replace h := tx_iconst (v := 0) (p' := 230) h em180_229 (by decide +kernel) rfl
    obtain ⟨hb230, h⟩ := tx_bast (len := 3) (p' := 231) h em180_230 rfl rfl
    replace hb230 : (0 : Int) ≤ i.toInt ∧ i.toInt < 3 := hb230
    replace h := tx_iinc (v := 1) (p' := 234) h em180_231 (by decide +kernel) rfl rfl
    replace h : eT xq_180 _ 234 [some (.inr (.inl (some 75))), some (.inl (i + 1))] [] (xpi ω 117 i.toInt.toNat ((0 : Int32)).toInt8.toInt32) r μ' := h
    obtain ⟨n2, hn2, h⟩ := tx_gotoS (t := 219) h em180_234 (by decide)
    exact ih n2 hn2 _ _ h hO (fun k j a b => (xpi_ne (fun q => by omega)).trans (hF k j a b)) ((xpi_ne (fun q => absurd q.1 (by decide))).trans hL)
set_option maxRecDepth 10000 in
set_option maxHeartbeats 4000000 in
theorem rk_134 {ω0 μ' : xM} {r : Option zV} (hO : hOK ω0) {n : Nat} {i : Int32} (h : eT xq_180 n 134 [some (.inr (.inl (some 75))), some (.inl i)] [] ω0 r μ') : ∃ x : Int32, r = some (.inl x) ∧ hOK μ' ∧ (∀ k j, 84 ≤ k → k ≤ 93 → μ'.1 k j = ω0.1 k j) ∧ (¬ x.toInt = 0 → μ'.1 75 2 = ω0.1 75 2) ∧ (x.toInt = 0 → μ'.1 75 2 = ω0.1 75 32) := by
  replace h := tx_aload_n (p' := 135) h em180_134 rfl rfl
  replace h := tx_aload_n (p' := 136) h em180_135 rfl rfl
  replace h := tx_getf (c := 12) (j := 27) (p' := 139) h em180_136 ((congrFun xo_12 200).trans rfl) rfl rfl (by decide) rfl
  rcases tx_if (t := 149) (p' := 142) h em180_139 (by decide) rfl with ⟨c139, h⟩ | ⟨c139, h⟩
  · replace c139 : (ω0.1 75 27).toInt ≤ 0 := c139
    replace h := tx_aload_n (p' := 150) h em180_149 rfl rfl
    replace h := tx_getf (c := 12) (j := 29) (p' := 153) h em180_150 ((congrFun xo_12 209).trans rfl) rfl rfl (by decide) rfl
    rcases tx_if (t := 163) (p' := 156) h em180_153 (by decide) rfl with ⟨c153, h⟩ | ⟨c153, h⟩
    · replace c153 : (ω0.1 75 29).toInt ≤ 0 := c153
      replace h := tx_iconst (v := (-1)) (p' := 164) h em180_163 (by decide +kernel) rfl
      replace h := tx_putf (a := 75) (c := 12) (j := 31) (p' := 167) h em180_164 ((congrFun xo_12 37).trans rfl) rfl
      replace h := tx_aload_n (p' := 168) h em180_167 rfl rfl
      replace h := tx_getf (c := 12) (j := 27) (p' := 171) h em180_168 ((congrFun xo_12 200).trans rfl) rfl rfl (by decide) rfl
      replace h : eT xq_180 _ 171 [some (.inr (.inl (some 75))), some (.inl i)] [.inl (ω0.1 75 27)] (xpi ω0 75 31 (-1 : Int32)) r μ' := h
      rcases tx_if (t := 179) (p' := 174) h em180_171 (by decide) rfl with ⟨c171, h⟩ | ⟨c171, h⟩
      · replace c171 : (ω0.1 75 27).toInt ≤ 0 := c171
        replace h := tx_aload_n (p' := 180) h em180_179 rfl rfl
        replace h := tx_getf (c := 12) (j := 29) (p' := 183) h em180_180 ((congrFun xo_12 209).trans rfl) rfl rfl (by decide) rfl
        replace h : eT xq_180 _ 183 [some (.inr (.inl (some 75))), some (.inl i)] [.inl (ω0.1 75 29)] (xpi ω0 75 31 (-1 : Int32)) r μ' := h
        rcases tx_if (t := 191) (p' := 186) h em180_183 (by decide) rfl with ⟨c183, h⟩ | ⟨c183, h⟩
        · replace c183 : (ω0.1 75 29).toInt ≤ 0 := c183
          replace h := tx_aload_n (p' := 192) h em180_191 rfl rfl
          replace h := tx_aload_n (p' := 193) h em180_192 rfl rfl
          replace h := tx_getf (c := 12) (j := 32) (p' := 196) h em180_193 ((congrFun xo_12 233).trans rfl) rfl rfl (by decide) rfl
          replace h : eT xq_180 _ 196 [some (.inr (.inl (some 75))), some (.inl i)] [.inl (ω0.1 75 32), .inr (.inl (some 75))] (xpi ω0 75 31 (-1 : Int32)) r μ' := h
          replace h := tx_putf (a := 75) (c := 12) (j := 2) (p' := 199) h em180_196 ((congrFun xo_12 230).trans rfl) rfl
          replace h := tx_aload_n (p' := 200) h em180_199 rfl rfl
          obtain ⟨r200, μ200, hE200, h⟩ := tx_invV (na := 1) (mn := 121) (as := [.inr (.inl (some 75))]) (rest := []) (p' := 203) h em180_200 ((congrFun xo_12 157).trans rfl) xm_121 rfl rfl
          have hm200 := mE_w (μ := (xpi (xpi ω0 75 31 (-1 : Int32)) 75 2 (ω0.1 75 32))) (by decide +kernel) (hf_121_0 hE200 (hEn0 (by decide)) hO).2 hO
          have hl200 : μ200.1 75 2 = ((xpi (xpi ω0 75 31 (-1 : Int32)) 75 2 (ω0.1 75 32))).1 75 2 := hSt (hf_121_0 hE200 (hEn0 (by decide)) hO).2 hO (by decide) (by decide +kernel)
          have er200 := ex_void [0, 1, 2, 3, 6, 9, 10, 13, 14, 15, 16, 19, 22, 23, 24, 25, 27, 28, 31, 32, 35, 36, 37, 40, 41, 44, 45, 46, 49, 51, 52, 55, 56, 57, 58, 59, 60, 63, 66, 67, 68, 71, 72, 75, 76, 79, 80, 81, 84, 85, 86, 89, 90] (by decide +kernel) hE200
          subst er200
          replace h : eT xq_180 _ 203 [some (.inr (.inl (some 75))), some (.inl i)] [] μ200 r μ' := h
          replace h := tx_aload_n (p' := 204) h em180_203 rfl rfl
          obtain ⟨r204, μ204, hE204, h⟩ := tx_invV (na := 1) (mn := 157) (as := [.inr (.inl (some 75))]) (rest := []) (p' := 207) h em180_204 ((congrFun xo_12 160).trans rfl) xm_157 rfl rfl
          have hm204 := mE_w (μ := μ200) (by decide +kernel) (hf_157_0 hE204 (hEn0 (by decide)) hm200.1).2 hm200.1
          have hl204 : μ204.1 75 2 = (μ200).1 75 2 := hSt (hf_157_0 hE204 (hEn0 (by decide)) hm200.1).2 hm200.1 (by decide) (by decide +kernel)
          have er204 := ex_void [0, 1, 2, 3, 6, 9, 10, 13, 14, 15, 18, 19, 20, 21, 24, 27, 28] (by decide +kernel) hE204
          subst er204
          replace h : eT xq_180 _ 207 [some (.inr (.inl (some 75))), some (.inl i)] [] μ204 r μ' := h
          replace h := tx_aload_n (p' := 208) h em180_207 rfl rfl
          replace h := tx_iconst (v := 0) (p' := 209) h em180_208 (by decide +kernel) rfl
          replace h := tx_putf (a := 75) (c := 12) (j := 10) (p' := 212) h em180_209 ((congrFun xo_12 248).trans rfl) rfl
          replace h := tx_aload_n (p' := 213) h em180_212 rfl rfl
          replace h := tx_iconst (v := 0) (p' := 214) h em180_213 (by decide +kernel) rfl
          replace h := tx_putf (a := 75) (c := 12) (j := 64) (p' := 217) h em180_214 ((congrFun xo_12 251).trans rfl) rfl
          replace h := tx_iconst (v := 0) (p' := 218) h em180_217 (by decide +kernel) rfl
          replace h := tx_istore_n (p' := 219) h em180_218 rfl
          replace h : eT xq_180 _ 219 [some (.inr (.inl (some 75))), some (.inl (0 : Int32))] [] (xpi (xpi μ204 75 10 (0 : Int32)) 75 64 (0 : Int32)) r μ' := h
          refine rk_219 _ _ _ h hm204.1 (fun k j c d => ?_) ?_
          · rw [xpi_ne (fun q => by omega), xpi_ne (fun q => by omega), hm204.2 k j c d, hm200.2 k j c d, xpi_ne (fun q => by omega), xpi_ne (fun q => by omega)]
          · rw [xpi_ne (fun q => absurd q.2 (by decide)), xpi_ne (fun q => absurd q.2 (by decide)), hl204, hl200, xpi_at]
            try exact xpi_ne (fun q => absurd q.2 (by decide))
        · replace c183 : ¬ (ω0.1 75 29).toInt ≤ 0 := c183
          replace h := tx_aload_n (p' := 187) h em180_186 rfl rfl
          replace h := tx_getf (c := 12) (j := 29) (p' := 190) h em180_187 ((congrFun xo_12 209).trans rfl) rfl rfl (by decide) rfl
          replace h : eT xq_180 _ 190 [some (.inr (.inl (some 75))), some (.inl i)] [.inl (ω0.1 75 29)] (xpi ω0 75 31 (-1 : Int32)) r μ' := h
          obtain ⟨rfl, hμ⟩ := tx_ireturn h em180_190
          rw [hμ]
          refine ⟨_, rfl, hO, fun k j a b => xpi_ne (fun q => by omega), fun _ => xpi_ne (fun q => absurd q.2 (by decide)), fun q => absurd q (by omega)⟩
      · replace c171 : ¬ (ω0.1 75 27).toInt ≤ 0 := c171
        replace h := tx_aload_n (p' := 175) h em180_174 rfl rfl
        replace h := tx_getf (c := 12) (j := 27) (p' := 178) h em180_175 ((congrFun xo_12 200).trans rfl) rfl rfl (by decide) rfl
        replace h : eT xq_180 _ 178 [some (.inr (.inl (some 75))), some (.inl i)] [.inl (ω0.1 75 27)] (xpi ω0 75 31 (-1 : Int32)) r μ' := h
        obtain ⟨rfl, hμ⟩ := tx_ireturn h em180_178
        rw [hμ]
        refine ⟨_, rfl, hO, fun k j a b => xpi_ne (fun q => by omega), fun _ => xpi_ne (fun q => absurd q.2 (by decide)), fun q => absurd q (by omega)⟩
    · replace c153 : ¬ (ω0.1 75 29).toInt ≤ 0 := c153
      replace h := tx_aload_n (p' := 157) h em180_156 rfl rfl
      replace h := tx_getf (c := 12) (j := 30) (p' := 160) h em180_157 ((congrFun xo_12 212).trans rfl) rfl rfl (by decide) rfl
      replace h := tx_goto (t := 164) h em180_160 (by decide)
      replace h := tx_putf (a := 75) (c := 12) (j := 31) (p' := 167) h em180_164 ((congrFun xo_12 37).trans rfl) rfl
      replace h := tx_aload_n (p' := 168) h em180_167 rfl rfl
      replace h := tx_getf (c := 12) (j := 27) (p' := 171) h em180_168 ((congrFun xo_12 200).trans rfl) rfl rfl (by decide) rfl
      replace h : eT xq_180 _ 171 [some (.inr (.inl (some 75))), some (.inl i)] [.inl (ω0.1 75 27)] (xpi ω0 75 31 (ω0.1 75 30)) r μ' := h
      rcases tx_if (t := 179) (p' := 174) h em180_171 (by decide) rfl with ⟨c171_1, h⟩ | ⟨c171_1, h⟩
      · replace c171_1 : (ω0.1 75 27).toInt ≤ 0 := c171_1
        replace h := tx_aload_n (p' := 180) h em180_179 rfl rfl
        replace h := tx_getf (c := 12) (j := 29) (p' := 183) h em180_180 ((congrFun xo_12 209).trans rfl) rfl rfl (by decide) rfl
        replace h : eT xq_180 _ 183 [some (.inr (.inl (some 75))), some (.inl i)] [.inl (ω0.1 75 29)] (xpi ω0 75 31 (ω0.1 75 30)) r μ' := h
        rcases tx_if (t := 191) (p' := 186) h em180_183 (by decide) rfl with ⟨c183_1, h⟩ | ⟨c183_1, h⟩
        · replace c183_1 : (ω0.1 75 29).toInt ≤ 0 := c183_1
          replace h := tx_aload_n (p' := 192) h em180_191 rfl rfl
          replace h := tx_aload_n (p' := 193) h em180_192 rfl rfl
          replace h := tx_getf (c := 12) (j := 32) (p' := 196) h em180_193 ((congrFun xo_12 233).trans rfl) rfl rfl (by decide) rfl
          replace h : eT xq_180 _ 196 [some (.inr (.inl (some 75))), some (.inl i)] [.inl (ω0.1 75 32), .inr (.inl (some 75))] (xpi ω0 75 31 (ω0.1 75 30)) r μ' := h
          replace h := tx_putf (a := 75) (c := 12) (j := 2) (p' := 199) h em180_196 ((congrFun xo_12 230).trans rfl) rfl
          replace h := tx_aload_n (p' := 200) h em180_199 rfl rfl
          obtain ⟨r200_1, μ200_1, hE200_1, h⟩ := tx_invV (na := 1) (mn := 121) (as := [.inr (.inl (some 75))]) (rest := []) (p' := 203) h em180_200 ((congrFun xo_12 157).trans rfl) xm_121 rfl rfl
          have hm200_1 := mE_w (μ := (xpi (xpi ω0 75 31 (ω0.1 75 30)) 75 2 (ω0.1 75 32))) (by decide +kernel) (hf_121_0 hE200_1 (hEn0 (by decide)) hO).2 hO
          have hl200_1 : μ200_1.1 75 2 = ((xpi (xpi ω0 75 31 (ω0.1 75 30)) 75 2 (ω0.1 75 32))).1 75 2 := hSt (hf_121_0 hE200_1 (hEn0 (by decide)) hO).2 hO (by decide) (by decide +kernel)
          have er200_1 := ex_void [0, 1, 2, 3, 6, 9, 10, 13, 14, 15, 16, 19, 22, 23, 24, 25, 27, 28, 31, 32, 35, 36, 37, 40, 41, 44, 45, 46, 49, 51, 52, 55, 56, 57, 58, 59, 60, 63, 66, 67, 68, 71, 72, 75, 76, 79, 80, 81, 84, 85, 86, 89, 90] (by decide +kernel) hE200_1
          subst er200_1
          replace h : eT xq_180 _ 203 [some (.inr (.inl (some 75))), some (.inl i)] [] μ200_1 r μ' := h
          replace h := tx_aload_n (p' := 204) h em180_203 rfl rfl
          obtain ⟨r204_1, μ204_1, hE204_1, h⟩ := tx_invV (na := 1) (mn := 157) (as := [.inr (.inl (some 75))]) (rest := []) (p' := 207) h em180_204 ((congrFun xo_12 160).trans rfl) xm_157 rfl rfl
          have hm204_1 := mE_w (μ := μ200_1) (by decide +kernel) (hf_157_0 hE204_1 (hEn0 (by decide)) hm200_1.1).2 hm200_1.1
          have hl204_1 : μ204_1.1 75 2 = (μ200_1).1 75 2 := hSt (hf_157_0 hE204_1 (hEn0 (by decide)) hm200_1.1).2 hm200_1.1 (by decide) (by decide +kernel)
          have er204_1 := ex_void [0, 1, 2, 3, 6, 9, 10, 13, 14, 15, 18, 19, 20, 21, 24, 27, 28] (by decide +kernel) hE204_1
          subst er204_1
          replace h : eT xq_180 _ 207 [some (.inr (.inl (some 75))), some (.inl i)] [] μ204_1 r μ' := h
          replace h := tx_aload_n (p' := 208) h em180_207 rfl rfl
          replace h := tx_iconst (v := 0) (p' := 209) h em180_208 (by decide +kernel) rfl
          replace h := tx_putf (a := 75) (c := 12) (j := 10) (p' := 212) h em180_209 ((congrFun xo_12 248).trans rfl) rfl
          replace h := tx_aload_n (p' := 213) h em180_212 rfl rfl
          replace h := tx_iconst (v := 0) (p' := 214) h em180_213 (by decide +kernel) rfl
          replace h := tx_putf (a := 75) (c := 12) (j := 64) (p' := 217) h em180_214 ((congrFun xo_12 251).trans rfl) rfl
          replace h := tx_iconst (v := 0) (p' := 218) h em180_217 (by decide +kernel) rfl
          replace h := tx_istore_n (p' := 219) h em180_218 rfl
          replace h : eT xq_180 _ 219 [some (.inr (.inl (some 75))), some (.inl (0 : Int32))] [] (xpi (xpi μ204_1 75 10 (0 : Int32)) 75 64 (0 : Int32)) r μ' := h
          refine rk_219 _ _ _ h hm204_1.1 (fun k j c d => ?_) ?_
          · rw [xpi_ne (fun q => by omega), xpi_ne (fun q => by omega), hm204_1.2 k j c d, hm200_1.2 k j c d, xpi_ne (fun q => by omega), xpi_ne (fun q => by omega)]
          · rw [xpi_ne (fun q => absurd q.2 (by decide)), xpi_ne (fun q => absurd q.2 (by decide)), hl204_1, hl200_1, xpi_at]
            try exact xpi_ne (fun q => absurd q.2 (by decide))
        · replace c183_1 : ¬ (ω0.1 75 29).toInt ≤ 0 := c183_1
          replace h := tx_aload_n (p' := 187) h em180_186 rfl rfl
          replace h := tx_getf (c := 12) (j := 29) (p' := 190) h em180_187 ((congrFun xo_12 209).trans rfl) rfl rfl (by decide) rfl
          replace h : eT xq_180 _ 190 [some (.inr (.inl (some 75))), some (.inl i)] [.inl (ω0.1 75 29)] (xpi ω0 75 31 (ω0.1 75 30)) r μ' := h
          obtain ⟨rfl, hμ⟩ := tx_ireturn h em180_190
          rw [hμ]
          refine ⟨_, rfl, hO, fun k j a b => xpi_ne (fun q => by omega), fun _ => xpi_ne (fun q => absurd q.2 (by decide)), fun q => absurd q (by omega)⟩
      · replace c171_1 : ¬ (ω0.1 75 27).toInt ≤ 0 := c171_1
        replace h := tx_aload_n (p' := 175) h em180_174 rfl rfl
        replace h := tx_getf (c := 12) (j := 27) (p' := 178) h em180_175 ((congrFun xo_12 200).trans rfl) rfl rfl (by decide) rfl
        replace h : eT xq_180 _ 178 [some (.inr (.inl (some 75))), some (.inl i)] [.inl (ω0.1 75 27)] (xpi ω0 75 31 (ω0.1 75 30)) r μ' := h
        obtain ⟨rfl, hμ⟩ := tx_ireturn h em180_178
        rw [hμ]
        refine ⟨_, rfl, hO, fun k j a b => xpi_ne (fun q => by omega), fun _ => xpi_ne (fun q => absurd q.2 (by decide)), fun q => absurd q (by omega)⟩
  · replace c139 : ¬ (ω0.1 75 27).toInt ≤ 0 := c139
    replace h := tx_aload_n (p' := 143) h em180_142 rfl rfl
    replace h := tx_getf (c := 12) (j := 28) (p' := 146) h em180_143 ((congrFun xo_12 206).trans rfl) rfl rfl (by decide) rfl
    replace h := tx_goto (t := 164) h em180_146 (by decide)
    replace h := tx_putf (a := 75) (c := 12) (j := 31) (p' := 167) h em180_164 ((congrFun xo_12 37).trans rfl) rfl
    replace h := tx_aload_n (p' := 168) h em180_167 rfl rfl
    replace h := tx_getf (c := 12) (j := 27) (p' := 171) h em180_168 ((congrFun xo_12 200).trans rfl) rfl rfl (by decide) rfl
    replace h : eT xq_180 _ 171 [some (.inr (.inl (some 75))), some (.inl i)] [.inl (ω0.1 75 27)] (xpi ω0 75 31 (ω0.1 75 28)) r μ' := h
    rcases tx_if (t := 179) (p' := 174) h em180_171 (by decide) rfl with ⟨c171_2, h⟩ | ⟨c171_2, h⟩
    · replace c171_2 : (ω0.1 75 27).toInt ≤ 0 := c171_2
      replace h := tx_aload_n (p' := 180) h em180_179 rfl rfl
      replace h := tx_getf (c := 12) (j := 29) (p' := 183) h em180_180 ((congrFun xo_12 209).trans rfl) rfl rfl (by decide) rfl
      replace h : eT xq_180 _ 183 [some (.inr (.inl (some 75))), some (.inl i)] [.inl (ω0.1 75 29)] (xpi ω0 75 31 (ω0.1 75 28)) r μ' := h
      rcases tx_if (t := 191) (p' := 186) h em180_183 (by decide) rfl with ⟨c183_2, h⟩ | ⟨c183_2, h⟩
      · replace c183_2 : (ω0.1 75 29).toInt ≤ 0 := c183_2
        replace h := tx_aload_n (p' := 192) h em180_191 rfl rfl
        replace h := tx_aload_n (p' := 193) h em180_192 rfl rfl
        replace h := tx_getf (c := 12) (j := 32) (p' := 196) h em180_193 ((congrFun xo_12 233).trans rfl) rfl rfl (by decide) rfl
        replace h : eT xq_180 _ 196 [some (.inr (.inl (some 75))), some (.inl i)] [.inl (ω0.1 75 32), .inr (.inl (some 75))] (xpi ω0 75 31 (ω0.1 75 28)) r μ' := h
        replace h := tx_putf (a := 75) (c := 12) (j := 2) (p' := 199) h em180_196 ((congrFun xo_12 230).trans rfl) rfl
        replace h := tx_aload_n (p' := 200) h em180_199 rfl rfl
        obtain ⟨r200_2, μ200_2, hE200_2, h⟩ := tx_invV (na := 1) (mn := 121) (as := [.inr (.inl (some 75))]) (rest := []) (p' := 203) h em180_200 ((congrFun xo_12 157).trans rfl) xm_121 rfl rfl
        have hm200_2 := mE_w (μ := (xpi (xpi ω0 75 31 (ω0.1 75 28)) 75 2 (ω0.1 75 32))) (by decide +kernel) (hf_121_0 hE200_2 (hEn0 (by decide)) hO).2 hO
        have hl200_2 : μ200_2.1 75 2 = ((xpi (xpi ω0 75 31 (ω0.1 75 28)) 75 2 (ω0.1 75 32))).1 75 2 := hSt (hf_121_0 hE200_2 (hEn0 (by decide)) hO).2 hO (by decide) (by decide +kernel)
        have er200_2 := ex_void [0, 1, 2, 3, 6, 9, 10, 13, 14, 15, 16, 19, 22, 23, 24, 25, 27, 28, 31, 32, 35, 36, 37, 40, 41, 44, 45, 46, 49, 51, 52, 55, 56, 57, 58, 59, 60, 63, 66, 67, 68, 71, 72, 75, 76, 79, 80, 81, 84, 85, 86, 89, 90] (by decide +kernel) hE200_2
        subst er200_2
        replace h : eT xq_180 _ 203 [some (.inr (.inl (some 75))), some (.inl i)] [] μ200_2 r μ' := h
        replace h := tx_aload_n (p' := 204) h em180_203 rfl rfl
        obtain ⟨r204_2, μ204_2, hE204_2, h⟩ := tx_invV (na := 1) (mn := 157) (as := [.inr (.inl (some 75))]) (rest := []) (p' := 207) h em180_204 ((congrFun xo_12 160).trans rfl) xm_157 rfl rfl
        have hm204_2 := mE_w (μ := μ200_2) (by decide +kernel) (hf_157_0 hE204_2 (hEn0 (by decide)) hm200_2.1).2 hm200_2.1
        have hl204_2 : μ204_2.1 75 2 = (μ200_2).1 75 2 := hSt (hf_157_0 hE204_2 (hEn0 (by decide)) hm200_2.1).2 hm200_2.1 (by decide) (by decide +kernel)
        have er204_2 := ex_void [0, 1, 2, 3, 6, 9, 10, 13, 14, 15, 18, 19, 20, 21, 24, 27, 28] (by decide +kernel) hE204_2
        subst er204_2
        replace h : eT xq_180 _ 207 [some (.inr (.inl (some 75))), some (.inl i)] [] μ204_2 r μ' := h
        replace h := tx_aload_n (p' := 208) h em180_207 rfl rfl
        replace h := tx_iconst (v := 0) (p' := 209) h em180_208 (by decide +kernel) rfl
        replace h := tx_putf (a := 75) (c := 12) (j := 10) (p' := 212) h em180_209 ((congrFun xo_12 248).trans rfl) rfl
        replace h := tx_aload_n (p' := 213) h em180_212 rfl rfl
        replace h := tx_iconst (v := 0) (p' := 214) h em180_213 (by decide +kernel) rfl
        replace h := tx_putf (a := 75) (c := 12) (j := 64) (p' := 217) h em180_214 ((congrFun xo_12 251).trans rfl) rfl
        replace h := tx_iconst (v := 0) (p' := 218) h em180_217 (by decide +kernel) rfl
        replace h := tx_istore_n (p' := 219) h em180_218 rfl
        replace h : eT xq_180 _ 219 [some (.inr (.inl (some 75))), some (.inl (0 : Int32))] [] (xpi (xpi μ204_2 75 10 (0 : Int32)) 75 64 (0 : Int32)) r μ' := h
        refine rk_219 _ _ _ h hm204_2.1 (fun k j c d => ?_) ?_
        · rw [xpi_ne (fun q => by omega), xpi_ne (fun q => by omega), hm204_2.2 k j c d, hm200_2.2 k j c d, xpi_ne (fun q => by omega), xpi_ne (fun q => by omega)]
        · rw [xpi_ne (fun q => absurd q.2 (by decide)), xpi_ne (fun q => absurd q.2 (by decide)), hl204_2, hl200_2, xpi_at]
          try exact xpi_ne (fun q => absurd q.2 (by decide))
      · replace c183_2 : ¬ (ω0.1 75 29).toInt ≤ 0 := c183_2
        replace h := tx_aload_n (p' := 187) h em180_186 rfl rfl
        replace h := tx_getf (c := 12) (j := 29) (p' := 190) h em180_187 ((congrFun xo_12 209).trans rfl) rfl rfl (by decide) rfl
        replace h : eT xq_180 _ 190 [some (.inr (.inl (some 75))), some (.inl i)] [.inl (ω0.1 75 29)] (xpi ω0 75 31 (ω0.1 75 28)) r μ' := h
        obtain ⟨rfl, hμ⟩ := tx_ireturn h em180_190
        rw [hμ]
        refine ⟨_, rfl, hO, fun k j a b => xpi_ne (fun q => by omega), fun _ => xpi_ne (fun q => absurd q.2 (by decide)), fun q => absurd q (by omega)⟩
    · replace c171_2 : ¬ (ω0.1 75 27).toInt ≤ 0 := c171_2
      replace h := tx_aload_n (p' := 175) h em180_174 rfl rfl
      replace h := tx_getf (c := 12) (j := 27) (p' := 178) h em180_175 ((congrFun xo_12 200).trans rfl) rfl rfl (by decide) rfl
      replace h : eT xq_180 _ 178 [some (.inr (.inl (some 75))), some (.inl i)] [.inl (ω0.1 75 27)] (xpi ω0 75 31 (ω0.1 75 28)) r μ' := h
      obtain ⟨rfl, hμ⟩ := tx_ireturn h em180_178
      rw [hμ]
      refine ⟨_, rfl, hO, fun k j a b => xpi_ne (fun q => by omega), fun _ => xpi_ne (fun q => absurd q.2 (by decide)), fun q => absurd q (by omega)⟩
/-- what the reference's read leaves of what is told: s: the side that is read, ν: its tokens -/
def rkR (lw : Int → kLw) (s : Int32) (μ μ' : xM) (x : Int32) (ν : xM) : Prop := hOK μ' ∧ (0 ≤ s.toInt ∧ s.toInt < 2) ∧ oE s.toInt.toNat μ μ' ∧ (¬ x.toInt = 0 → μ'.1 75 2 = μ.1 75 2) ∧ (x.toInt = 0 → μ'.1 75 2 = s ∧ sM s.toInt.toNat (kText (rK ν) (rLt ν) (rVl ν) lw 401 0 0 0 kS0) μ' ∧ kWf (kText (rK ν) (rLt ν) (rVl ν) lw 401 0 0 0 kS0))
theorem rkR_l {lw : Int → kLw} {s : Int32} {μ0 μ μ' : xM} {x : Int32} {ν : xM} (h : ∀ k j, 84 ≤ k → k ≤ 93 → μ.1 k j = μ0.1 k j) (h2 : μ.1 75 2 = μ0.1 75 2) (hr : rkR lw s μ μ' x ν) : rkR lw s μ0 μ' x ν := by
  obtain ⟨a1, a2, a3, a4, a5⟩ := hr
  obtain ⟨b1, b2, b3, b4⟩ := a3
  exact ⟨a1, a2, ⟨fun k j c d => (b1 k j c d).trans (h k j (by omega) (by omega)), fun j c => (b2 j c).trans (h 85 j (by decide) (by decide)), fun k j c d => (b3 k j c d).trans (h k j (by omega) (by omega)), fun j c => (b4 j c).trans (h 88 j (by decide) (by decide))⟩, fun q => (a4 q).trans h2, a5⟩
set_option maxRecDepth 10000 in
set_option maxHeartbeats 4000000 in
theorem rk_36 {lw : Int → kLw} {μ0 μ μ' : xM} {r : Option zV} (hO : hOK μ) (hn : 0 ≤ rN μ ∧ rN μ ≤ 2000) (hbB : ∀ i, 0 ≤ i → i < rN μ → kB μ 77 i = kB μ0 76 i) (hr : ∀ i, 0 ≤ i → i < rN μ → -128 ≤ kB μ0 76 i ∧ kB μ0 76 i ≤ 127) (hkey : ∀ j : Nat, j < 21 → (μ.2.1 82 j).toInt = wKey j) {n : Nat} {i : Int32} (h : eT xq_180 n 36 [some (.inr (.inl (some 75))), some (.inl i)] [] μ r μ') : ∃ (x : Int32) (ν : xM) (m : Int) (S : Int → Int) (w : Int × Int), r = some (.inl x) ∧ rkR lw ((1 : Int32) - (μ.1 75 2)) μ μ' x ν ∧ tkC (kB μ 77) (rN μ) (rP ν) S (rK ν) m ∧ (m < 400 → rK ν m = 0) ∧ rkV (kB μ 77) S ν (m + 1) ∧ w.1 = 0 ∧ x.toInt = (rTx ν 401 0 0 0 [] w).1 ∧ (¬ (rTx ν 401 0 0 0 [] w).1 = 0 → (μ'.1 75 31).toInt = (rTx ν 401 0 0 0 [] w).2) ∧ reF μ μ' := by
  replace h := tx_aload_n (p' := 37) h em180_36 rfl rfl
  replace h := tx_iconst (v := 0) (p' := 38) h em180_37 (by decide +kernel) rfl
  replace h := tx_putf (a := 75) (c := 12) (j := 12) (p' := 41) h em180_38 ((congrFun xo_12 163).trans rfl) rfl
  replace h := tx_aload_n (p' := 42) h em180_41 rfl rfl
  obtain ⟨r42, μ42, hE42, h⟩ := tx_invV (na := 1) (mn := 214) (as := [.inr (.inl (some 75))]) (rest := []) (p' := 45) h em180_42 ((congrFun xo_12 224).trans rfl) xm_214 rfl rfl
  have hmc := mE_w (μ := (xpi μ 75 12 (0 : Int32))) (by decide +kernel) (hf_214_0 hE42 (hEn0 (by decide)) hO).2 hO
  have hlc : μ42.1 75 2 = μ.1 75 2 := hSt (hf_214_0 hE42 (hEn0 (by decide)) hO).2 hO (by decide) (by decide +kernel)
  have eB9 : ∀ i, 0 ≤ i → i < rN μ → kB (xpi μ 75 12 (0 : Int32)) 77 i = kB μ0 76 i := fun i i0 i1 => hbB i i0 i1
  have eN9 : rN (xpi μ 75 12 (0 : Int32)) = rN μ := rfl
  obtain ⟨rfl, hkF, m, TS, htC, htK, htV⟩ := ex_cut hE42 (by rw [eN9]; omega) (by rw [eN9]; omega) (fun i i0 i1 => by rw [eN9] at i1; rw [eB9 i i0 i1]; exact hr i i0 i1) hkey
  replace h : eT xq_180 _ 45 [some (.inr (.inl (some 75))), some (.inl i)] [] μ42 r μ' := h
  replace h := tx_aload_n (p' := 46) h em180_45 rfl rfl
  replace h := tx_iconst (v := 0) (p' := 47) h em180_46 (by decide +kernel) rfl
  replace h := tx_putf (a := 75) (c := 12) (j := 25) (p' := 50) h em180_47 ((congrFun xo_12 203).trans rfl) rfl
  replace h := tx_aload_n (p' := 51) h em180_50 rfl rfl
  replace h := tx_iconst (v := 0) (p' := 52) h em180_51 (by decide +kernel) rfl
  replace h := tx_putf (a := 75) (c := 12) (j := 26) (p' := 55) h em180_52 ((congrFun xo_12 227).trans rfl) rfl
  replace h := tx_aload_n (p' := 56) h em180_55 rfl rfl
  replace h := tx_iconst (v := 0) (p' := 57) h em180_56 (by decide +kernel) rfl
  replace h := tx_putf (a := 75) (c := 12) (j := 27) (p' := 60) h em180_57 ((congrFun xo_12 200).trans rfl) rfl
  replace h := tx_aload_n (p' := 61) h em180_60 rfl rfl
  replace h := tx_iconst (v := 0) (p' := 62) h em180_61 (by decide +kernel) rfl
  replace h := tx_putf (a := 75) (c := 12) (j := 29) (p' := 65) h em180_62 ((congrFun xo_12 209).trans rfl) rfl
  replace h := tx_aload_n (p' := 66) h em180_65 rfl rfl
  replace h := tx_iconst (v := 1) (p' := 67) h em180_66 (by decide +kernel) rfl
  replace h := tx_aload_n (p' := 68) h em180_67 rfl rfl
  replace h := tx_getf (c := 12) (j := 2) (p' := 71) h em180_68 ((congrFun xo_12 230).trans rfl) rfl rfl (by decide) rfl
  replace h : eT xq_180 _ 71 [some (.inr (.inl (some 75))), some (.inl i)] [.inl (μ42.1 75 2), .inl (1 : Int32), .inr (.inl (some 75))] (xpi (xpi (xpi (xpi μ42 75 25 (0 : Int32)) 75 26 (0 : Int32)) 75 27 (0 : Int32)) 75 29 (0 : Int32)) r μ' := h
  replace h := tx_isub (p' := 72) h em180_71 rfl
  replace h := tx_putf (a := 75) (c := 12) (j := 32) (p' := 75) h em180_72 ((congrFun xo_12 233).trans rfl) rfl
  replace h := tx_aload_n (p' := 76) h em180_75 rfl rfl
  replace h := tx_iconst (v := 0) (p' := 77) h em180_76 (by decide +kernel) rfl
  replace h := tx_putf (a := 75) (c := 12) (j := 33) (p' := 80) h em180_77 ((congrFun xo_12 236).trans rfl) rfl
  replace h := tx_aload_n (p' := 81) h em180_80 rfl rfl
  replace h := tx_aload_n (p' := 82) h em180_81 rfl rfl
  replace h := tx_getf (c := 12) (j := 32) (p' := 85) h em180_82 ((congrFun xo_12 233).trans rfl) rfl rfl (by decide) rfl
  replace h : eT xq_180 _ 85 [some (.inr (.inl (some 75))), some (.inl i)] [.inl ((1 : Int32) - (μ42.1 75 2)), .inr (.inl (some 75))] (xpi (xpi (xpi (xpi (xpi (xpi μ42 75 25 (0 : Int32)) 75 26 (0 : Int32)) 75 27 (0 : Int32)) 75 29 (0 : Int32)) 75 32 ((1 : Int32) - (μ42.1 75 2))) 75 33 (0 : Int32)) r μ' := h
  obtain ⟨r85, μ85, hE85, h⟩ := tx_invV (na := 2) (mn := 218) (as := [.inr (.inl (some 75)), .inl ((1 : Int32) - (μ42.1 75 2))]) (rest := []) (p' := 88) h em180_85 ((congrFun xo_12 149).trans rfl) xm_218 rfl rfl
  have hEp := hE85
  obtain ⟨rfl, hsd, hpF, hp84, hp86⟩ := ex_plain hE85
  replace h : eT xq_180 _ 88 [some (.inr (.inl (some 75))), some (.inl i)] [] μ85 r μ' := h
  replace h := tx_aload_n (p' := 89) h em180_88 rfl rfl
  replace h := tx_sipush (v := 130) (p' := 92) h em180_89 (by decide +kernel) rfl
  replace h := tx_aload_n (p' := 93) h em180_92 rfl rfl
  replace h := tx_getf (c := 12) (j := 32) (p' := 96) h em180_93 ((congrFun xo_12 233).trans rfl) rfl rfl (by decide) rfl
  replace h := tx_imul (p' := 97) h em180_96 rfl
  replace h := tx_putf (a := 75) (c := 12) (j := 43) (p' := 100) h em180_97 ((congrFun xo_12 239).trans rfl) rfl
  replace h := tx_aload_n (p' := 101) h em180_100 rfl rfl
  replace h := tx_sipush (v := 420) (p' := 104) h em180_101 (by decide +kernel) rfl
  replace h := tx_aload_n (p' := 105) h em180_104 rfl rfl
  replace h := tx_getf (c := 12) (j := 32) (p' := 108) h em180_105 ((congrFun xo_12 233).trans rfl) rfl rfl (by decide) rfl
  replace h : eT xq_180 _ 108 [some (.inr (.inl (some 75))), some (.inl i)] [.inl (μ85.1 75 32), .inl (420 : Int32), .inr (.inl (some 75))] (xpi μ85 75 43 ((130 : Int32) * (μ85.1 75 32))) r μ' := h
  replace h := tx_imul (p' := 109) h em180_108 rfl
  replace h := tx_putf (a := 75) (c := 12) (j := 49) (p' := 112) h em180_109 ((congrFun xo_12 242).trans rfl) rfl
  have hsi : ∀ k j, k ≠ 75 → ¬ (84 ≤ k ∧ k ≤ 95) → (xpi (xpi μ85 75 43 ((130 : Int32) * (μ85.1 75 32))) 75 49 ((420 : Int32) * (μ85.1 75 32))).1 k j = μ42.1 k j := fun k j a b => by
    rw [xpi_ne (fun q => a q.1), xpi_ne (fun q => a q.1), hpF.1 k j b]
    rw [xpi_ne (fun q => a q.1), xpi_ne (fun q => a q.1), xpi_ne (fun q => a q.1), xpi_ne (fun q => a q.1), xpi_ne (fun q => a q.1), xpi_ne (fun q => a q.1)]
  have hf75 : ∀ j, j ≠ 43 → j ≠ 49 → (xpi (xpi μ85 75 43 ((130 : Int32) * (μ85.1 75 32))) 75 49 ((420 : Int32) * (μ85.1 75 32))).1 75 j = (xpi (xpi (xpi (xpi (xpi (xpi μ42 75 25 (0 : Int32)) 75 26 (0 : Int32)) 75 27 (0 : Int32)) 75 29 (0 : Int32)) 75 32 ((1 : Int32) - (μ42.1 75 2))) 75 33 (0 : Int32)).1 75 j := fun j a b => by
    rw [xpi_ne (fun q => b q.2), xpi_ne (fun q => a q.2), hpF.1 75 j (by decide)]
  have h2 : (xpi (xpi μ85 75 43 ((130 : Int32) * (μ85.1 75 32))) 75 49 ((420 : Int32) * (μ85.1 75 32))).2 = μ42.2 := hpF.2
  have eK : rK (xpi (xpi μ85 75 43 ((130 : Int32) * (μ85.1 75 32))) 75 49 ((420 : Int32) * (μ85.1 75 32))) = rK μ42 := by funext a; unfold rK; rw [hsi 78 _ (by decide) (by decide)]
  have eP : rP (xpi (xpi μ85 75 43 ((130 : Int32) * (μ85.1 75 32))) 75 49 ((420 : Int32) * (μ85.1 75 32))) = rP μ42 := by funext a; unfold rP; rw [hsi 79 _ (by decide) (by decide)]
  have eV : rVl (xpi (xpi μ85 75 43 ((130 : Int32) * (μ85.1 75 32))) 75 49 ((420 : Int32) * (μ85.1 75 32))) = rVl μ42 := by funext a; unfold rVl; rw [hsi 80 _ (by decide) (by decide)]
  have eNm : rNm (xpi (xpi μ85 75 43 ((130 : Int32) * (μ85.1 75 32))) 75 49 ((420 : Int32) * (μ85.1 75 32))) = rNm μ42 := by funext a; unfold rNm; rw [h2]
  have hT0 := qzT_of htC htK htV
  have hTT : qzT (xpi (xpi μ85 75 43 ((130 : Int32) * (μ85.1 75 32))) 75 49 ((420 : Int32) * (μ85.1 75 32))) m := by unfold qzT; rw [eK, eP, eV, eNm]; exact hT0
  have g25 : (xpi (xpi μ85 75 43 ((130 : Int32) * (μ85.1 75 32))) 75 49 ((420 : Int32) * (μ85.1 75 32))).1 75 25 = 0 := (hf75 25 (by decide) (by decide)).trans rfl
  have g26 : (xpi (xpi μ85 75 43 ((130 : Int32) * (μ85.1 75 32))) 75 49 ((420 : Int32) * (μ85.1 75 32))).1 75 26 = 0 := (hf75 26 (by decide) (by decide)).trans rfl
  have g27 : (xpi (xpi μ85 75 43 ((130 : Int32) * (μ85.1 75 32))) 75 49 ((420 : Int32) * (μ85.1 75 32))).1 75 27 = 0 := (hf75 27 (by decide) (by decide)).trans rfl
  have g29 : (xpi (xpi μ85 75 43 ((130 : Int32) * (μ85.1 75 32))) 75 49 ((420 : Int32) * (μ85.1 75 32))).1 75 29 = 0 := (hf75 29 (by decide) (by decide)).trans rfl
  have g33 : (xpi (xpi μ85 75 43 ((130 : Int32) * (μ85.1 75 32))) 75 49 ((420 : Int32) * (μ85.1 75 32))).1 75 33 = 0 := (hf75 33 (by decide) (by decide)).trans rfl
  have g32 : (xpi (xpi μ85 75 43 ((130 : Int32) * (μ85.1 75 32))) 75 49 ((420 : Int32) * (μ85.1 75 32))).1 75 32 = ((1 : Int32) - (μ42.1 75 2)) := (hf75 32 (by decide) (by decide)).trans rfl
  have zF : rF (xpi (xpi μ85 75 43 ((130 : Int32) * (μ85.1 75 32))) 75 49 ((420 : Int32) * (μ85.1 75 32))) = 0 := by unfold rF; rw [g27]; decide
  have zT : rT (xpi (xpi μ85 75 43 ((130 : Int32) * (μ85.1 75 32))) 75 49 ((420 : Int32) * (μ85.1 75 32))) = 0 := by unfold rT; rw [g25]; decide
  have zQ : rQ (xpi (xpi μ85 75 43 ((130 : Int32) * (μ85.1 75 32))) 75 49 ((420 : Int32) * (μ85.1 75 32))) = 0 := by unfold rQ; rw [g26]; decide
  have zW : (rW (xpi (xpi μ85 75 43 ((130 : Int32) * (μ85.1 75 32))) 75 49 ((420 : Int32) * (μ85.1 75 32)))).1 = 0 := by unfold rW; dsimp only; rw [g29]; decide
  have zS : rSd (xpi (xpi μ85 75 43 ((130 : Int32) * (μ85.1 75 32))) 75 49 ((420 : Int32) * (μ85.1 75 32))) = (((1 : Int32) - (μ42.1 75 2))).toInt := by unfold rSd; rw [g32]
  have zH : rH (xpi (xpi μ85 75 43 ((130 : Int32) * (μ85.1 75 32))) 75 49 ((420 : Int32) * (μ85.1 75 32))) = 0 := by
    unfold rH
    rw [zS, xpi_ne (fun q => absurd q.1 (by decide)), xpi_ne (fun q => absurd q.1 (by decide)), hp84]
    decide
  have zU : rU (xpi (xpi μ85 75 43 ((130 : Int32) * (μ85.1 75 32))) 75 49 ((420 : Int32) * (μ85.1 75 32))) = 0 := by
    unfold rU
    rw [zS, xpi_ne (fun q => absurd q.1 (by decide)), xpi_ne (fun q => absurd q.1 (by decide)), hp86]
    decide
  have hI0 : reI m (rTx (xpi (xpi μ85 75 43 ((130 : Int32) * (μ85.1 75 32))) 75 49 ((420 : Int32) * (μ85.1 75 32))) 401 0 0 0 [] (rW (xpi (xpi μ85 75 43 ((130 : Int32) * (μ85.1 75 32))) 75 49 ((420 : Int32) * (μ85.1 75 32))))) (xpi (xpi μ85 75 43 ((130 : Int32) * (μ85.1 75 32))) 75 49 ((420 : Int32) * (μ85.1 75 32))) (xpi (xpi μ85 75 43 ((130 : Int32) * (μ85.1 75 32))) 75 49 ((420 : Int32) * (μ85.1 75 32))) := by
    refine ⟨qzG_s qzS_rf, by rw [zF]; exact Int.le_refl 0, Or.inl ⟨zF, ⟨hTT, by rw [zF]; exact Int.le_refl 0, fun _ => ⟨by rw [zT]; exact Int.le_refl 0, by rw [zT]; exact hTT.1.1, zQ, fun q => absurd zW q⟩⟩, by rw [zW]; exact Int.le_refl 0, [], 401, ⟨⟨by rw [g33]; decide, fun k hk => absurd hk (Nat.not_lt_zero k)⟩, by rw [zH]; decide, by rw [zU]; decide, by rw [zS]; omega, by rw [zH, zU]; decide⟩, by rw [zT]; decide, by rw [zT, zH, zU]⟩⟩
  have hK0 : ∀ a, 0 ≤ a → a ≤ m → 0 ≤ rK (xpi (xpi μ85 75 43 ((130 : Int32) * (μ85.1 75 32))) 75 49 ((420 : Int32) * (μ85.1 75 32))) a := fun a a0 a1 => by
    rw [eK]
    rcases tkC_at htC a0 a1 with ⟨-, -, q⟩ | ⟨-, -, -, q, -⟩
    · omega
    · exact tkKd_p q
  have hsN : (((1 : Int32) - (μ42.1 75 2))).toInt = (((((1 : Int32) - (μ42.1 75 2))).toInt.toNat : Nat) : Int) := by omega
  obtain ⟨p1, p2, p3⟩ := rk_plain hEp hsN hmc.1
  have hJ0 : rkJ lw (((1 : Int32) - (μ42.1 75 2))).toInt.toNat (rTx (xpi (xpi μ85 75 43 ((130 : Int32) * (μ85.1 75 32))) 75 49 ((420 : Int32) * (μ85.1 75 32))) 401 0 0 0 [] (rW (xpi (xpi μ85 75 43 ((130 : Int32) * (μ85.1 75 32))) 75 49 ((420 : Int32) * (μ85.1 75 32))))) (kText (rK (xpi (xpi μ85 75 43 ((130 : Int32) * (μ85.1 75 32))) 75 49 ((420 : Int32) * (μ85.1 75 32)))) (rLt (xpi (xpi μ85 75 43 ((130 : Int32) * (μ85.1 75 32))) 75 49 ((420 : Int32) * (μ85.1 75 32)))) (rVl (xpi (xpi μ85 75 43 ((130 : Int32) * (μ85.1 75 32))) 75 49 ((420 : Int32) * (μ85.1 75 32)))) lw 401 0 0 0 kS0) (xpi (xpi μ85 75 43 ((130 : Int32) * (μ85.1 75 32))) 75 49 ((420 : Int32) * (μ85.1 75 32))) (xpi (xpi μ85 75 43 ((130 : Int32) * (μ85.1 75 32))) 75 49 ((420 : Int32) * (μ85.1 75 32))) := by
    refine ⟨p1, oE_rf, by rw [zS]; exact hsN, fun _ _ => ⟨kS0, 401, ?_, kWf_0, by rw [zT]; decide, by rw [zT, zH, zU]⟩⟩
    exact sM_cg (fun k j a b => (xpi_ne (fun q => by omega)).trans (xpi_ne (fun q => by omega))) p3
  obtain ⟨ω', n', i', h', hG', hE', o1, o2, o3, o4⟩ := rk_loop hK0 _ _ _ h hI0 hJ0
  obtain ⟨y, y1, y2, y3, y4, y5⟩ := rk_134 o1 h'
  obtain ⟨x, x1, x2, x3, x4, x5⟩ := re_end hE' h'
  have exy : x = y := by rw [x1] at y1; cases y1; rfl
  have e32 : ω'.1 75 32 = ((1 : Int32) - (μ42.1 75 2)) := Int32.toInt_inj.mp (by have o3 : (ω'.1 75 32).toInt = _ := o3; rw [o3]; exact hsN.symm)
  have e2 : ω'.1 75 2 = μ.1 75 2 := by
    rw [hG'.2.1 2 (by decide) (by decide) (by decide) (by decide) (by decide) (by decide), hf75 2 (by decide) (by decide)]
    rw [xpi_ne (fun q => absurd q.2 (by decide)), xpi_ne (fun q => absurd q.2 (by decide)), xpi_ne (fun q => absurd q.2 (by decide)), xpi_ne (fun q => absurd q.2 (by decide)), xpi_ne (fun q => absurd q.2 (by decide)), xpi_ne (fun q => absurd q.2 (by decide))]
    exact hlc
  have hoE : oE (((1 : Int32) - (μ42.1 75 2))).toInt.toNat μ μ' := by
    have hx1 : oE (((1 : Int32) - (μ42.1 75 2))).toInt.toNat μ μ42 := oE_m ⟨hmc.1, fun k j a b => (hmc.2 k j a b).trans (xpi_ne (fun q => by omega))⟩
    have hx2 : oE (((1 : Int32) - (μ42.1 75 2))).toInt.toNat μ42 μ85 := oE_tr (oE_m (μ := μ42) (ν := (xpi (xpi (xpi (xpi (xpi (xpi μ42 75 25 (0 : Int32)) 75 26 (0 : Int32)) 75 27 (0 : Int32)) 75 29 (0 : Int32)) 75 32 ((1 : Int32) - (μ42.1 75 2))) 75 33 (0 : Int32))) ⟨hmc.1, fun k j a b => by rw [xpi_ne (fun q => by omega), xpi_ne (fun q => by omega), xpi_ne (fun q => by omega), xpi_ne (fun q => by omega), xpi_ne (fun q => by omega), xpi_ne (fun q => by omega)]⟩) p2
    have hx3 : oE (((1 : Int32) - (μ42.1 75 2))).toInt.toNat μ85 (xpi (xpi μ85 75 43 ((130 : Int32) * (μ85.1 75 32))) 75 49 ((420 : Int32) * (μ85.1 75 32))) := oE_m ⟨p1, fun k j a b => (xpi_ne (fun q => by omega)).trans (xpi_ne (fun q => by omega))⟩
    exact oE_tr hx1 (oE_tr hx2 (oE_tr hx3 (oE_tr o2 (oE_m ⟨y2, y3⟩))))
  have hK9 : rkR lw (((1 : Int32) - (μ42.1 75 2))) μ μ' x (xpi (xpi μ85 75 43 ((130 : Int32) * (μ85.1 75 32))) 75 49 ((420 : Int32) * (μ85.1 75 32))) := by
    refine ⟨y2, hsd, hoE, fun q => ?_, fun q => ?_⟩
    · rw [exy] at q; rw [y4 q, e2]
    · have hT0 : (rTx (xpi (xpi μ85 75 43 ((130 : Int32) * (μ85.1 75 32))) 75 49 ((420 : Int32) * (μ85.1 75 32))) 401 0 0 0 [] (rW (xpi (xpi μ85 75 43 ((130 : Int32) * (μ85.1 75 32))) 75 49 ((420 : Int32) * (μ85.1 75 32))))).1 = 0 := by rw [← x2]; exact q
      have hF0 : rF ω' = 0 := by
        rcases hE' with ⟨a1, a2⟩ | ⟨a1, -⟩
        · rw [a2] at hT0; have hT0 : rF ω' = 0 := hT0; exact hT0
        · exact a1
      obtain ⟨s1, s2⟩ := o4 hF0 hT0
      rw [exy] at q
      exact ⟨by rw [y5 q, e32], sM_cg y3 s1, s2⟩
  rw [hlc] at hK9
  refine ⟨x, (xpi (xpi μ85 75 43 ((130 : Int32) * (μ85.1 75 32))) 75 49 ((420 : Int32) * (μ85.1 75 32))), m, TS, rW (xpi (xpi μ85 75 43 ((130 : Int32) * (μ85.1 75 32))) 75 49 ((420 : Int32) * (μ85.1 75 32))), x1, hK9, by rw [eK, eP]; exact htC, by rw [eK]; exact htK, ?_, zW, x2, x3, ?_⟩
  · unfold rkV
    rw [eK, eP, eV, eNm]
    exact htV
  · intro h119
    have e0 : ω'.2.2.2 = μ.2.2.2 := by rw [hG'.2.2.2, h2, hkF.2.2.2]; rfl
    obtain ⟨y1, y2, y3, y4⟩ := x5 (by omega)
    have yk : ∀ k j, k ≠ 75 → k < 77 → ω'.1 k j = μ.1 k j := fun k j a b => by
      rw [hG'.1 k j a (by omega), hsi k j a (by omega), hkF.1 k j a (by omega) (by omega) (by omega)]
      exact xpi_ne (fun q => a q.1)
    refine ⟨y1, fun j => ?_, fun j => ?_, fun j => ?_, ?_, ?_⟩
    · rw [y2 1 (by decide) (by decide) j]; exact yk 1 j (by decide) (by decide)
    · rw [y2 76 (by decide) (by decide) j]; exact yk 76 j (by decide) (by decide)
    · rw [y3, hG'.2.2.1 82 j (by decide), h2, hkF.2.2.1 82 j (by decide)]; rfl
    · have q := y4 (0, 11, 6) (by decide)
      have q : μ'.1 0 6 = ω'.1 0 6 := q
      rw [q]; exact yk 0 6 (by decide) (by decide)
    · have q := y4 (75, 12, 12) (by decide)
      have q : μ'.1 75 12 = ω'.1 75 12 := q
      rw [q, hG'.2.1 12 (by decide) (by decide) (by decide) (by decide) (by decide) (by decide), hf75 12 (by decide) (by decide)]
      rw [xpi_ne (fun q => absurd q.2 (by decide)), xpi_ne (fun q => absurd q.2 (by decide)), xpi_ne (fun q => absurd q.2 (by decide)), xpi_ne (fun q => absurd q.2 (by decide)), xpi_ne (fun q => absurd q.2 (by decide)), xpi_ne (fun q => absurd q.2 (by decide)), hkF.2.1 12 (by decide)]
      exact xpi_at
set_option maxRecDepth 10000 in
set_option maxHeartbeats 4000000 in
theorem kx_rread {lw : Int → kLw} {μ μ' : xM} {r : Option zV} (h0 : Ex gx xq_180 [.inr (.inl (some 75))] μ r μ') (hO : hOK μ) (h119 : 119 ≤ μ.2.2.2) (hn : 0 ≤ (μ.1 75 12).toInt ∧ (μ.1 75 12).toInt ≤ 2000) (hb : ∀ j : Nat, (j : Int) < (μ.1 75 12).toInt → -128 ≤ (μ.1 76 j).toInt ∧ (μ.1 76 j).toInt ≤ 127) (hkey : ∀ j : Nat, j < 21 → (μ.2.1 82 j).toInt = wKey j) : ∃ (x : Int32) (B : Int → Int) (ν : xM) (m : Int) (S : Int → Int) (w : Int × Int), r = some (.inl x) ∧ rkR lw ((1 : Int32) - (μ.1 75 2)) μ μ' x ν ∧ (∀ i, 0 ≤ i → i < (μ.1 75 12).toInt → B i = kB μ 76 i) ∧ tkC B (μ.1 75 12).toInt (rP ν) S (rK ν) m ∧ (m < 400 → rK ν m = 0) ∧ rkV B S ν (m + 1) ∧ w.1 = 0 ∧ x.toInt = (rTx ν 401 0 0 0 [] w).1 ∧ (¬ (rTx ν 401 0 0 0 [] w).1 = 0 → (μ'.1 75 31).toInt = (rTx ν 401 0 0 0 [] w).2) ∧ reF μ μ' := by
  obtain ⟨n, h⟩ := tx_in (L := [some (.inr (.inl (some 75))), none]) h0 rfl
  replace h := tx_aload_n (p' := 1) h em180_0 rfl rfl
  replace h := tx_aload_n (p' := 2) h em180_1 rfl rfl
  replace h := tx_getf (c := 12) (j := 12) (p' := 5) h em180_2 ((congrFun xo_12 163).trans rfl) rfl rfl (by decide) rfl
  replace h := tx_putf (a := 75) (c := 12) (j := 18) (p' := 8) h em180_5 ((congrFun xo_12 169).trans rfl) rfl
  replace h := tx_iconst (v := 0) (p' := 9) h em180_8 (by decide +kernel) rfl
  replace h := tx_istore_n (p' := 10) h em180_9 rfl
  replace h : eT xq_180 _ 10 [some (.inr (.inl (some 75))), some (.inl (0 : Int32))] [] (xpi μ 75 18 (μ.1 75 12)) r μ' := h
  obtain ⟨ω', n', i', h', c1, c2, c3⟩ := re_copy hb _ _ _ h (by decide) ⟨fun _ _ _ => rfl, rfl, fun j hj => by have hj : (j : Int) < 0 := hj; omega⟩
  have eN : rN ω' = (μ.1 75 12).toInt := by unfold rN; rw [c1 75 18 (by decide), xpi_at]
  have eB : ∀ i, 0 ≤ i → i < rN ω' → kB ω' 77 i = kB μ 76 i := fun i i0 i1 => by unfold kB; rw [c3 i.toNat (by omega)]
  have hr : ∀ i, 0 ≤ i → i < rN ω' → -128 ≤ kB μ 76 i ∧ kB μ 76 i ≤ 127 := fun i i0 i1 => hb i.toNat (by omega)
  obtain ⟨x, ν, m, S, w, x1, x2, x3, x4, x5, x6, x7, x8, x9⟩ := rk_36 (lw := lw) (hOK_2 c2 hO) (by rw [eN]; exact hn) eB hr (fun j hj => by rw [c2]; exact hkey j hj) h'
  have e2c : ω'.1 75 2 = μ.1 75 2 := (c1 75 2 (by decide)).trans (xpi_ne (fun q => absurd q.2 (by decide)))
  rw [e2c] at x2
  refine ⟨x, kB ω' 77, ν, m, S, w, x1, rkR_l (fun k j a b => (c1 k j (by omega)).trans (xpi_ne (fun q => by omega))) e2c x2, fun i i0 i1 => eB i i0 (by omega), by rw [← eN]; exact x3, x4, x5, x6, x7, x8, fun g => ?_⟩
  obtain ⟨y1, y2, y3, y4, y5, y6⟩ := x9 (by rw [c2]; exact g)
  have ck : ∀ k j, k ≠ 75 → k ≠ 77 → ω'.1 k j = μ.1 k j := fun k j a b => (c1 k j b).trans (xpi_ne (fun q => a q.1))
  exact ⟨y1, fun j => (y2 j).trans (ck 1 j (by decide) (by decide)), fun j => (y3 j).trans (ck 76 j (by decide) (by decide)), fun j => (y4 j).trans (by rw [c2]), y5.trans (ck 0 6 (by decide) (by decide)), y6⟩
