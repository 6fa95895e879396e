/-! ===== WHERE THE FAULT IS ===== -/
theorem gR_at {μ μ' : xM} (h : gRm gF μ μ') (h0 : 119 ≤ μ.2.2.2) : 119 ≤ μ'.2.2.2 ∧ μ'.1 0 9 = μ.1 0 9 ∧ μ'.1 75 31 = μ.1 75 31 := ⟨(h h0).1, (h h0).2 (0, 11, 9) (by decide), (h h0).2 (75, 12, 31) (by decide)⟩
abbrev xq_97 : xP := (⟨"CapitalCase", "place", "()I"⟩, prog_1_method_7_code, 1, (some .int))
abbrev xq_177 : xP := (⟨"CapitalCaseModel", "place", "()I"⟩, prog_14_method_21_code, 1, (some .int))
set_option maxRecDepth 10000 in
set_option maxHeartbeats 4000000 in
theorem ex_cplace {μ μ' : xM} {r : Option zV} (h0 : Ex gx xq_97 [.inr (.inl (some 0))] μ r μ') : r = some (.inl (μ.1 0 9)) ∧ μ' = μ := by
  obtain ⟨n, h⟩ := tx_in (L := [some (.inr (.inl (some 0)))]) h0 rfl
  replace h := tx_aload_n (p' := 1) h em97_0 rfl rfl
  replace h := tx_getf (c := 11) (j := 9) (p' := 4) h em97_1 ((congrFun xo_0 17).trans rfl) rfl rfl (by decide) rfl
  obtain ⟨rfl, hμ⟩ := tx_ireturn h em97_4
  exact ⟨rfl, hμ⟩
set_option maxRecDepth 10000 in
set_option maxHeartbeats 4000000 in
theorem ex_mplace {μ μ' : xM} {r : Option zV} (h0 : Ex gx xq_177 [.inr (.inl (some 75))] μ r μ') : r = some (.inl (μ.1 75 31)) ∧ μ' = μ := by
  obtain ⟨n, h⟩ := tx_in (L := [some (.inr (.inl (some 75)))]) h0 rfl
  replace h := tx_aload_n (p' := 1) h em177_0 rfl rfl
  replace h := tx_getf (c := 12) (j := 31) (p' := 4) h em177_1 ((congrFun xo_12 37).trans rfl) rfl rfl (by decide) rfl
  obtain ⟨rfl, hμ⟩ := tx_ireturn h em177_4
  exact ⟨rfl, hμ⟩
set_option maxRecDepth 10000 in
set_option maxHeartbeats 4000000 in
theorem rp_219 {μ' : xM} {r : Option zV} : ∀ (n : Nat) (i : Int32) (ω : xM), eT xq_180 n 219 [some (.inr (.inl (some 75))), some (.inl i)] [] ω r μ' → (ω.1 75 31).toInt = -1 → ∃ x : Int32, r = some (.inl x) ∧ (x.toInt = 0 → (μ'.1 75 31).toInt = -1) := by
  intro n
  induction n using Nat.strongRecOn with
  | ind n ih =>
  intro i ω h hP
  replace h := tx_iload_n (p' := 220) h em180_219 rfl rfl
  replace h := tx_iconst (v := 3) (p' := 221) h em180_220 (by decide +kernel) rfl
  rcases tx_icmp (t := 237) (p' := 224) h em180_221 (by decide) rfl with ⟨c221, h⟩ | ⟨c221, h⟩
  · replace c221 : 3 ≤ i.toInt := c221
    replace h := tx_iconst (v := 0) (p' := 238) h em180_237 (by decide +kernel) rfl
    obtain ⟨rfl, hμ⟩ := tx_ireturn h em180_238
    rw [hμ]
    exact ⟨_, rfl, fun _ => hP⟩
  · replace c221 : ¬ 3 ≤ i.toInt := c221
    replace h := tx_aload_n (p' := 225) h em180_224 rfl rfl
    replace h := tx_getc (c := 12) (j := 68) (p' := 228) h em180_225 ((congrFun xo_12 143).trans rfl) rfl rfl rfl
    replace h := tx_iload_n (p' := 229) h em180_228 rfl rfl
    replace h := tx_iconst (v := 0) (p' := 230) h em180_229 (by decide +kernel) rfl
    obtain ⟨hb230, h⟩ := tx_bast (len := 3) (p' := 231) h em180_230 rfl rfl
    replace hb230 : (0 : Int) ≤ i.toInt ∧ i.toInt < 3 := hb230
    replace h := tx_iinc (v := 1) (p' := 234) h em180_231 (by decide +kernel) rfl rfl
    replace h : eT xq_180 _ 234 [some (.inr (.inl (some 75))), some (.inl (i + 1))] [] (xpi ω 117 i.toInt.toNat ((0 : Int32)).toInt8.toInt32) r μ' := h
    obtain ⟨n2, hn2, h⟩ := tx_gotoS (t := 219) h em180_234 (by decide)
    exact ih n2 hn2 _ _ h (by rw [xpi_ne (fun q => absurd q.1 (by decide))]; exact hP)
set_option maxRecDepth 10000 in
set_option maxHeartbeats 4000000 in
theorem rp_134 {ω μ' : xM} {r : Option zV} (h9 : 119 ≤ ω.2.2.2) {n : Nat} {i : Int32} (h : eT xq_180 n 134 [some (.inr (.inl (some 75))), some (.inl i)] [] ω r μ') : ∃ x : Int32, r = some (.inl x) ∧ (x.toInt = 0 → (μ'.1 75 31).toInt = -1) := by
  replace h := tx_aload_n (p' := 135) h em180_134 rfl rfl
  replace h := tx_aload_n (p' := 136) h em180_135 rfl rfl
  replace h := tx_getf (c := 12) (j := 27) (p' := 139) h em180_136 ((congrFun xo_12 200).trans rfl) rfl rfl (by decide) rfl
  rcases tx_if (t := 149) (p' := 142) h em180_139 (by decide) rfl with ⟨c139, h⟩ | ⟨c139, h⟩
  · replace c139 : (ω.1 75 27).toInt ≤ 0 := c139
    replace h := tx_aload_n (p' := 150) h em180_149 rfl rfl
    replace h := tx_getf (c := 12) (j := 29) (p' := 153) h em180_150 ((congrFun xo_12 209).trans rfl) rfl rfl (by decide) rfl
    rcases tx_if (t := 163) (p' := 156) h em180_153 (by decide) rfl with ⟨c153, h⟩ | ⟨c153, h⟩
    · replace c153 : (ω.1 75 29).toInt ≤ 0 := c153
      replace h := tx_iconst (v := (-1)) (p' := 164) h em180_163 (by decide +kernel) rfl
      replace h := tx_putf (a := 75) (c := 12) (j := 31) (p' := 167) h em180_164 ((congrFun xo_12 37).trans rfl) rfl
      replace h := tx_aload_n (p' := 168) h em180_167 rfl rfl
      replace h := tx_getf (c := 12) (j := 27) (p' := 171) h em180_168 ((congrFun xo_12 200).trans rfl) rfl rfl (by decide) rfl
      replace h : eT xq_180 _ 171 [some (.inr (.inl (some 75))), some (.inl i)] [.inl (ω.1 75 27)] (xpi ω 75 31 (-1 : Int32)) r μ' := h
      rcases tx_if (t := 179) (p' := 174) h em180_171 (by decide) rfl with ⟨c171, h⟩ | ⟨c171, h⟩
      · replace c171 : (ω.1 75 27).toInt ≤ 0 := c171
        replace h := tx_aload_n (p' := 180) h em180_179 rfl rfl
        replace h := tx_getf (c := 12) (j := 29) (p' := 183) h em180_180 ((congrFun xo_12 209).trans rfl) rfl rfl (by decide) rfl
        replace h : eT xq_180 _ 183 [some (.inr (.inl (some 75))), some (.inl i)] [.inl (ω.1 75 29)] (xpi ω 75 31 (-1 : Int32)) r μ' := h
        rcases tx_if (t := 191) (p' := 186) h em180_183 (by decide) rfl with ⟨c183, h⟩ | ⟨c183, h⟩
        · replace c183 : (ω.1 75 29).toInt ≤ 0 := c183
          replace h := tx_aload_n (p' := 192) h em180_191 rfl rfl
          replace h := tx_aload_n (p' := 193) h em180_192 rfl rfl
          replace h := tx_getf (c := 12) (j := 32) (p' := 196) h em180_193 ((congrFun xo_12 233).trans rfl) rfl rfl (by decide) rfl
          replace h : eT xq_180 _ 196 [some (.inr (.inl (some 75))), some (.inl i)] [.inl (ω.1 75 32), .inr (.inl (some 75))] (xpi ω 75 31 (-1 : Int32)) r μ' := h
          replace h := tx_putf (a := 75) (c := 12) (j := 2) (p' := 199) h em180_196 ((congrFun xo_12 230).trans rfl) rfl
          replace h := tx_aload_n (p' := 200) h em180_199 rfl rfl
          obtain ⟨r200, μ200, hE200, h⟩ := tx_invV (na := 1) (mn := 121) (as := [.inr (.inl (some 75))]) (rest := []) (p' := 203) h em180_200 ((congrFun xo_12 157).trans rfl) xm_121 rfl rfl
          have hG200 := gR xm_121 (by decide +kernel) hE200
          have er200 := ex_void [0, 1, 2, 3, 6, 9, 10, 13, 14, 15, 16, 19, 22, 23, 24, 25, 27, 28, 31, 32, 35, 36, 37, 40, 41, 44, 45, 46, 49, 51, 52, 55, 56, 57, 58, 59, 60, 63, 66, 67, 68, 71, 72, 75, 76, 79, 80, 81, 84, 85, 86, 89, 90] (by decide +kernel) hE200
          subst er200
          replace h : eT xq_180 _ 203 [some (.inr (.inl (some 75))), some (.inl i)] [] μ200 r μ' := h
          replace h := tx_aload_n (p' := 204) h em180_203 rfl rfl
          obtain ⟨r204, μ204, hE204, h⟩ := tx_invV (na := 1) (mn := 157) (as := [.inr (.inl (some 75))]) (rest := []) (p' := 207) h em180_204 ((congrFun xo_12 160).trans rfl) xm_157 rfl rfl
          have hG204 := gR xm_157 (by decide +kernel) hE204
          have er204 := ex_void [0, 1, 2, 3, 6, 9, 10, 13, 14, 15, 18, 19, 20, 21, 24, 27, 28] (by decide +kernel) hE204
          subst er204
          replace h : eT xq_180 _ 207 [some (.inr (.inl (some 75))), some (.inl i)] [] μ204 r μ' := h
          replace h := tx_aload_n (p' := 208) h em180_207 rfl rfl
          replace h := tx_iconst (v := 0) (p' := 209) h em180_208 (by decide +kernel) rfl
          replace h := tx_putf (a := 75) (c := 12) (j := 10) (p' := 212) h em180_209 ((congrFun xo_12 248).trans rfl) rfl
          replace h := tx_aload_n (p' := 213) h em180_212 rfl rfl
          replace h := tx_iconst (v := 0) (p' := 214) h em180_213 (by decide +kernel) rfl
          replace h := tx_putf (a := 75) (c := 12) (j := 64) (p' := 217) h em180_214 ((congrFun xo_12 251).trans rfl) rfl
          replace h := tx_iconst (v := 0) (p' := 218) h em180_217 (by decide +kernel) rfl
          replace h := tx_istore_n (p' := 219) h em180_218 rfl
          replace h : eT xq_180 _ 219 [some (.inr (.inl (some 75))), some (.inl (0 : Int32))] [] (xpi (xpi μ204 75 10 (0 : Int32)) 75 64 (0 : Int32)) r μ' := h
          obtain ⟨k1, -, k2⟩ := gR_at hG200 h9
          obtain ⟨k3, -, k4⟩ := gR_at hG204 k1
          refine rp_219 _ _ _ h ?_
          rw [xpi_ne (fun q => absurd q.2 (by decide)), xpi_ne (fun q => absurd q.2 (by decide)), k4, k2, xpi_ne (fun q => absurd q.2 (by decide)), xpi_at]
          first
            | decide
            | (exfalso; omega)
        · replace c183 : ¬ (ω.1 75 29).toInt ≤ 0 := c183
          replace h := tx_aload_n (p' := 187) h em180_186 rfl rfl
          replace h := tx_getf (c := 12) (j := 29) (p' := 190) h em180_187 ((congrFun xo_12 209).trans rfl) rfl rfl (by decide) rfl
          replace h : eT xq_180 _ 190 [some (.inr (.inl (some 75))), some (.inl i)] [.inl (ω.1 75 29)] (xpi ω 75 31 (-1 : Int32)) r μ' := h
          obtain ⟨rfl, hμ⟩ := tx_ireturn h em180_190
          exact ⟨_, rfl, fun q => absurd q (by omega)⟩
      · replace c171 : ¬ (ω.1 75 27).toInt ≤ 0 := c171
        replace h := tx_aload_n (p' := 175) h em180_174 rfl rfl
        replace h := tx_getf (c := 12) (j := 27) (p' := 178) h em180_175 ((congrFun xo_12 200).trans rfl) rfl rfl (by decide) rfl
        replace h : eT xq_180 _ 178 [some (.inr (.inl (some 75))), some (.inl i)] [.inl (ω.1 75 27)] (xpi ω 75 31 (-1 : Int32)) r μ' := h
        obtain ⟨rfl, hμ⟩ := tx_ireturn h em180_178
        exact ⟨_, rfl, fun q => absurd q (by omega)⟩
    · replace c153 : ¬ (ω.1 75 29).toInt ≤ 0 := c153
      replace h := tx_aload_n (p' := 157) h em180_156 rfl rfl
      replace h := tx_getf (c := 12) (j := 30) (p' := 160) h em180_157 ((congrFun xo_12 212).trans rfl) rfl rfl (by decide) rfl
      replace h := tx_goto (t := 164) h em180_160 (by decide)
      replace h := tx_putf (a := 75) (c := 12) (j := 31) (p' := 167) h em180_164 ((congrFun xo_12 37).trans rfl) rfl
      replace h := tx_aload_n (p' := 168) h em180_167 rfl rfl
      replace h := tx_getf (c := 12) (j := 27) (p' := 171) h em180_168 ((congrFun xo_12 200).trans rfl) rfl rfl (by decide) rfl
      replace h : eT xq_180 _ 171 [some (.inr (.inl (some 75))), some (.inl i)] [.inl (ω.1 75 27)] (xpi ω 75 31 (ω.1 75 30)) r μ' := h
      rcases tx_if (t := 179) (p' := 174) h em180_171 (by decide) rfl with ⟨c171_1, h⟩ | ⟨c171_1, h⟩
      · replace c171_1 : (ω.1 75 27).toInt ≤ 0 := c171_1
        replace h := tx_aload_n (p' := 180) h em180_179 rfl rfl
        replace h := tx_getf (c := 12) (j := 29) (p' := 183) h em180_180 ((congrFun xo_12 209).trans rfl) rfl rfl (by decide) rfl
        replace h : eT xq_180 _ 183 [some (.inr (.inl (some 75))), some (.inl i)] [.inl (ω.1 75 29)] (xpi ω 75 31 (ω.1 75 30)) r μ' := h
        rcases tx_if (t := 191) (p' := 186) h em180_183 (by decide) rfl with ⟨c183_1, h⟩ | ⟨c183_1, h⟩
        · replace c183_1 : (ω.1 75 29).toInt ≤ 0 := c183_1
          replace h := tx_aload_n (p' := 192) h em180_191 rfl rfl
          replace h := tx_aload_n (p' := 193) h em180_192 rfl rfl
          replace h := tx_getf (c := 12) (j := 32) (p' := 196) h em180_193 ((congrFun xo_12 233).trans rfl) rfl rfl (by decide) rfl
          replace h : eT xq_180 _ 196 [some (.inr (.inl (some 75))), some (.inl i)] [.inl (ω.1 75 32), .inr (.inl (some 75))] (xpi ω 75 31 (ω.1 75 30)) r μ' := h
          replace h := tx_putf (a := 75) (c := 12) (j := 2) (p' := 199) h em180_196 ((congrFun xo_12 230).trans rfl) rfl
          replace h := tx_aload_n (p' := 200) h em180_199 rfl rfl
          obtain ⟨r200_1, μ200_1, hE200_1, h⟩ := tx_invV (na := 1) (mn := 121) (as := [.inr (.inl (some 75))]) (rest := []) (p' := 203) h em180_200 ((congrFun xo_12 157).trans rfl) xm_121 rfl rfl
          have hG200_1 := gR xm_121 (by decide +kernel) hE200_1
          have er200_1 := ex_void [0, 1, 2, 3, 6, 9, 10, 13, 14, 15, 16, 19, 22, 23, 24, 25, 27, 28, 31, 32, 35, 36, 37, 40, 41, 44, 45, 46, 49, 51, 52, 55, 56, 57, 58, 59, 60, 63, 66, 67, 68, 71, 72, 75, 76, 79, 80, 81, 84, 85, 86, 89, 90] (by decide +kernel) hE200_1
          subst er200_1
          replace h : eT xq_180 _ 203 [some (.inr (.inl (some 75))), some (.inl i)] [] μ200_1 r μ' := h
          replace h := tx_aload_n (p' := 204) h em180_203 rfl rfl
          obtain ⟨r204_1, μ204_1, hE204_1, h⟩ := tx_invV (na := 1) (mn := 157) (as := [.inr (.inl (some 75))]) (rest := []) (p' := 207) h em180_204 ((congrFun xo_12 160).trans rfl) xm_157 rfl rfl
          have hG204_1 := gR xm_157 (by decide +kernel) hE204_1
          have er204_1 := ex_void [0, 1, 2, 3, 6, 9, 10, 13, 14, 15, 18, 19, 20, 21, 24, 27, 28] (by decide +kernel) hE204_1
          subst er204_1
          replace h : eT xq_180 _ 207 [some (.inr (.inl (some 75))), some (.inl i)] [] μ204_1 r μ' := h
          replace h := tx_aload_n (p' := 208) h em180_207 rfl rfl
          replace h := tx_iconst (v := 0) (p' := 209) h em180_208 (by decide +kernel) rfl
          replace h := tx_putf (a := 75) (c := 12) (j := 10) (p' := 212) h em180_209 ((congrFun xo_12 248).trans rfl) rfl
          replace h := tx_aload_n (p' := 213) h em180_212 rfl rfl
          replace h := tx_iconst (v := 0) (p' := 214) h em180_213 (by decide +kernel) rfl
          replace h := tx_putf (a := 75) (c := 12) (j := 64) (p' := 217) h em180_214 ((congrFun xo_12 251).trans rfl) rfl
          replace h := tx_iconst (v := 0) (p' := 218) h em180_217 (by decide +kernel) rfl
          replace h := tx_istore_n (p' := 219) h em180_218 rfl
          replace h : eT xq_180 _ 219 [some (.inr (.inl (some 75))), some (.inl (0 : Int32))] [] (xpi (xpi μ204_1 75 10 (0 : Int32)) 75 64 (0 : Int32)) r μ' := h
          obtain ⟨k1, -, k2⟩ := gR_at hG200_1 h9
          obtain ⟨k3, -, k4⟩ := gR_at hG204_1 k1
          refine rp_219 _ _ _ h ?_
          rw [xpi_ne (fun q => absurd q.2 (by decide)), xpi_ne (fun q => absurd q.2 (by decide)), k4, k2, xpi_ne (fun q => absurd q.2 (by decide)), xpi_at]
          first
            | decide
            | (exfalso; omega)
        · replace c183_1 : ¬ (ω.1 75 29).toInt ≤ 0 := c183_1
          replace h := tx_aload_n (p' := 187) h em180_186 rfl rfl
          replace h := tx_getf (c := 12) (j := 29) (p' := 190) h em180_187 ((congrFun xo_12 209).trans rfl) rfl rfl (by decide) rfl
          replace h : eT xq_180 _ 190 [some (.inr (.inl (some 75))), some (.inl i)] [.inl (ω.1 75 29)] (xpi ω 75 31 (ω.1 75 30)) r μ' := h
          obtain ⟨rfl, hμ⟩ := tx_ireturn h em180_190
          exact ⟨_, rfl, fun q => absurd q (by omega)⟩
      · replace c171_1 : ¬ (ω.1 75 27).toInt ≤ 0 := c171_1
        replace h := tx_aload_n (p' := 175) h em180_174 rfl rfl
        replace h := tx_getf (c := 12) (j := 27) (p' := 178) h em180_175 ((congrFun xo_12 200).trans rfl) rfl rfl (by decide) rfl
        replace h : eT xq_180 _ 178 [some (.inr (.inl (some 75))), some (.inl i)] [.inl (ω.1 75 27)] (xpi ω 75 31 (ω.1 75 30)) r μ' := h
        obtain ⟨rfl, hμ⟩ := tx_ireturn h em180_178
        exact ⟨_, rfl, fun q => absurd q (by omega)⟩
  · replace c139 : ¬ (ω.1 75 27).toInt ≤ 0 := c139
    replace h := tx_aload_n (p' := 143) h em180_142 rfl rfl
    replace h := tx_getf (c := 12) (j := 28) (p' := 146) h em180_143 ((congrFun xo_12 206).trans rfl) rfl rfl (by decide) rfl
    replace h := tx_goto (t := 164) h em180_146 (by decide)
    replace h := tx_putf (a := 75) (c := 12) (j := 31) (p' := 167) h em180_164 ((congrFun xo_12 37).trans rfl) rfl
    replace h := tx_aload_n (p' := 168) h em180_167 rfl rfl
    replace h := tx_getf (c := 12) (j := 27) (p' := 171) h em180_168 ((congrFun xo_12 200).trans rfl) rfl rfl (by decide) rfl
    replace h : eT xq_180 _ 171 [some (.inr (.inl (some 75))), some (.inl i)] [.inl (ω.1 75 27)] (xpi ω 75 31 (ω.1 75 28)) r μ' := h
    rcases tx_if (t := 179) (p' := 174) h em180_171 (by decide) rfl with ⟨c171_2, h⟩ | ⟨c171_2, h⟩
    · replace c171_2 : (ω.1 75 27).toInt ≤ 0 := c171_2
      replace h := tx_aload_n (p' := 180) h em180_179 rfl rfl
      replace h := tx_getf (c := 12) (j := 29) (p' := 183) h em180_180 ((congrFun xo_12 209).trans rfl) rfl rfl (by decide) rfl
      replace h : eT xq_180 _ 183 [some (.inr (.inl (some 75))), some (.inl i)] [.inl (ω.1 75 29)] (xpi ω 75 31 (ω.1 75 28)) r μ' := h
      rcases tx_if (t := 191) (p' := 186) h em180_183 (by decide) rfl with ⟨c183_2, h⟩ | ⟨c183_2, h⟩
      · replace c183_2 : (ω.1 75 29).toInt ≤ 0 := c183_2
        replace h := tx_aload_n (p' := 192) h em180_191 rfl rfl
        replace h := tx_aload_n (p' := 193) h em180_192 rfl rfl
        replace h := tx_getf (c := 12) (j := 32) (p' := 196) h em180_193 ((congrFun xo_12 233).trans rfl) rfl rfl (by decide) rfl
        replace h : eT xq_180 _ 196 [some (.inr (.inl (some 75))), some (.inl i)] [.inl (ω.1 75 32), .inr (.inl (some 75))] (xpi ω 75 31 (ω.1 75 28)) r μ' := h
        replace h := tx_putf (a := 75) (c := 12) (j := 2) (p' := 199) h em180_196 ((congrFun xo_12 230).trans rfl) rfl
        replace h := tx_aload_n (p' := 200) h em180_199 rfl rfl
        obtain ⟨r200_2, μ200_2, hE200_2, h⟩ := tx_invV (na := 1) (mn := 121) (as := [.inr (.inl (some 75))]) (rest := []) (p' := 203) h em180_200 ((congrFun xo_12 157).trans rfl) xm_121 rfl rfl
        have hG200_2 := gR xm_121 (by decide +kernel) hE200_2
        have er200_2 := ex_void [0, 1, 2, 3, 6, 9, 10, 13, 14, 15, 16, 19, 22, 23, 24, 25, 27, 28, 31, 32, 35, 36, 37, 40, 41, 44, 45, 46, 49, 51, 52, 55, 56, 57, 58, 59, 60, 63, 66, 67, 68, 71, 72, 75, 76, 79, 80, 81, 84, 85, 86, 89, 90] (by decide +kernel) hE200_2
        subst er200_2
        replace h : eT xq_180 _ 203 [some (.inr (.inl (some 75))), some (.inl i)] [] μ200_2 r μ' := h
        replace h := tx_aload_n (p' := 204) h em180_203 rfl rfl
        obtain ⟨r204_2, μ204_2, hE204_2, h⟩ := tx_invV (na := 1) (mn := 157) (as := [.inr (.inl (some 75))]) (rest := []) (p' := 207) h em180_204 ((congrFun xo_12 160).trans rfl) xm_157 rfl rfl
        have hG204_2 := gR xm_157 (by decide +kernel) hE204_2
        have er204_2 := ex_void [0, 1, 2, 3, 6, 9, 10, 13, 14, 15, 18, 19, 20, 21, 24, 27, 28] (by decide +kernel) hE204_2
        subst er204_2
        replace h : eT xq_180 _ 207 [some (.inr (.inl (some 75))), some (.inl i)] [] μ204_2 r μ' := h
        replace h := tx_aload_n (p' := 208) h em180_207 rfl rfl
        replace h := tx_iconst (v := 0) (p' := 209) h em180_208 (by decide +kernel) rfl
        replace h := tx_putf (a := 75) (c := 12) (j := 10) (p' := 212) h em180_209 ((congrFun xo_12 248).trans rfl) rfl
        replace h := tx_aload_n (p' := 213) h em180_212 rfl rfl
        replace h := tx_iconst (v := 0) (p' := 214) h em180_213 (by decide +kernel) rfl
        replace h := tx_putf (a := 75) (c := 12) (j := 64) (p' := 217) h em180_214 ((congrFun xo_12 251).trans rfl) rfl
        replace h := tx_iconst (v := 0) (p' := 218) h em180_217 (by decide +kernel) rfl
        replace h := tx_istore_n (p' := 219) h em180_218 rfl
        replace h : eT xq_180 _ 219 [some (.inr (.inl (some 75))), some (.inl (0 : Int32))] [] (xpi (xpi μ204_2 75 10 (0 : Int32)) 75 64 (0 : Int32)) r μ' := h
        obtain ⟨k1, -, k2⟩ := gR_at hG200_2 h9
        obtain ⟨k3, -, k4⟩ := gR_at hG204_2 k1
        refine rp_219 _ _ _ h ?_
        rw [xpi_ne (fun q => absurd q.2 (by decide)), xpi_ne (fun q => absurd q.2 (by decide)), k4, k2, xpi_ne (fun q => absurd q.2 (by decide)), xpi_at]
        first
          | decide
          | (exfalso; omega)
      · replace c183_2 : ¬ (ω.1 75 29).toInt ≤ 0 := c183_2
        replace h := tx_aload_n (p' := 187) h em180_186 rfl rfl
        replace h := tx_getf (c := 12) (j := 29) (p' := 190) h em180_187 ((congrFun xo_12 209).trans rfl) rfl rfl (by decide) rfl
        replace h : eT xq_180 _ 190 [some (.inr (.inl (some 75))), some (.inl i)] [.inl (ω.1 75 29)] (xpi ω 75 31 (ω.1 75 28)) r μ' := h
        obtain ⟨rfl, hμ⟩ := tx_ireturn h em180_190
        exact ⟨_, rfl, fun q => absurd q (by omega)⟩
    · replace c171_2 : ¬ (ω.1 75 27).toInt ≤ 0 := c171_2
      replace h := tx_aload_n (p' := 175) h em180_174 rfl rfl
      replace h := tx_getf (c := 12) (j := 27) (p' := 178) h em180_175 ((congrFun xo_12 200).trans rfl) rfl rfl (by decide) rfl
      replace h : eT xq_180 _ 178 [some (.inr (.inl (some 75))), some (.inl i)] [.inl (ω.1 75 27)] (xpi ω 75 31 (ω.1 75 28)) r μ' := h
      obtain ⟨rfl, hμ⟩ := tx_ireturn h em180_178
      exact ⟨_, rfl, fun q => absurd q (by omega)⟩
set_option maxRecDepth 10000 in
set_option maxHeartbeats 4000000 in
theorem rp_112 {μ' : xM} {r : Option zV} : ∀ (n : Nat) (i : Int32) (ω : xM), eT xq_180 n 112 [some (.inr (.inl (some 75))), some (.inl i)] [] ω r μ' → 119 ≤ ω.2.2.2 → ∃ x : Int32, r = some (.inl x) ∧ (x.toInt = 0 → (μ'.1 75 31).toInt = -1) := by
  intro n
  induction n using Nat.strongRecOn with
  | ind n ih =>
  intro i ω h h9
  replace h := tx_aload_n (p' := 113) h em180_112 rfl rfl
  replace h := tx_getf (c := 12) (j := 27) (p' := 116) h em180_113 ((congrFun xo_12 200).trans rfl) rfl rfl (by decide) rfl
  rcases tx_if (t := 134) (p' := 119) h em180_116 (by decide) rfl with ⟨c116, h⟩ | ⟨c116, h⟩
  · replace c116 : ¬ (ω.1 75 27).toInt = 0 := c116
    exact rp_134 h9 h
  · replace c116 : ¬ ¬ (ω.1 75 27).toInt = 0 := c116
    replace h := tx_aload_n (p' := 120) h em180_119 rfl rfl
    replace h := tx_iconst (v := 0) (p' := 121) h em180_120 (by decide +kernel) rfl
    obtain ⟨r121, μ121, hE121, h⟩ := tx_invV (na := 2) (mn := 149) (as := [.inr (.inl (some 75)), .inl (0 : Int32)]) (rest := []) (p' := 124) h em180_121 ((congrFun xo_12 218).trans rfl) xm_149 rfl rfl
    obtain ⟨hm, ⟨rfl, i1211, i1212, i1213⟩ | ⟨rfl, i1211⟩⟩ := ex_is hE121 (by decide)
    · rw [hm] at h
      replace h : eT xq_180 _ 124 [some (.inr (.inl (some 75))), some (.inl i)] [.inl (1 : Int32)] ω r μ' := h
      rcases tx_if (t := 134) (p' := 127) h em180_124 (by decide) rfl with ⟨c124, h⟩ | ⟨c124, h⟩
      · replace c124 : ¬ (1 : Int) = (0 : Int) := c124
        exact rp_134 h9 h
      · replace c124 : ¬ ¬ (1 : Int) = (0 : Int) := c124
        exfalso
        omega
    · rw [hm] at h
      replace h : eT xq_180 _ 124 [some (.inr (.inl (some 75))), some (.inl i)] [.inl (0 : Int32)] ω r μ' := h
      rcases tx_if (t := 134) (p' := 127) h em180_124 (by decide) rfl with ⟨c124_1, h⟩ | ⟨c124_1, h⟩
      · replace c124_1 : ¬ (0 : Int) = (0 : Int) := c124_1
        exfalso
        omega
      · replace c124_1 : ¬ ¬ (0 : Int) = (0 : Int) := c124_1
        replace h := tx_aload_n (p' := 128) h em180_127 rfl rfl
        obtain ⟨r128, μ128, hE128, h⟩ := tx_invV (na := 1) (mn := 219) (as := [.inr (.inl (some 75))]) (rest := []) (p' := 131) h em180_128 ((congrFun xo_12 245).trans rfl) xm_219 rfl rfl
        have hG128 := gR xm_219 (by decide +kernel) hE128
        have er128 := ex_void [0, 1, 4, 5, 8, 9, 60, 61, 62, 65, 66, 69, 70, 71, 74, 75, 78, 81, 82, 85, 88, 89, 90, 93, 94, 97, 98, 100, 103, 104, 107, 110, 111, 114, 117, 118, 121, 122, 125, 126, 127, 129, 132, 133, 136, 137, 140, 141, 144, 145, 146, 148, 151, 152, 155, 156, 159, 160, 163, 164, 165, 168, 171, 172, 175, 176, 179, 180, 183, 184, 186, 187, 188, 189, 192, 193, 196, 197, 200, 201, 203, 206, 207, 208, 211, 212, 215, 218, 219, 220, 223, 224, 225, 228, 229] (by decide +kernel) hE128
        subst er128
        replace h : eT xq_180 _ 131 [some (.inr (.inl (some 75))), some (.inl i)] [] μ128 r μ' := h
        obtain ⟨n2, hn2, h⟩ := tx_gotoS (t := 112) h em180_131 (by decide)
        exact ih n2 hn2 _ _ h (gR_at hG128 h9).1
set_option maxRecDepth 10000 in
set_option maxHeartbeats 4000000 in
theorem rp_36 {ω μ' : xM} {r : Option zV} (h9 : 119 ≤ ω.2.2.2) {n : Nat} {i : Int32} (h : eT xq_180 n 36 [some (.inr (.inl (some 75))), some (.inl i)] [] ω r μ') : ∃ x : Int32, r = some (.inl x) ∧ (x.toInt = 0 → (μ'.1 75 31).toInt = -1) := by
  replace h := tx_aload_n (p' := 37) h em180_36 rfl rfl
  replace h := tx_iconst (v := 0) (p' := 38) h em180_37 (by decide +kernel) rfl
  replace h := tx_putf (a := 75) (c := 12) (j := 12) (p' := 41) h em180_38 ((congrFun xo_12 163).trans rfl) rfl
  replace h := tx_aload_n (p' := 42) h em180_41 rfl rfl
  obtain ⟨r42, μ42, hE42, h⟩ := tx_invV (na := 1) (mn := 214) (as := [.inr (.inl (some 75))]) (rest := []) (p' := 45) h em180_42 ((congrFun xo_12 224).trans rfl) xm_214 rfl rfl
  have hG42 := gR xm_214 (by decide +kernel) hE42
  have er42 := ex_void [0, 1, 2, 5, 6, 7, 8, 11, 14, 17, 18, 19, 22, 23, 24, 25, 28, 31, 32, 33, 34, 37, 38, 39, 42, 43, 44, 46, 49, 50, 52, 55, 56, 58, 61, 62, 64, 67, 70, 73, 74, 77, 80, 81, 82, 83, 85, 86, 87, 88, 89, 92, 95, 98, 99, 101, 104, 106, 107, 108, 109, 110, 113, 116, 118, 121, 124, 125, 127, 130, 131, 134, 135, 137, 138, 140, 143, 144, 146, 148, 150, 153, 154, 157, 159, 160, 162, 163, 166, 168, 170, 171, 173, 176, 179, 180, 182, 183, 184, 186, 189, 190, 191, 192, 193, 196, 197, 200, 203, 204, 205, 206, 208, 209, 210, 211, 212, 215, 218, 221, 222, 223, 226, 228, 230, 231, 232, 233, 234, 235, 238, 239, 241, 242, 244, 247, 250, 251, 252, 253, 256, 257, 260, 261, 262, 264, 265, 268, 269, 270, 271, 272, 275, 276, 277, 278, 279, 280, 281, 282, 283, 286, 289, 290, 291, 294, 295] (by decide +kernel) hE42
  subst er42
  replace h : eT xq_180 _ 45 [some (.inr (.inl (some 75))), some (.inl i)] [] μ42 r μ' := h
  replace h := tx_aload_n (p' := 46) h em180_45 rfl rfl
  replace h := tx_iconst (v := 0) (p' := 47) h em180_46 (by decide +kernel) rfl
  replace h := tx_putf (a := 75) (c := 12) (j := 25) (p' := 50) h em180_47 ((congrFun xo_12 203).trans rfl) rfl
  replace h := tx_aload_n (p' := 51) h em180_50 rfl rfl
  replace h := tx_iconst (v := 0) (p' := 52) h em180_51 (by decide +kernel) rfl
  replace h := tx_putf (a := 75) (c := 12) (j := 26) (p' := 55) h em180_52 ((congrFun xo_12 227).trans rfl) rfl
  replace h := tx_aload_n (p' := 56) h em180_55 rfl rfl
  replace h := tx_iconst (v := 0) (p' := 57) h em180_56 (by decide +kernel) rfl
  replace h := tx_putf (a := 75) (c := 12) (j := 27) (p' := 60) h em180_57 ((congrFun xo_12 200).trans rfl) rfl
  replace h := tx_aload_n (p' := 61) h em180_60 rfl rfl
  replace h := tx_iconst (v := 0) (p' := 62) h em180_61 (by decide +kernel) rfl
  replace h := tx_putf (a := 75) (c := 12) (j := 29) (p' := 65) h em180_62 ((congrFun xo_12 209).trans rfl) rfl
  replace h := tx_aload_n (p' := 66) h em180_65 rfl rfl
  replace h := tx_iconst (v := 1) (p' := 67) h em180_66 (by decide +kernel) rfl
  replace h := tx_aload_n (p' := 68) h em180_67 rfl rfl
  replace h := tx_getf (c := 12) (j := 2) (p' := 71) h em180_68 ((congrFun xo_12 230).trans rfl) rfl rfl (by decide) rfl
  replace h : eT xq_180 _ 71 [some (.inr (.inl (some 75))), some (.inl i)] [.inl (μ42.1 75 2), .inl (1 : Int32), .inr (.inl (some 75))] (xpi (xpi (xpi (xpi μ42 75 25 (0 : Int32)) 75 26 (0 : Int32)) 75 27 (0 : Int32)) 75 29 (0 : Int32)) r μ' := h
  replace h := tx_isub (p' := 72) h em180_71 rfl
  replace h := tx_putf (a := 75) (c := 12) (j := 32) (p' := 75) h em180_72 ((congrFun xo_12 233).trans rfl) rfl
  replace h := tx_aload_n (p' := 76) h em180_75 rfl rfl
  replace h := tx_iconst (v := 0) (p' := 77) h em180_76 (by decide +kernel) rfl
  replace h := tx_putf (a := 75) (c := 12) (j := 33) (p' := 80) h em180_77 ((congrFun xo_12 236).trans rfl) rfl
  replace h := tx_aload_n (p' := 81) h em180_80 rfl rfl
  replace h := tx_aload_n (p' := 82) h em180_81 rfl rfl
  replace h := tx_getf (c := 12) (j := 32) (p' := 85) h em180_82 ((congrFun xo_12 233).trans rfl) rfl rfl (by decide) rfl
  replace h : eT xq_180 _ 85 [some (.inr (.inl (some 75))), some (.inl i)] [.inl ((1 : Int32) - (μ42.1 75 2)), .inr (.inl (some 75))] (xpi (xpi (xpi (xpi (xpi (xpi μ42 75 25 (0 : Int32)) 75 26 (0 : Int32)) 75 27 (0 : Int32)) 75 29 (0 : Int32)) 75 32 ((1 : Int32) - (μ42.1 75 2))) 75 33 (0 : Int32)) r μ' := h
  obtain ⟨r85, μ85, hE85, h⟩ := tx_invV (na := 2) (mn := 218) (as := [.inr (.inl (some 75)), .inl ((1 : Int32) - (μ42.1 75 2))]) (rest := []) (p' := 88) h em180_85 ((congrFun xo_12 149).trans rfl) xm_218 rfl rfl
  have hG85 := gR xm_218 (by decide +kernel) hE85
  have er85 := ex_void [0, 1, 4, 5, 6, 7, 8, 11, 12, 13, 14, 15, 18, 19, 21, 22, 23, 26, 27, 28, 29, 30, 33, 34, 35, 36, 37, 38, 39, 40, 43, 44, 47, 48, 49, 50, 51, 52, 53, 54, 55, 58, 59, 60, 61, 62, 63, 64, 65, 68, 71, 72] (by decide +kernel) hE85
  subst er85
  replace h : eT xq_180 _ 88 [some (.inr (.inl (some 75))), some (.inl i)] [] μ85 r μ' := h
  replace h := tx_aload_n (p' := 89) h em180_88 rfl rfl
  replace h := tx_sipush (v := 130) (p' := 92) h em180_89 (by decide +kernel) rfl
  replace h := tx_aload_n (p' := 93) h em180_92 rfl rfl
  replace h := tx_getf (c := 12) (j := 32) (p' := 96) h em180_93 ((congrFun xo_12 233).trans rfl) rfl rfl (by decide) rfl
  replace h := tx_imul (p' := 97) h em180_96 rfl
  replace h := tx_putf (a := 75) (c := 12) (j := 43) (p' := 100) h em180_97 ((congrFun xo_12 239).trans rfl) rfl
  replace h := tx_aload_n (p' := 101) h em180_100 rfl rfl
  replace h := tx_sipush (v := 420) (p' := 104) h em180_101 (by decide +kernel) rfl
  replace h := tx_aload_n (p' := 105) h em180_104 rfl rfl
  replace h := tx_getf (c := 12) (j := 32) (p' := 108) h em180_105 ((congrFun xo_12 233).trans rfl) rfl rfl (by decide) rfl
  replace h : eT xq_180 _ 108 [some (.inr (.inl (some 75))), some (.inl i)] [.inl (μ85.1 75 32), .inl (420 : Int32), .inr (.inl (some 75))] (xpi μ85 75 43 ((130 : Int32) * (μ85.1 75 32))) r μ' := h
  replace h := tx_imul (p' := 109) h em180_108 rfl
  replace h := tx_putf (a := 75) (c := 12) (j := 49) (p' := 112) h em180_109 ((congrFun xo_12 242).trans rfl) rfl
  exact rp_112 _ _ _ h (gR_at hG85 (gR_at hG42 h9).1).1
set_option maxRecDepth 10000 in
set_option maxHeartbeats 4000000 in
theorem rp_10 {μ' : xM} {r : Option zV} : ∀ (n : Nat) (i : Int32) (ω : xM), eT xq_180 n 10 [some (.inr (.inl (some 75))), some (.inl i)] [] ω r μ' → 119 ≤ ω.2.2.2 → ∃ x : Int32, r = some (.inl x) ∧ (x.toInt = 0 → (μ'.1 75 31).toInt = -1) := by
  intro n
  induction n using Nat.strongRecOn with
  | ind n ih =>
  intro i ω h h9
  replace h := tx_iload_n (p' := 11) h em180_10 rfl rfl
  replace h := tx_aload_n (p' := 12) h em180_11 rfl rfl
  replace h := tx_getf (c := 12) (j := 18) (p' := 15) h em180_12 ((congrFun xo_12 169).trans rfl) rfl rfl (by decide) rfl
  rcases tx_icmp (t := 36) (p' := 18) h em180_15 (by decide) rfl with ⟨c15, h⟩ | ⟨c15, h⟩
  · replace c15 : (ω.1 75 18).toInt ≤ i.toInt := c15
    exact rp_36 h9 h
  · replace c15 : ¬ (ω.1 75 18).toInt ≤ i.toInt := c15
    replace h := tx_aload_n (p' := 19) h em180_18 rfl rfl
    replace h := tx_getc (c := 12) (j := 17) (p' := 22) h em180_19 ((congrFun xo_12 17).trans rfl) rfl rfl rfl
    replace h := tx_iload_n (p' := 23) h em180_22 rfl rfl
    replace h := tx_aload_n (p' := 24) h em180_23 rfl rfl
    replace h := tx_getc (c := 12) (j := 13) (p' := 27) h em180_24 ((congrFun xo_12 13).trans rfl) rfl rfl rfl
    replace h := tx_iload_n (p' := 28) h em180_27 rfl rfl
    obtain ⟨hb28, h⟩ := tx_bald (len := 2000) (p' := 29) h em180_28 rfl rfl
    replace hb28 : (0 : Int) ≤ i.toInt ∧ i.toInt < 2000 := hb28
    obtain ⟨hb29, h⟩ := tx_bast (len := 2000) (p' := 30) h em180_29 rfl rfl
    replace hb29 : (0 : Int) ≤ i.toInt ∧ i.toInt < 2000 := hb29
    replace h := tx_iinc (v := 1) (p' := 33) h em180_30 (by decide +kernel) rfl rfl
    replace h : eT xq_180 _ 33 [some (.inr (.inl (some 75))), some (.inl (i + 1))] [] (xpi ω 77 i.toInt.toNat ((ω.1 76 i.toInt.toNat)).toInt8.toInt32) r μ' := h
    obtain ⟨n2, hn2, h⟩ := tx_gotoS (t := 10) h em180_33 (by decide)
    exact ih n2 hn2 _ _ h h9
set_option maxRecDepth 10000 in
set_option maxHeartbeats 4000000 in
theorem re_place {μ μ' : xM} {r : Option zV} (h0 : Ex gx xq_180 [.inr (.inl (some 75))] μ r μ') (h9 : 119 ≤ μ.2.2.2) : ∃ x : Int32, r = some (.inl x) ∧ (x.toInt = 0 → (μ'.1 75 31).toInt = -1) := by
  obtain ⟨n, h⟩ := tx_in (L := [some (.inr (.inl (some 75))), none]) h0 rfl
  replace h := tx_aload_n (p' := 1) h em180_0 rfl rfl
  replace h := tx_aload_n (p' := 2) h em180_1 rfl rfl
  replace h := tx_getf (c := 12) (j := 12) (p' := 5) h em180_2 ((congrFun xo_12 163).trans rfl) rfl rfl (by decide) rfl
  replace h := tx_putf (a := 75) (c := 12) (j := 18) (p' := 8) h em180_5 ((congrFun xo_12 169).trans rfl) rfl
  replace h := tx_iconst (v := 0) (p' := 9) h em180_8 (by decide +kernel) rfl
  replace h := tx_istore_n (p' := 10) h em180_9 rfl
  replace h : eT xq_180 _ 10 [some (.inr (.inl (some 75))), some (.inl (0 : Int32))] [] (xpi μ 75 18 (μ.1 75 12)) r μ' := h
  exact rp_10 _ _ _ h h9
/-- between the calls: the tapes are alike, and where the last fault was -/
def lwR (μ : xM) : Prop := lwT μ ∧ μ.1 0 9 = μ.1 75 31
theorem lwR_g {a b : Nat} {q q' : xP} {as as' : List zV} {r r' : Option zV} {μ μ1 μ2 : xM} (hq : xMB a = some q) (hl : gL a = true) (hq' : xMB b = some q') (hl' : gL b = true) (h : Ex gx q as μ r μ1) (h' : Ex gx q' as' μ1 r' μ2) (hT : lwT μ2) (hR : lwR μ) : lwR μ2 := by
  obtain ⟨a0, a1, a2⟩ := gR_at (gR hq hl h) hR.1.1
  obtain ⟨b0, b1, b2⟩ := gR_at (gR hq' hl' h') a0
  exact ⟨hT, by rw [b1, b2, a1, a2]; exact hR.2⟩
theorem lwR_2 {a b : Nat} {q q' : xP} {as as' : List zV} {r r' : Option zV} {μ μ1 μ2 : xM} (hq : xMB a = some q) (hl : (fL2 a && gL a) = true) (hq' : xMB b = some q') (hl' : (fL2 b && gL b) = true) (h : Ex gx q as μ r μ1) (h' : Ex gx q' as' μ1 r' μ2) (hR : lwR μ) : lwR μ2 := by
  rw [Bool.and_eq_true] at hl hl'
  exact lwR_g hq hl.2 hq' hl'.2 h h' (lwT_2 hq hl.1 hq' hl'.1 h h' hR.1) hR
theorem lwR_feed {a b d e f : Int32} {r r' : Option zV} {μ μ1 μ2 : xM} (h1 : Ex gx xq_81 [.inr (.inl (some 0)), .inl a, .inl b, .inl d, .inl e, .inl f] μ r μ1) (h2 : Ex gx xq_134 [.inr (.inl (some 75)), .inl a, .inl b, .inl d, .inl e, .inl f] μ1 r' μ2) (hR : lwR μ) : lwR μ2 := lwR_g xm_81 (by decide +kernel) xm_134 (by decide +kernel) h1 h2 (lwT_feed h1 h2 hR.1) hR
theorem lwR_back {a : Int32} {r r' : Option zV} {μ μ1 μ2 : xM} (h1 : Ex gx xq_72 [.inr (.inl (some 0)), .inl a] μ r μ1) (h2 : Ex gx xq_119 [.inr (.inl (some 75)), .inl a] μ1 r' μ2) (hR : lwR μ) : lwR μ2 := lwR_g xm_72 (by decide +kernel) xm_119 (by decide +kernel) h1 h2 (lwT_back h1 h2 hR.1) hR
theorem lwR_place {r r' : Option zV} {μ μ1 μ2 : xM} (h1 : Ex gx xq_97 [.inr (.inl (some 0))] μ r μ1) (h2 : Ex gx xq_177 [.inr (.inl (some 75))] μ1 r' μ2) (hR : lwR μ) : (∃ x : Int32, r = some (.inl x) ∧ r' = some (.inl x)) ∧ lwR μ2 := by
  obtain ⟨rfl, rfl⟩ := ex_cplace h1
  obtain ⟨rfl, rfl⟩ := ex_mplace h2
  exact ⟨⟨_, rfl, by rw [hR.2]⟩, hR⟩
/-- both read the same -/
theorem lwR_read {r r' : Option zV} {μ μ1 μ2 : xM} (h1 : Ex gx xq_98 [.inr (.inl (some 0))] μ r μ1) (h2 : Ex gx xq_180 [.inr (.inl (some 75))] μ1 r' μ2) (hR : lwR μ) : (∃ x : Int32, r = some (.inl x) ∧ r' = some (.inl x)) ∧ lwR μ2 := by
  obtain ⟨⟨c1, c2, c3, c4, c5, c6⟩, -⟩ := hR
  obtain ⟨x, ν, E, w, rfl, t1, t2, t3, t4, t5, t6, t7, t8, t9⟩ := ex_cread h1 c2
  obtain ⟨d1, d2, d3, d4, d5, d6⟩ := t8 c1
  have en : (μ1.1 75 12).toInt = (μ.1 0 6).toInt := by rw [d6, c3]
  obtain ⟨y, B, ν', m, S, w', rfl, u1, u2, u3, u4, u5, u6, u7, u8⟩ := ex_rread h2 d1 (by rw [en]; exact c2) (fun j hj => by rw [d3, c4]; exact c5 j) (fun j hj => by rw [d4]; exact c6 j hj)
  obtain ⟨v1, v2, v3, v4, v5, v6⟩ := u8 d1
  rw [en] at u1 u2
  have hB : ∀ i, 0 ≤ i → i < (μ.1 0 6).toInt → B i = kB μ 1 i := fun i i0 i1 => by
    rw [u1 i i0 i1]
    unfold kB
    rw [d3, c4]
  have hw := same_text hB t7 t2 t3 t4 u2 u3 u4 t5 u5
  have hxy : y = x := Int32.toInt_inj.mp (by rw [u6, t6]; exact hw.1)
  subst hxy
  obtain ⟨p1, p2⟩ := t9 c1
  obtain ⟨y2, e2, p3⟩ := re_place h2 d1
  cases e2
  have g1 := (gRb xm_180 (by decide +kernel) h2 d1).2 (0, 11, 9) (by decide)
  have g1 : μ2.1 0 9 = μ1.1 0 9 := g1
  have hpl : μ2.1 0 9 = μ2.1 75 31 := by
    refine Int32.toInt_inj.mp ?_
    rw [g1]
    by_cases q : (rTx ν' 401 0 0 0 [] w').1 = 0
    · rw [p1 (u6.trans q), p3 (u6.trans q)]
    · rw [p2 (fun z => q (u6.symm.trans z)), u7 q]
      exact (hw.2 (fun z => q (u6.symm.trans (t6.trans z)))).symm
  refine ⟨⟨_, rfl, rfl⟩, ⟨v1, ?_, ?_, fun j => ?_, fun j => ?_, fun j hj => ?_⟩, hpl⟩
  · rw [v5, d5]; decide
  · rw [v6, v5, d5]
  · rw [v3, v2, d3, d2]; exact c4 j
  · rw [v2, d2]; exact c5 j
  · rw [v4, d4]; exact c6 j hj
