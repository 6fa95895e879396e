theorem dec99v {x : Int} (h : 0 ≤ x) : decide (x < (0 : Int32).toInt ∨ (99 : Int32).toInt < x) = decide (99 < x) :=
  decide_eq_decide.mpr ⟨fun q => q.elim (fun q => absurd q (by show ¬ _ < (0 : Int); omega)) id, Or.inr⟩
/-- behind the loop over a verse's letters -/
def vEn_ (ω0 μ' : xM) (U : Nat) (l : List Int) : Prop := hOK μ' ∧ (μ'.1 13 1).toInt = (ω0.1 13 1).toInt + 1 ∧ (∀ j, j ≠ 1 → μ'.1 13 j = ω0.1 13 j) ∧ (∀ k j, 14 ≤ k → k ≤ 22 → k ≠ 18 → k ≠ 19 → μ'.1 k j = ω0.1 k j) ∧ (∀ j : Nat, (j < 8 * U ∨ 8 * U + 8 ≤ j) → μ'.1 18 j = ω0.1 18 j) ∧ (∀ i : Nat, i < l.length → (μ'.1 18 (8 * U + i)).toInt = l.getD i 0) ∧ ∀ w x : Nat, w < 7 → x < 8 → (μ'.1 19 (8 * w + x)).toInt = (ω0.1 19 (8 * w + x)).toInt + (if w = U then kCt l x else 0)
theorem kc_verse_f {K vl : Int → Int} {lt : Int → List Int} {lw : Int → kLw} {a : Int} {S : kSt} {μ ω0 μ' : xM} {U : Nat} {v1 v2 v3 : Int32} (hk : K a = 129) (hU : cU μ = (U : Int)) (hU6 : U ≤ 6) (hC : sC 13 S μ) (hW8 : ∀ w, (kV S w).1.length ≤ 8) (h0 : ∀ k j, 13 ≤ k → k ≤ 22 → k ≠ 15 → k ≠ 16 → k ≠ 17 → ω0.1 k j = μ.1 k j) (h15 : ∀ w, ω0.1 15 w = if w = U then v1 else μ.1 15 w) (h16 : ∀ w, ω0.1 16 w = if w = U then v2 else μ.1 16 w) (h17 : ∀ w, ω0.1 17 w = if w = U then v3 else μ.1 17 w) (e1 : v1.toInt = vl (a + 3)) (e2 : v2.toInt = vl (a + 4)) (e3 : v3.toInt = (lt (a + 2)).length) (hl8 : (lt (a + 2)).length ≤ 8) (h : vEn_ ω0 μ' U (lt (a + 2))) : sC 13 (kStep K lt vl lw a S) μ' := by
  obtain ⟨g0, g1, g2, g3, g4, g5, g6⟩ := h
  obtain ⟨⟨a1, a2, a3, a4, a5⟩, b, d, e⟩ := hC
  unfold kStep
  rw [if_neg (by omega), if_pos hk]
  have hL : U = S.2.1.length := by have : cU μ = (S.2.1.length : Int) := a2; omega
  have kv : ∀ w, kV (S.1, S.2.1 ++ [(lt (a + 2), vl (a + 3), vl (a + 4))], S.2.2) w = if w < U then kV S w else if w = U then (lt (a + 2), vl (a + 3), vl (a + 4)) else ([], 0, 0) := fun w => by
    unfold kV
    rw [hL]
    exact kGd
  have kd : ∀ w, ¬ w < U → kV S w = ([], 0, 0) := fun w hw => by
    unfold kV
    rw [List.getD_eq_getElem?_getD, List.getElem?_eq_none (by omega)]
    rfl
  refine ⟨⟨?_, ?_, ?_, ?_, ?_⟩, fun h l x y => ?_, fun w hw => ?_, fun w l x y => ?_⟩
  · rw [g2 0 (by decide), h0 13 0 (by decide) (by decide) (by decide) (by decide) (by decide)]; exact a1
  · rw [g1, h0 13 1 (by decide) (by decide) (by decide) (by decide) (by decide), a2]
    show _ = (((S.2.1 ++ [(lt (a + 2), vl (a + 3), vl (a + 4))]).length : Nat) : Int)
    rw [List.length_append]; rfl
  · rw [g2 4 (by decide), h0 13 4 (by decide) (by decide) (by decide) (by decide) (by decide)]; exact a3
  · rw [g2 2 (by decide), h0 13 2 (by decide) (by decide) (by decide) (by decide) (by decide)]; exact a4
  · rw [g2 3 (by decide), h0 13 3 (by decide) (by decide) (by decide) (by decide) (by decide)]; exact a5
  · rw [g3 14 _ (by decide) (by decide) (by decide) (by decide), h0 14 _ (by decide) (by decide) (by decide) (by decide) (by decide)]; exact b h l x y
  · have hw2 : w < U + 1 := by
      have : w < (S.2.1 ++ [(lt (a + 2), vl (a + 3), vl (a + 4))]).length := hw
      rw [List.length_append] at this
      have e1 : [(lt (a + 2), vl (a + 3), vl (a + 4))].length = 1 := rfl
      omega
    rw [kv w, g3 15 _ (by decide) (by decide) (by decide) (by decide), g3 16 _ (by decide) (by decide) (by decide) (by decide), g3 17 _ (by decide) (by decide) (by decide) (by decide), h15 w, h16 w, h17 w]
    by_cases q : w < U
    · rw [if_pos q, if_neg (by omega), if_neg (by omega), if_neg (by omega)]
      obtain ⟨d1, d2, d3, d4⟩ := d w (by omega)
      refine ⟨d1, d2, d3, fun i hi => ?_⟩
      have hi8 : i < 8 := by
        by_cases q9 : i < 8
        · exact q9
        · exfalso
          exact absurd hi (by have := hW8 w; omega)
      rw [g4 _ (Or.inl (by omega)), h0 18 _ (by decide) (by decide) (by decide) (by decide) (by decide)]
      exact d4 i hi
    · have e9 : w = U := by omega
      rw [if_neg q, if_pos e9, if_pos e9, if_pos e9, if_pos e9]
      refine ⟨e1, e2, e3, fun i hi => ?_⟩
      rw [e9]
      exact g5 i hi
  · rw [g6 w l x y, h0 19 _ (by decide) (by decide) (by decide) (by decide) (by decide), e w l x y, kv w]
    by_cases q : w < U
    · rw [if_pos q, if_neg (by omega)]; omega
    · rw [if_neg q, kd w q, kCt_0]
      by_cases q2 : w = U
      · rw [if_pos q2, if_pos q2]
        show _ = kCt (lt (a + 2)) _
        omega
      · rw [if_neg q2, if_neg q2, kCt_0]; rfl
set_option maxRecDepth 10000 in
set_option maxHeartbeats 4000000 in
theorem kc_verse {e : Int} {lw : Int → kLw} {S : kSt} {μ μ' : xM} {r : Option zV} (h0 : Ex gx xq_20 [.inr (.inl (some 12))] μ r μ') (ha0 : 0 ≤ cA μ) (ha : cA μ ≤ e) (ht : cTV μ e) (hn : nmI e μ) (hO : hOK μ) (hs : (pTell (cK μ) (cH μ) (cU μ) (cA μ)).2 = 0) (hC : sC 13 S μ) (hkk : cK μ (cA μ) = 129) (hU6 : cU μ ≤ 6) (hW8 : ∀ w, (kV S w).1.length ≤ 8) (hcl : ∀ i : Nat, (i : Int) < cS μ (cA μ + 2) → cB μ (cA μ + 2) i ≤ 104) : sC 13 (kStep (cK μ) (cT μ) (cV μ) lw (cA μ) S) μ' := by
  obtain ⟨n, h⟩ := tx_in (L := [some (.inr (.inl (some 12))), none, none, none, none]) h0 rfl
  have hG0 : pE μ μ := pE_rf
  have hT0 := ht
  have h400 := ht.1
  have e1i : (1 : Int32).toInt = 1 := by decide
  have e2i : (2 : Int32).toInt = 2 := by decide
  have e3i : (3 : Int32).toInt = 3 := by decide
  have e4i : (4 : Int32).toInt = 4 := by decide
  have o1 : ((μ.1 12 3) + 1).toInt = cA μ + 1 := by unfold cA at *; rw [an_add (by rw [e1i]; omega) (by rw [e1i]; omega), e1i]
  have o2 : ((μ.1 12 3) + 2).toInt = cA μ + 2 := by unfold cA at *; rw [an_add (by rw [e2i]; omega) (by rw [e2i]; omega), e2i]
  have o3 : ((μ.1 12 3) + 3).toInt = cA μ + 3 := by unfold cA at *; rw [an_add (by rw [e3i]; omega) (by rw [e3i]; omega), e3i]
  have o4 : ((μ.1 12 3) + 4).toInt = cA μ + 4 := by unfold cA at *; rw [an_add (by rw [e4i]; omega) (by rw [e4i]; omega), e4i]
  have loop : ∀ (U : Nat) (vn : Int32) (ω0 : xM), cK μ (cA μ + 2) = 2 → cA μ + 2 ≤ e → U ≤ 6 → vn.toInt = (U : Int) → (ω0.1 13 1).toInt = (U : Int) → (ω0.1 17 U).toInt = cS μ (cA μ + 2) → (∀ x : Nat, x < 8 → (ω0.1 19 (8 * U + x)).toInt = 0) → (∀ k : Nat, (k : Int) < cS μ (cA μ + 2) → 0 ≤ cB μ (cA μ + 2) k - 97 ∧ cB μ (cA μ + 2) k - 97 ≤ 7) → ∀ (n : Nat) (i : Int32) (ω : xM) {o : Option zV}, eT xq_20 n 175 [some (.inr (.inl (some 12))), some (.inl (μ.1 12 3)), some (.inl vn), some (.inl i), o] [] ω r μ' → gE μ ω → hOK ω → 0 ≤ i.toInt → i.toInt ≤ cS μ (cA μ + 2) → (∀ k j, 13 ≤ k → k ≤ 22 → k ≠ 18 → k ≠ 19 → ω.1 k j = ω0.1 k j) → (∀ j : Nat, (j < 8 * U ∨ 8 * U + 8 ≤ j) → ω.1 18 j = ω0.1 18 j) → (∀ k : Nat, k < i.toInt.toNat → (ω.1 18 (8 * U + k)).toInt = cB μ (cA μ + 2) k - 97) → (∀ w x : Nat, w < 7 → x < 8 → (ω.1 19 (8 * w + x)).toInt = (ω0.1 19 (8 * w + x)).toInt + (if w = U then kCt ((List.range i.toInt.toNat).map (fun i => cB μ (cA μ + 2) i - 97)) x else 0)) → vEn_ ω0 μ' U (cT μ (cA μ + 2)) := by
    intro U vn ω0 hk2 ho2 hU6 hvn hv0 h17 hB0 hlt n
    have h8 := (ht.2.2 (cA μ + 2) (by omega) (by omega)).2.2 hk2
    induction n using Nat.strongRecOn with
    | ind n ih =>
    intro i ω o h hGω hOω hi0 hiS w1 w2 w3 w4
    replace h := tx_iload_n (p' := 176) h em20_175 rfl rfl
    replace h := tx_bipush (v := 8) (p' := 178) h em20_176 (by decide +kernel) rfl
    rcases tx_icmp (t := 257) (p' := 181) h em20_178 (by decide) rfl with ⟨c178, h⟩ | ⟨c178, h⟩
    · replace c178 : 8 ≤ i.toInt := c178
      replace h := tx_aload_n (p' := 258) h em20_257 rfl rfl
      replace h := tx_getc (c := 2) (j := 0) (p' := 261) h em20_258 ((congrFun xo_3 12).trans rfl) rfl rfl rfl
      replace h := tx_dup (p' := 262) h em20_261 rfl
      replace h := tx_getf (c := 6) (j := 1) (p' := 265) h em20_262 ((congrFun xo_3 112).trans rfl) rfl rfl (by decide) rfl
      replace h := tx_iconst (v := 1) (p' := 266) h em20_265 (by decide +kernel) rfl
      replace h := tx_iadd (p' := 267) h em20_266 rfl
      replace h := tx_putf (a := 13) (c := 6) (j := 1) (p' := 270) h em20_267 ((congrFun xo_3 112).trans rfl) rfl
      obtain ⟨rfl, hμ⟩ := tx_return h em20_270
      have eU : (ω.1 13 1).toInt = (ω0.1 13 1).toInt := by rw [w1 13 1 (by decide) (by decide) (by decide) (by decide)]
      have ev : (ω.1 13 1 + 1).toInt = (ω0.1 13 1).toInt + 1 := by rw [an_add (by rw [e1i, eU, hv0]; omega) (by rw [e1i, eU, hv0]; omega), e1i, eU]
      have eis : cS μ (cA μ + 2) = i.toInt := by omega
      have eL : cT μ (cA μ + 2) = (List.range i.toInt.toNat).map (fun i => cB μ (cA μ + 2) i - 97) := by
        unfold cT
        rw [eis]
      rw [hμ, eL]
      refine ⟨hOω, by rw [xpi_at]; exact ev, fun j hj => (xpi_ne (fun q => hj q.2)).trans (w1 13 j (by decide) (by decide) (by decide) (by decide)), fun k j a b c d => (xpi_ne (fun q => by omega)).trans (w1 k j (by omega) b c d), fun j hj => (xpi_ne (fun q => absurd q.1 (by decide))).trans (w2 j hj), fun k hk => ?_, fun w x hw hx => (congrArg Int32.toInt (xpi_ne (fun q => absurd q.1 (by decide)))).trans (w4 w x hw hx)⟩
      rw [List.length_map, List.length_range] at hk
      rw [xpi_ne (fun q => absurd q.1 (by decide)), kMp hk]
      exact w3 k hk
    · replace c178 : ¬ 8 ≤ i.toInt := c178
      replace h := tx_iload_n (p' := 182) h em20_181 rfl rfl
      replace h := tx_aload_n (p' := 183) h em20_182 rfl rfl
      replace h := tx_getc (c := 2) (j := 0) (p' := 186) h em20_183 ((congrFun xo_3 12).trans rfl) rfl rfl rfl
      replace h := tx_getc (c := 6) (j := 8) (p' := 189) h em20_186 ((congrFun xo_3 125).trans rfl) rfl rfl rfl
      replace h := tx_iload_n (p' := 190) h em20_189 rfl rfl
      obtain ⟨hb190, h⟩ := tx_iald (len := 7) (p' := 191) h em20_190 rfl rfl
      replace hb190 : (0 : Int) ≤ vn.toInt ∧ vn.toInt < 7 := hb190
      have hx17 : (ω.1 17 vn.toInt.toNat).toInt = cS μ (cA μ + 2) := by rw [w1 17 _ (by decide) (by decide) (by decide) (by decide), hvn, Int.toNat_natCast]; exact h17
      rcases tx_icmp (t := 257) (p' := 194) h em20_191 (by decide) rfl with ⟨c191, h⟩ | ⟨c191, h⟩
      · replace c191 : (ω.1 17 vn.toInt.toNat).toInt ≤ i.toInt := c191
        replace h := tx_aload_n (p' := 258) h em20_257 rfl rfl
        replace h := tx_getc (c := 2) (j := 0) (p' := 261) h em20_258 ((congrFun xo_3 12).trans rfl) rfl rfl rfl
        replace h := tx_dup (p' := 262) h em20_261 rfl
        replace h := tx_getf (c := 6) (j := 1) (p' := 265) h em20_262 ((congrFun xo_3 112).trans rfl) rfl rfl (by decide) rfl
        replace h := tx_iconst (v := 1) (p' := 266) h em20_265 (by decide +kernel) rfl
        replace h := tx_iadd (p' := 267) h em20_266 rfl
        replace h := tx_putf (a := 13) (c := 6) (j := 1) (p' := 270) h em20_267 ((congrFun xo_3 112).trans rfl) rfl
        obtain ⟨rfl, hμ⟩ := tx_return h em20_270
        have eU : (ω.1 13 1).toInt = (ω0.1 13 1).toInt := by rw [w1 13 1 (by decide) (by decide) (by decide) (by decide)]
        have ev : (ω.1 13 1 + 1).toInt = (ω0.1 13 1).toInt + 1 := by rw [an_add (by rw [e1i, eU, hv0]; omega) (by rw [e1i, eU, hv0]; omega), e1i, eU]
        have eis : cS μ (cA μ + 2) = i.toInt := by omega
        have eL : cT μ (cA μ + 2) = (List.range i.toInt.toNat).map (fun i => cB μ (cA μ + 2) i - 97) := by
          unfold cT
          rw [eis]
        rw [hμ, eL]
        refine ⟨hOω, by rw [xpi_at]; exact ev, fun j hj => (xpi_ne (fun q => hj q.2)).trans (w1 13 j (by decide) (by decide) (by decide) (by decide)), fun k j a b c d => (xpi_ne (fun q => by omega)).trans (w1 k j (by omega) b c d), fun j hj => (xpi_ne (fun q => absurd q.1 (by decide))).trans (w2 j hj), fun k hk => ?_, fun w x hw hx => (congrArg Int32.toInt (xpi_ne (fun q => absurd q.1 (by decide)))).trans (w4 w x hw hx)⟩
        rw [List.length_map, List.length_range] at hk
        rw [xpi_ne (fun q => absurd q.1 (by decide)), kMp hk]
        exact w3 k hk
      · replace c191 : ¬ (ω.1 17 vn.toInt.toNat).toInt ≤ i.toInt := c191
        replace h := tx_aload_n (p' := 195) h em20_194 rfl rfl
        replace h := tx_iload_n (p' := 196) h em20_195 rfl rfl
        replace h := tx_iconst (v := 2) (p' := 197) h em20_196 (by decide +kernel) rfl
        replace h := tx_iadd (p' := 198) h em20_197 rfl
        replace h := tx_iload_n (p' := 199) h em20_198 rfl rfl
        obtain ⟨r199, μ199, hE199, h⟩ := tx_invV (na := 3) (mn := 237) (as := [.inr (.inl (some 12)), .inl ((μ.1 12 3) + (2 : Int32)), .inl i]) (rest := []) (p' := 202) h em20_199 ((congrFun xo_3 105).trans rfl) xm_237 rfl rfl
        obtain ⟨lv, rfl, hlv, hm⟩ := ex_letterOf hE199 (gE_TV hGω ht) (by omega) (by omega) (by rw [gE_K hGω, o2]; exact hk2) (by omega) (by rw [o2, gE_S hGω]; omega)
        rw [hm] at h
        rw [o2, gE_B hGω] at hlv
        have hlr := hlt i.toInt.toNat (by omega)
        replace h : eT xq_20 _ 202 [some (.inr (.inl (some 12))), some (.inl (μ.1 12 3)), some (.inl vn), some (.inl i), o] [.inl lv] ω r μ' := h
        replace h := tx_istore (p' := 204) h em20_202 rfl
        replace h : eT xq_20 _ 204 [some (.inr (.inl (some 12))), some (.inl (μ.1 12 3)), some (.inl vn), some (.inl i), some (.inl lv)] [] ω r μ' := h
        replace h := tx_iload (p' := 206) h em20_204 rfl rfl
        rcases tx_if (t := 251) (p' := 209) h em20_206 (by decide) rfl with ⟨c206, h⟩ | ⟨c206, h⟩
        · replace c206 : lv.toInt < 0 := c206
          replace h := tx_iinc (v := 1) (p' := 254) h em20_251 (by decide +kernel) rfl rfl
          replace h : eT xq_20 _ 254 [some (.inr (.inl (some 12))), some (.inl (μ.1 12 3)), some (.inl vn), some (.inl (i + 1)), some (.inl lv)] [] ω r μ' := h
          obtain ⟨n2, hn2, h⟩ := tx_gotoS (t := 175) h em20_254 (by decide)
          exfalso
          omega
        · replace c206 : ¬ lv.toInt < 0 := c206
          replace h := tx_iload (p' := 211) h em20_209 rfl rfl
          replace h := tx_bipush (v := 8) (p' := 213) h em20_211 (by decide +kernel) rfl
          rcases tx_icmp (t := 251) (p' := 216) h em20_213 (by decide) rfl with ⟨c213, h⟩ | ⟨c213, h⟩
          · replace c213 : 8 ≤ lv.toInt := c213
            replace h := tx_iinc (v := 1) (p' := 254) h em20_251 (by decide +kernel) rfl rfl
            replace h : eT xq_20 _ 254 [some (.inr (.inl (some 12))), some (.inl (μ.1 12 3)), some (.inl vn), some (.inl (i + 1)), some (.inl lv)] [] ω r μ' := h
            obtain ⟨n2, hn2, h⟩ := tx_gotoS (t := 175) h em20_254 (by decide)
            exfalso
            omega
          · replace c213 : ¬ 8 ≤ lv.toInt := c213
            replace h := tx_aload_n (p' := 217) h em20_216 rfl rfl
            replace h := tx_getc (c := 2) (j := 0) (p' := 220) h em20_217 ((congrFun xo_3 12).trans rfl) rfl rfl rfl
            replace h := tx_getc (c := 6) (j := 9) (p' := 223) h em20_220 ((congrFun xo_3 128).trans rfl) rfl rfl rfl
            replace h := tx_iload_n (p' := 224) h em20_223 rfl rfl
            replace h := tx_bipush (v := 8) (p' := 226) h em20_224 (by decide +kernel) rfl
            replace h := tx_imul (p' := 227) h em20_226 rfl
            replace h := tx_iload_n (p' := 228) h em20_227 rfl rfl
            replace h := tx_iadd (p' := 229) h em20_228 rfl
            replace h := tx_iload (p' := 231) h em20_229 rfl rfl
            obtain ⟨hb231, h⟩ := tx_iast (len := 56) (p' := 232) h em20_231 rfl rfl
            replace hb231 : (0 : Int) ≤ ((vn * (8 : Int32)) + i).toInt ∧ ((vn * (8 : Int32)) + i).toInt < 56 := hb231
            replace h := tx_aload_n (p' := 233) h em20_232 rfl rfl
            replace h := tx_getc (c := 2) (j := 0) (p' := 236) h em20_233 ((congrFun xo_3 12).trans rfl) rfl rfl rfl
            replace h := tx_getc (c := 6) (j := 10) (p' := 239) h em20_236 ((congrFun xo_3 131).trans rfl) rfl rfl rfl
            replace h := tx_iload_n (p' := 240) h em20_239 rfl rfl
            replace h := tx_bipush (v := 8) (p' := 242) h em20_240 (by decide +kernel) rfl
            replace h := tx_imul (p' := 243) h em20_242 rfl
            replace h := tx_iload (p' := 245) h em20_243 rfl rfl
            replace h := tx_iadd (p' := 246) h em20_245 rfl
            replace h := tx_dup2 (p' := 247) h em20_246 rfl
            obtain ⟨hb247, h⟩ := tx_iald (len := 56) (p' := 248) h em20_247 rfl rfl
            replace hb247 : (0 : Int) ≤ ((vn * (8 : Int32)) + lv).toInt ∧ ((vn * (8 : Int32)) + lv).toInt < 56 := hb247
            replace h : eT xq_20 _ 248 [some (.inr (.inl (some 12))), some (.inl (μ.1 12 3)), some (.inl vn), some (.inl i), some (.inl lv)] [.inl (ω.1 19 ((vn * (8 : Int32)) + lv).toInt.toNat), .inl ((vn * (8 : Int32)) + lv), .inr (.inl (some 19))] (xpi ω 18 ((vn * (8 : Int32)) + i).toInt.toNat lv) r μ' := h
            replace h := tx_iconst (v := 1) (p' := 249) h em20_248 (by decide +kernel) rfl
            replace h := tx_iadd (p' := 250) h em20_249 rfl
            obtain ⟨hb250, h⟩ := tx_iast (len := 56) (p' := 251) h em20_250 rfl rfl
            replace hb250 : (0 : Int) ≤ ((vn * (8 : Int32)) + lv).toInt ∧ ((vn * (8 : Int32)) + lv).toInt < 56 := hb250
            replace h := tx_iinc (v := 1) (p' := 254) h em20_251 (by decide +kernel) rfl rfl
            replace h : eT xq_20 _ 254 [some (.inr (.inl (some 12))), some (.inl (μ.1 12 3)), some (.inl vn), some (.inl (i + 1)), some (.inl lv)] [] (xpi (xpi ω 18 ((vn * (8 : Int32)) + i).toInt.toNat lv) 19 ((vn * (8 : Int32)) + lv).toInt.toNat ((ω.1 19 ((vn * (8 : Int32)) + lv).toInt.toNat) + (1 : Int32))) r μ' := h
            obtain ⟨n2, hn2, h⟩ := tx_gotoS (t := 175) h em20_254 (by decide)
            have hi1 : (i + 1).toInt = i.toInt + 1 := by rw [an_add (by rw [e1i]; omega) (by rw [e1i]; omega), e1i]
            have hn1 : (i + 1).toInt.toNat = i.toInt.toNat + 1 := by omega
            have e8 : (8 : Int32).toInt = 8 := by decide
            have em : (vn * (8 : Int32)).toInt = (U : Int) * 8 := by rw [an_mul (by rw [hvn, e8]; omega) (by rw [hvn, e8]; omega), hvn, e8]
            have ea : (vn * (8 : Int32) + lv).toInt = (U : Int) * 8 + lv.toInt := by rw [an_add (by rw [em]; omega) (by rw [em]; omega), em]
            have ea2 : (vn * (8 : Int32) + i).toInt = (U : Int) * 8 + i.toInt := by rw [an_add (by rw [em]; omega) (by rw [em]; omega), em]
            have ei : (vn * (8 : Int32) + lv).toInt.toNat = 8 * U + lv.toInt.toNat := by rw [ea]; omega
            have ei2 : (vn * (8 : Int32) + i).toInt.toNat = 8 * U + i.toInt.toNat := by rw [ea2]; omega
            have eo := w4 U lv.toInt.toNat (by omega) (by omega)
            rw [if_pos rfl, hB0 lv.toInt.toNat (by omega)] at eo
            have hb := kCt_nn (l := (List.range i.toInt.toNat).map (fun i => cB μ (cA μ + 2) i - 97)) (x := ((lv.toInt.toNat : Nat) : Int))
            rw [List.length_map, List.length_range] at hb
            have ev : (ω.1 19 (8 * U + lv.toInt.toNat) + 1).toInt = (ω.1 19 (8 * U + lv.toInt.toNat)).toInt + 1 := by rw [an_add (by rw [e1i, eo]; omega) (by rw [e1i, eo]; omega), e1i]
            rw [ei, ei2] at h
            refine ih n2 hn2 _ _ h (gE_i (gE_i hGω (by decide)) (by decide)) hOω (by omega) (by rw [hi1]; omega) (fun k j a b c d => (xpi_ne (fun q => d q.1)).trans ((xpi_ne (fun q => c q.1)).trans (w1 k j a b c d))) (fun j hj => ?_) (fun k hk => ?_) (fun w x hw hx => ?_)
            · rw [xpi_ne (fun q => absurd q.1 (by decide)), xpi_ne (fun q => by omega)]
              exact w2 j hj
            · rw [xpi_ne (fun q => absurd q.1 (by decide))]
              by_cases q : k = i.toInt.toNat
              · rw [q, xpi_at]; omega
              · rw [xpi_ne (fun z => q (by omega))]
                exact w3 k (by omega)
            · rw [hn1, kCt_s]
              by_cases q : w = U ∧ x = lv.toInt.toNat
              · obtain ⟨rfl, rfl⟩ := q
                rw [xpi_at, ev, w4 _ _ hw hx, if_pos rfl, if_pos rfl, if_pos (by omega)]
                omega
              · rw [xpi_ne (fun z => q (by omega)), xpi_ne (fun z => absurd z.1 (by decide)), w4 w x hw hx]
                by_cases q2 : w = U
                · rw [if_pos q2, if_pos q2, if_neg (fun z => q (by omega))]; omega
                · rw [if_neg q2, if_neg q2]
  replace h := tx_aload_n (p' := 1) h em20_0 rfl rfl
  replace h := tx_getc (c := 2) (j := 0) (p' := 4) h em20_1 ((congrFun xo_3 12).trans rfl) rfl rfl rfl
  replace h := tx_getf (c := 6) (j := 1) (p' := 7) h em20_4 ((congrFun xo_3 112).trans rfl) rfl rfl (by decide) rfl
  replace h := tx_bipush (v := 7) (p' := 9) h em20_7 (by decide +kernel) rfl
  rcases tx_icmp (t := 19) (p' := 12) h em20_9 (by decide) rfl with ⟨c9, h⟩ | ⟨c9, h⟩
  · replace c9 : (μ.1 13 1).toInt < 7 := c9
    replace h := tx_aload_n (p' := 20) h em20_19 rfl rfl
    replace h := tx_getf (c := 2) (j := 3) (p' := 23) h em20_20 ((congrFun xo_3 40).trans rfl) rfl rfl (by decide) rfl
    replace h := tx_istore_n (p' := 24) h em20_23 rfl
    replace h : eT xq_20 _ 24 [some (.inr (.inl (some 12))), some (.inl (μ.1 12 3)), none, none, none] [] μ r μ' := h
    replace h := tx_aload_n (p' := 25) h em20_24 rfl rfl
    replace h := tx_sipush (v := 129) (p' := 28) h em20_25 (by decide +kernel) rfl
    obtain ⟨r28, μ28, hE28, h⟩ := tx_invV (na := 2) (mn := 9) (as := [.inr (.inl (some 12)), .inl (129 : Int32)]) (rest := []) (p' := 31) h em20_28 ((congrFun xo_3 89).trans rfl) xm_9 rfl rfl
    have hS28 := sE_w (μ := μ) (by decide +kernel) (hf_9_0 hE28 (hEn0 (by decide)) hO).2 hO
    obtain ⟨hg28, ⟨rfl, a28l, a28e, a28x, a284, a285⟩ | ⟨rfl, p28, f28, a28x, a28f, a284, a285⟩⟩ := st_acc (e := e) (k0 := 129) hE28 (by omega) (by omega) hT0 (by decide) (by decide)
    · have hG28 := pE_tr hG0 hg28
      have hT28 := pE_TV hG28 ht
      replace h : eT xq_20 _ 31 [some (.inr (.inl (some 12))), some (.inl (μ.1 12 3)), none, none, none] [.inl (1 : Int32)] μ28 r μ' := h
      rcases tx_if (t := 75) (p' := 34) h em20_31 (by decide) rfl with ⟨c31, h⟩ | ⟨c31, h⟩
      · replace c31 : (1 : Int) = (0 : Int) := c31
        exfalso
        omega
      · replace c31 : ¬ (1 : Int) = (0 : Int) := c31
        replace h := tx_aload_n (p' := 35) h em20_34 rfl rfl
        replace h := tx_iconst (v := 2) (p' := 36) h em20_35 (by decide +kernel) rfl
        obtain ⟨r36, μ36, hE36, h⟩ := tx_invV (na := 2) (mn := 9) (as := [.inr (.inl (some 12)), .inl (2 : Int32)]) (rest := []) (p' := 39) h em20_36 ((congrFun xo_3 89).trans rfl) xm_9 rfl rfl
        have hS36 := sE_w (μ := μ28) (by decide +kernel) (hf_9_0 hE36 (hEn0 (by decide)) hS28.1).2 hS28.1
        obtain ⟨hg36, ⟨rfl, a36l, a36e, a36x, a364, a365⟩ | ⟨rfl, p36, f36, a36x, a36f, a364, a365⟩⟩ := st_acc (e := e) (k0 := 2) hE36 (by omega) (by omega) hT28 (by decide) (by decide)
        · have hG36 := pE_tr hG28 hg36
          have hT36 := pE_TV hG36 ht
          rw [pE_Kf hG28] at a36x
          replace h : eT xq_20 _ 39 [some (.inr (.inl (some 12))), some (.inl (μ.1 12 3)), none, none, none] [.inl (1 : Int32)] μ36 r μ' := h
          rcases tx_if (t := 75) (p' := 42) h em20_39 (by decide) rfl with ⟨c39, h⟩ | ⟨c39, h⟩
          · replace c39 : (1 : Int) = (0 : Int) := c39
            exfalso
            omega
          · replace c39 : ¬ (1 : Int) = (0 : Int) := c39
            replace h := tx_aload_n (p' := 43) h em20_42 rfl rfl
            replace h := tx_iconst (v := 2) (p' := 44) h em20_43 (by decide +kernel) rfl
            obtain ⟨r44, μ44, hE44, h⟩ := tx_invV (na := 2) (mn := 9) (as := [.inr (.inl (some 12)), .inl (2 : Int32)]) (rest := []) (p' := 47) h em20_44 ((congrFun xo_3 89).trans rfl) xm_9 rfl rfl
            have hS44 := sE_w (μ := μ36) (by decide +kernel) (hf_9_0 hE44 (hEn0 (by decide)) hS36.1).2 hS36.1
            obtain ⟨hg44, ⟨rfl, a44l, a44e, a44x, a444, a445⟩ | ⟨rfl, p44, f44, a44x, a44f, a444, a445⟩⟩ := st_acc (e := e) (k0 := 2) hE44 (by omega) (by omega) hT36 (by decide) (by decide)
            · have hG44 := pE_tr hG36 hg44
              have hT44 := pE_TV hG44 ht
              rw [pE_Kf hG36] at a44x
              replace h : eT xq_20 _ 47 [some (.inr (.inl (some 12))), some (.inl (μ.1 12 3)), none, none, none] [.inl (1 : Int32)] μ44 r μ' := h
              rcases tx_if (t := 75) (p' := 50) h em20_47 (by decide) rfl with ⟨c47, h⟩ | ⟨c47, h⟩
              · replace c47 : (1 : Int) = (0 : Int) := c47
                exfalso
                omega
              · replace c47 : ¬ (1 : Int) = (0 : Int) := c47
                replace h := tx_aload_n (p' := 51) h em20_50 rfl rfl
                replace h := tx_iconst (v := 3) (p' := 52) h em20_51 (by decide +kernel) rfl
                obtain ⟨r52, μ52, hE52, h⟩ := tx_invV (na := 2) (mn := 9) (as := [.inr (.inl (some 12)), .inl (3 : Int32)]) (rest := []) (p' := 55) h em20_52 ((congrFun xo_3 89).trans rfl) xm_9 rfl rfl
                have hS52 := sE_w (μ := μ44) (by decide +kernel) (hf_9_0 hE52 (hEn0 (by decide)) hS44.1).2 hS44.1
                obtain ⟨hg52, ⟨rfl, a52l, a52e, a52x, a524, a525⟩ | ⟨rfl, p52, f52, a52x, a52f, a524, a525⟩⟩ := st_acc (e := e) (k0 := 3) hE52 (by omega) (by omega) hT44 (by decide) (by decide)
                · have hG52 := pE_tr hG44 hg52
                  have hT52 := pE_TV hG52 ht
                  rw [pE_Kf hG44] at a52x
                  replace h : eT xq_20 _ 55 [some (.inr (.inl (some 12))), some (.inl (μ.1 12 3)), none, none, none] [.inl (1 : Int32)] μ52 r μ' := h
                  rcases tx_if (t := 75) (p' := 58) h em20_55 (by decide) rfl with ⟨c55, h⟩ | ⟨c55, h⟩
                  · replace c55 : (1 : Int) = (0 : Int) := c55
                    exfalso
                    omega
                  · replace c55 : ¬ (1 : Int) = (0 : Int) := c55
                    replace h := tx_aload_n (p' := 59) h em20_58 rfl rfl
                    replace h := tx_iconst (v := 3) (p' := 60) h em20_59 (by decide +kernel) rfl
                    obtain ⟨r60, μ60, hE60, h⟩ := tx_invV (na := 2) (mn := 9) (as := [.inr (.inl (some 12)), .inl (3 : Int32)]) (rest := []) (p' := 63) h em20_60 ((congrFun xo_3 89).trans rfl) xm_9 rfl rfl
                    have hS60 := sE_w (μ := μ52) (by decide +kernel) (hf_9_0 hE60 (hEn0 (by decide)) hS52.1).2 hS52.1
                    obtain ⟨hg60, ⟨rfl, a60l, a60e, a60x, a604, a605⟩ | ⟨rfl, p60, f60, a60x, a60f, a604, a605⟩⟩ := st_acc (e := e) (k0 := 3) hE60 (by omega) (by omega) hT52 (by decide) (by decide)
                    · have hG60 := pE_tr hG52 hg60
                      have hT60 := pE_TV hG60 ht
                      rw [pE_Kf hG52] at a60x
                      replace h : eT xq_20 _ 63 [some (.inr (.inl (some 12))), some (.inl (μ.1 12 3)), none, none, none] [.inl (1 : Int32)] μ60 r μ' := h
                      rcases tx_if (t := 75) (p' := 66) h em20_63 (by decide) rfl with ⟨c63, h⟩ | ⟨c63, h⟩
                      · replace c63 : (1 : Int) = (0 : Int) := c63
                        exfalso
                        omega
                      · replace c63 : ¬ (1 : Int) = (0 : Int) := c63
                        replace h := tx_aload_n (p' := 67) h em20_66 rfl rfl
                        replace h := tx_bipush (v := 59) (p' := 69) h em20_67 (by decide +kernel) rfl
                        obtain ⟨r69, μ69, hE69, h⟩ := tx_invV (na := 2) (mn := 9) (as := [.inr (.inl (some 12)), .inl (59 : Int32)]) (rest := []) (p' := 72) h em20_69 ((congrFun xo_3 89).trans rfl) xm_9 rfl rfl
                        have hS69 := sE_w (μ := μ60) (by decide +kernel) (hf_9_0 hE69 (hEn0 (by decide)) hS60.1).2 hS60.1
                        obtain ⟨hg69, ⟨rfl, a69l, a69e, a69x, a694, a695⟩ | ⟨rfl, p69, f69, a69x, a69f, a694, a695⟩⟩ := st_acc (e := e) (k0 := 59) hE69 (by omega) (by omega) hT60 (by decide) (by decide)
                        · have hG69 := pE_tr hG60 hg69
                          have hT69 := pE_TV hG69 ht
                          rw [pE_Kf hG60] at a69x
                          replace h : eT xq_20 _ 72 [some (.inr (.inl (some 12))), some (.inl (μ.1 12 3)), none, none, none] [.inl (1 : Int32)] μ69 r μ' := h
                          rcases tx_if (t := 76) (p' := 75) h em20_72 (by decide) rfl with ⟨c72, h⟩ | ⟨c72, h⟩
                          · replace c72 : ¬ (1 : Int) = (0 : Int) := c72
                            replace h := tx_aload_n (p' := 77) h em20_76 rfl rfl
                            replace h := tx_iload_n (p' := 78) h em20_77 rfl rfl
                            replace h := tx_iconst (v := 1) (p' := 79) h em20_78 (by decide +kernel) rfl
                            replace h := tx_iadd (p' := 80) h em20_79 rfl
                            obtain ⟨r80, μ80, hE80, h⟩ := tx_invV (na := 2) (mn := 15) (as := [.inr (.inl (some 12)), .inl ((μ.1 12 3) + (1 : Int32))]) (rest := []) (p' := 83) h em20_80 ((congrFun xo_3 92).trans rfl) xm_15 rfl rfl
                            have hS80 := sE_w (μ := μ69) (by decide +kernel) (hf_15_0 hE80 (hEn0 (by decide)) hS69.1).2 hS69.1
                            obtain ⟨k28, e28⟩ := pAcc_v a28x
                            obtain ⟨k36, e36⟩ := pAcc_v a36x
                            obtain ⟨k44, e44⟩ := pAcc_v a44x
                            obtain ⟨k52, e52⟩ := pAcc_v a52x
                            obtain ⟨k60, e60⟩ := pAcc_v a60x
                            obtain ⟨k69, e69⟩ := pAcc_v a69x
                            have hk1 : cK μ (cA μ + 1) = 2 := by rw [show cA μ + 1 = cA μ28 by omega]; exact k36
                            have hk2 : cK μ (cA μ + 2) = 2 := by rw [show cA μ + 2 = cA μ36 by omega]; exact k44
                            have hk3 : cK μ (cA μ + 3) = 3 := by rw [show cA μ + 3 = cA μ44 by omega]; exact k52
                            have hk4 : cK μ (cA μ + 4) = 3 := by rw [show cA μ + 4 = cA μ52 by omega]; exact k60
                            have n9 : μ69.1 12 9 = μ.1 12 9 := hG69.2.1 9 (by decide) (by decide) (by decide)
                            have n27 : ∀ j, μ69.1 27 j = μ.1 27 j := fun j => hG69.1 27 j (by decide) (by decide) (by decide) (by decide)
                            have hnx := nmI_cg (gE_p hG69) (hG69.2.2.1 0 (by decide)) (hG69.2.2.1 1 (by decide)) n9 n27 hn
                            have eH : cH μ69 = cH μ := by unfold cH; rw [hG69.2.2.1 0 (by decide)]
                            have eU : cU μ69 = cU μ := by unfold cU; rw [hG69.2.2.1 1 (by decide)]
                            obtain ⟨rfl, q1, q2, q3, q4, q5, q6, q7⟩ := name_ok hE80 hT69 (by omega) (by omega) (by rw [pE_Kf hG69, o1]; exact hk1) hnx (by have a2 := hn.1.2; have a1 : cU μ ≤ 6 := (by unfold cU; omega); rw [eH, eU]; omega)
                            have hGn := gE_tr (gE_p hG69) q1
                            replace h : eT xq_20 _ 83 [some (.inr (.inl (some 12))), some (.inl (μ.1 12 3)), none, none, none] [] μ80 r μ' := h
                            replace h := tx_aload_n (p' := 84) h em20_83 rfl rfl
                            replace h := tx_aload_n (p' := 85) h em20_84 rfl rfl
                            replace h := tx_iload_n (p' := 86) h em20_85 rfl rfl
                            replace h := tx_iconst (v := 2) (p' := 87) h em20_86 (by decide +kernel) rfl
                            replace h := tx_iadd (p' := 88) h em20_87 rfl
                            obtain ⟨r88, μ88, hE88, h⟩ := tx_invV (na := 2) (mn := 238) (as := [.inr (.inl (some 12)), .inl ((μ.1 12 3) + (2 : Int32))]) (rest := [.inr (.inl (some 12))]) (p' := 91) h em20_88 ((congrFun xo_3 95).trans rfl) xm_238 rfl rfl
                            rcases ex_areLetters hE88 (gE_TV hGn ht) (by omega) (by omega) (by rw [gE_K hGn, o2]; exact hk2) with ⟨rfl, hl, hm⟩ | ⟨rfl, hl, hm⟩
                            · rw [hm] at h
                              replace h : eT xq_20 _ 91 [some (.inr (.inl (some 12))), some (.inl (μ.1 12 3)), none, none, none] [.inl (1 : Int32), .inr (.inl (some 12))] μ80 r μ' := h
                              rcases tx_if (t := 98) (p' := 94) h em20_91 (by decide) rfl with ⟨c91, h⟩ | ⟨c91, h⟩
                              · replace c91 : ¬ (1 : Int) = (0 : Int) := c91
                                replace h := tx_iconst (v := 0) (p' := 99) h em20_98 (by decide +kernel) rfl
                                replace h := tx_bipush (v := 6) (p' := 101) h em20_99 (by decide +kernel) rfl
                                replace h := tx_iload_n (p' := 102) h em20_101 rfl rfl
                                replace h := tx_iconst (v := 2) (p' := 103) h em20_102 (by decide +kernel) rfl
                                replace h := tx_iadd (p' := 104) h em20_103 rfl
                                obtain ⟨r104, μ104, hE104, h⟩ := tx_invV (na := 4) (mn := 14) (as := [.inr (.inl (some 12)), .inl (0 : Int32), .inl (6 : Int32), .inl ((μ.1 12 3) + (2 : Int32))]) (rest := []) (p' := 107) h em20_104 ((congrFun xo_3 98).trans rfl) xm_14 rfl rfl
                                have hS104 := sE_w (μ := μ80) (by decide +kernel) (hf_14_0 hE104 (hEn0 (by decide)) hS80.1).2 hS80.1
                                obtain ⟨rfl, hgl, hwl⟩ := note_ok (b := ¬ cL μ80 ((μ.1 12 3) + 2).toInt) hE104 (by exact ⟨fun q => absurd (by decide) q, fun q => absurd hl q⟩)
                                have hGl := gE_tr hGn (gE_n hgl)
                                replace h : eT xq_20 _ 107 [some (.inr (.inl (some 12))), some (.inl (μ.1 12 3)), none, none, none] [] μ104 r μ' := h
                                replace h := tx_aload_n (p' := 108) h em20_107 rfl rfl
                                replace h := tx_getc (c := 2) (j := 0) (p' := 111) h em20_108 ((congrFun xo_3 12).trans rfl) rfl rfl rfl
                                replace h := tx_getf (c := 6) (j := 1) (p' := 114) h em20_111 ((congrFun xo_3 112).trans rfl) rfl rfl (by decide) rfl
                                replace h := tx_istore_n (p' := 115) h em20_114 rfl
                                replace h : eT xq_20 _ 115 [some (.inr (.inl (some 12))), some (.inl (μ.1 12 3)), some (.inl (μ104.1 13 1)), none, none] [] μ104 r μ' := h
                                replace h := tx_aload_n (p' := 116) h em20_115 rfl rfl
                                replace h := tx_getc (c := 2) (j := 0) (p' := 119) h em20_116 ((congrFun xo_3 12).trans rfl) rfl rfl rfl
                                replace h := tx_getc (c := 6) (j := 6) (p' := 122) h em20_119 ((congrFun xo_3 115).trans rfl) rfl rfl rfl
                                replace h := tx_iload_n (p' := 123) h em20_122 rfl rfl
                                replace h := tx_aload_n (p' := 124) h em20_123 rfl rfl
                                replace h := tx_iload_n (p' := 125) h em20_124 rfl rfl
                                replace h := tx_iconst (v := 3) (p' := 126) h em20_125 (by decide +kernel) rfl
                                replace h := tx_iadd (p' := 127) h em20_126 rfl
                                replace h := tx_iconst (v := 0) (p' := 128) h em20_127 (by decide +kernel) rfl
                                replace h := tx_bipush (v := 99) (p' := 130) h em20_128 (by decide +kernel) rfl
                                obtain ⟨r130, μ130, hE130, h⟩ := tx_invV (na := 4) (mn := 11) (as := [.inr (.inl (some 12)), .inl ((μ.1 12 3) + (3 : Int32)), .inl (0 : Int32), .inl (99 : Int32)]) (rest := [.inl (μ104.1 13 1), .inr (.inl (some 15))]) (p' := 133) h em20_130 ((congrFun xo_3 118).trans rfl) xm_11 rfl rfl
                                have hS130 := sE_w (μ := μ104) (by decide +kernel) (hf_11_0 hE130 (hEn0 (by decide)) hS104.1).2 hS104.1
                                obtain ⟨ivi, rfl, hgi, -⟩ := int_ok hE130 (gE_TV hGl ht) (by omega) (by omega) (by rw [gE_K hGl, o3]; exact hk3)
                                obtain ⟨iv9, e9, hvi⟩ := int_v hE130 (gE_TV hGl ht) (by omega) (by omega) (by rw [gE_K hGl, o3]; exact hk3)
                                cases e9
                                rw [gE_V hGl, o3] at hvi
                                have hGi := gE_tr hGl (gE_n hgi)
                                replace h : eT xq_20 _ 133 [some (.inr (.inl (some 12))), some (.inl (μ.1 12 3)), some (.inl (μ104.1 13 1)), none, none] [.inl ivi, .inl (μ104.1 13 1), .inr (.inl (some 15))] μ130 r μ' := h
                                obtain ⟨hb133, h⟩ := tx_iast (len := 7) (p' := 134) h em20_133 rfl rfl
                                replace hb133 : (0 : Int) ≤ (μ104.1 13 1).toInt ∧ (μ104.1 13 1).toInt < 7 := hb133
                                replace h := tx_aload_n (p' := 135) h em20_134 rfl rfl
                                replace h := tx_getc (c := 2) (j := 0) (p' := 138) h em20_135 ((congrFun xo_3 12).trans rfl) rfl rfl rfl
                                replace h := tx_getc (c := 6) (j := 7) (p' := 141) h em20_138 ((congrFun xo_3 122).trans rfl) rfl rfl rfl
                                replace h := tx_iload_n (p' := 142) h em20_141 rfl rfl
                                replace h := tx_aload_n (p' := 143) h em20_142 rfl rfl
                                replace h := tx_iload_n (p' := 144) h em20_143 rfl rfl
                                replace h := tx_iconst (v := 4) (p' := 145) h em20_144 (by decide +kernel) rfl
                                replace h := tx_iadd (p' := 146) h em20_145 rfl
                                replace h := tx_iconst (v := 0) (p' := 147) h em20_146 (by decide +kernel) rfl
                                replace h := tx_bipush (v := 99) (p' := 149) h em20_147 (by decide +kernel) rfl
                                obtain ⟨r149, μ149, hE149, h⟩ := tx_invV (na := 4) (mn := 11) (as := [.inr (.inl (some 12)), .inl ((μ.1 12 3) + (4 : Int32)), .inl (0 : Int32), .inl (99 : Int32)]) (rest := [.inl (μ104.1 13 1), .inr (.inl (some 16))]) (p' := 152) h em20_149 ((congrFun xo_3 118).trans rfl) xm_11 rfl rfl
                                have hS149 := sE_w (μ := (xpi μ130 15 (μ104.1 13 1).toInt.toNat ivi)) (by decide +kernel) (hf_11_0 hE149 (hEn0 (by decide)) hS130.1).2 hS130.1
                                obtain ⟨ivj, rfl, hgj, -⟩ := int_ok hE149 (gE_TV (gE_i hGi (by decide)) ht) (by omega) (by omega) (by rw [gE_K (gE_i hGi (by decide)), o4]; exact hk4)
                                obtain ⟨iv9, e9, hvj⟩ := int_v hE149 (gE_TV (gE_i hGi (by decide)) ht) (by omega) (by omega) (by rw [gE_K (gE_i hGi (by decide)), o4]; exact hk4)
                                cases e9
                                rw [gE_V (gE_i hGi (by decide)), o4] at hvj
                                have hGj := gE_tr (gE_i hGi (by decide)) (gE_n hgj)
                                replace h : eT xq_20 _ 152 [some (.inr (.inl (some 12))), some (.inl (μ.1 12 3)), some (.inl (μ104.1 13 1)), none, none] [.inl ivj, .inl (μ104.1 13 1), .inr (.inl (some 16))] μ149 r μ' := h
                                obtain ⟨hb152, h⟩ := tx_iast (len := 7) (p' := 153) h em20_152 rfl rfl
                                replace hb152 : (0 : Int) ≤ (μ104.1 13 1).toInt ∧ (μ104.1 13 1).toInt < 7 := hb152
                                replace h := tx_aload_n (p' := 154) h em20_153 rfl rfl
                                replace h := tx_getc (c := 2) (j := 0) (p' := 157) h em20_154 ((congrFun xo_3 12).trans rfl) rfl rfl rfl
                                replace h := tx_getc (c := 6) (j := 8) (p' := 160) h em20_157 ((congrFun xo_3 125).trans rfl) rfl rfl rfl
                                replace h := tx_iload_n (p' := 161) h em20_160 rfl rfl
                                replace h := tx_aload_n (p' := 162) h em20_161 rfl rfl
                                replace h := tx_getc (c := 2) (j := 1) (p' := 165) h em20_162 ((congrFun xo_3 21).trans rfl) rfl rfl rfl
                                replace h := tx_getc (c := 7) (j := 2) (p' := 168) h em20_165 ((congrFun xo_3 102).trans rfl) rfl rfl rfl
                                replace h := tx_iload_n (p' := 169) h em20_168 rfl rfl
                                replace h := tx_iconst (v := 2) (p' := 170) h em20_169 (by decide +kernel) rfl
                                replace h := tx_iadd (p' := 171) h em20_170 rfl
                                obtain ⟨hb171, h⟩ := tx_iald (len := 401) (p' := 172) h em20_171 rfl rfl
                                replace hb171 : (0 : Int) ≤ ((μ.1 12 3) + (2 : Int32)).toInt ∧ ((μ.1 12 3) + (2 : Int32)).toInt < 401 := hb171
                                replace h : eT xq_20 _ 172 [some (.inr (.inl (some 12))), some (.inl (μ.1 12 3)), some (.inl (μ104.1 13 1)), none, none] [.inl (μ149.1 26 ((μ.1 12 3) + (2 : Int32)).toInt.toNat), .inl (μ104.1 13 1), .inr (.inl (some 17))] (xpi μ149 16 (μ104.1 13 1).toInt.toNat ivj) r μ' := h
                                obtain ⟨hb172, h⟩ := tx_iast (len := 7) (p' := 173) h em20_172 rfl rfl
                                replace hb172 : (0 : Int) ≤ (μ104.1 13 1).toInt ∧ (μ104.1 13 1).toInt < 7 := hb172
                                replace h := tx_iconst (v := 0) (p' := 174) h em20_173 (by decide +kernel) rfl
                                replace h := tx_istore_n (p' := 175) h em20_174 rfl
                                replace h : eT xq_20 _ 175 [some (.inr (.inl (some 12))), some (.inl (μ.1 12 3)), some (.inl (μ104.1 13 1)), some (.inl (0 : Int32)), none] [] (xpi (xpi μ149 16 (μ104.1 13 1).toInt.toNat ivj) 17 (μ104.1 13 1).toInt.toNat (μ149.1 26 ((μ.1 12 3) + (2 : Int32)).toInt.toNat)) r μ' := h
                                have hS9 : sE μ μ130 := sE_tr hS28 (sE_tr hS36 (sE_tr hS44 (sE_tr hS52 (sE_tr hS60 (sE_tr hS69 (sE_tr hS80 (sE_tr hS104 (hS130))))))))
                                have hS8 : sE μ μ104 := sE_tr hS28 (sE_tr hS36 (sE_tr hS44 (sE_tr hS52 (sE_tr hS60 (sE_tr hS69 (sE_tr hS80 (hS104)))))))
                                have hGm := gE_i (j := (μ104.1 13 1).toInt.toNat) (v := ((μ149.1 26 ((μ.1 12 3) + (2 : Int32)).toInt.toNat))) (gE_i (j := (μ104.1 13 1).toInt.toNat) (v := ivj) (k := 16) hGj (by decide)) (show 12 ≤ 17 ∧ 17 ≤ 22 by decide)
                                obtain ⟨⟨a1, a2, a3, a4, a5⟩, hb, hd9, he9⟩ := id hC
                                have evn : (μ104.1 13 1).toInt = ((cU μ).toNat : Int) := by rw [hS8.2 13 1 (by decide) (by decide)]; show cU μ = _; have := hn.2.1; omega
                                have h8 := (ht.2.2 (cA μ + 2) (by omega) (by omega)).2.2 hk2
                                have esz : ((μ149.1 26 ((μ.1 12 3) + (2 : Int32)).toInt.toNat)).toInt = cS μ (cA μ + 2) := by rw [o2]; show cS μ149 (cA μ + 2) = _; rw [gE_S hGj]
                                have z0 : ∀ k j, 13 ≤ k → k ≤ 22 → k ≠ 15 → k ≠ 16 → k ≠ 17 → ((xpi (xpi μ149 16 (μ104.1 13 1).toInt.toNat ivj) 17 (μ104.1 13 1).toInt.toNat (μ149.1 26 ((μ.1 12 3) + (2 : Int32)).toInt.toNat))).1 k j = μ.1 k j := fun k j a b c d f => by
                                  rw [xpi_ne (fun q => f q.1), xpi_ne (fun q => d q.1), hS149.2 k j a b, xpi_ne (fun q => c q.1), hS9.2 k j a b]
                                have hB0 : ∀ x : Nat, x < 8 → (((xpi (xpi μ149 16 (μ104.1 13 1).toInt.toNat ivj) 17 (μ104.1 13 1).toInt.toNat (μ149.1 26 ((μ.1 12 3) + (2 : Int32)).toInt.toNat))).1 19 (8 * (cU μ).toNat + x)).toInt = 0 := fun x hx => by
                                  rw [z0 19 _ (by decide) (by decide) (by decide) (by decide) (by decide), he9 (cU μ).toNat x (by have := hn.2.1; omega) hx]
                                  have eU : cU μ = (S.2.1.length : Int) := a2
                                  have e0 : kV S (cU μ).toNat = ([], 0, 0) := by unfold kV; rw [List.getD_eq_getElem?_getD, List.getElem?_eq_none (by omega)]; rfl
                                  rw [e0]; exact kCt_0
                                have hN : (cU μ).toNat = (μ104.1 13 1).toInt.toNat := by rw [evn]; rfl
                                refine kc_verse_f (U := (cU μ).toNat) hkk (by have := hn.2.1; omega) (by omega) hC hW8 z0 (v1 := ivi) (v2 := ivj) (v3 := (μ149.1 26 ((μ.1 12 3) + (2 : Int32)).toInt.toNat)) (fun w => ?_) (fun w => ?_) (fun w => ?_) hvi hvj ?_ ?_ (loop (cU μ).toNat (μ104.1 13 1) ((xpi (xpi μ149 16 (μ104.1 13 1).toInt.toNat ivj) 17 (μ104.1 13 1).toInt.toNat (μ149.1 26 ((μ.1 12 3) + (2 : Int32)).toInt.toNat))) hk2 (by omega) (by omega) evn ?_ ?_ hB0 ?_ _ _ _ h hGm hS149.1 (by decide) ?_ (fun k j _ _ _ _ => rfl) (fun j _ => rfl) (fun k hk => absurd hk (Nat.not_lt_zero k)) (fun w x hw hx => ?_))
                                · rw [xpi_ne (fun q => absurd q.1 (by decide)), xpi_ne (fun q => absurd q.1 (by decide)), hS149.2 15 w (by decide) (by decide)]
                                  by_cases q : w = (cU μ).toNat
                                  · rw [if_pos q, q, hN, xpi_at]
                                  · rw [if_neg q, xpi_ne (fun z => q (z.2.trans hN.symm)), hS9.2 15 w (by decide) (by decide)]
                                · rw [xpi_ne (fun q => absurd q.1 (by decide))]
                                  by_cases q : w = (cU μ).toNat
                                  · rw [if_pos q, q, hN, xpi_at]
                                  · rw [if_neg q, xpi_ne (fun z => q (z.2.trans hN.symm)), hS149.2 16 w (by decide) (by decide), xpi_ne (fun q => absurd q.1 (by decide)), hS9.2 16 w (by decide) (by decide)]
                                · by_cases q : w = (cU μ).toNat
                                  · rw [if_pos q, q, hN, xpi_at]
                                  · rw [if_neg q, xpi_ne (fun z => q (z.2.trans hN.symm)), xpi_ne (fun q => absurd q.1 (by decide)), hS149.2 17 w (by decide) (by decide), xpi_ne (fun q => absurd q.1 (by decide)), hS9.2 17 w (by decide) (by decide)]
                                · rw [esz]; unfold cT; rw [List.length_map, List.length_range]; omega
                                · unfold cT; rw [List.length_map, List.length_range]; omega
                                · rw [z0 13 1 (by decide) (by decide) (by decide) (by decide) (by decide)]; have := hn.2.1; unfold cU at *; omega
                                · rw [hN, xpi_at]; exact esz
                                · intro k hk
                                  have := hcl k (by omega)
                                  have h97 := h8.2.2 k (by omega)
                                  have h97b : 97 ≤ cB μ (cA μ + 2) k := h97.1
                                  omega
                                · show (0 : Int) ≤ _; omega
                                · show _ = _ + (if _ then kCt [] _ else 0)
                                  rw [kCt_0]
                                  split <;> omega
                              · replace c91 : ¬ ¬ (1 : Int) = (0 : Int) := c91
                                exfalso
                                omega
                            · rw [hm] at h
                              replace h : eT xq_20 _ 91 [some (.inr (.inl (some 12))), some (.inl (μ.1 12 3)), none, none, none] [.inl (0 : Int32), .inr (.inl (some 12))] μ80 r μ' := h
                              rcases tx_if (t := 98) (p' := 94) h em20_91 (by decide) rfl with ⟨c91_1, h⟩ | ⟨c91_1, h⟩
                              · replace c91_1 : ¬ (0 : Int) = (0 : Int) := c91_1
                                exfalso
                                omega
                              · replace c91_1 : ¬ ¬ (0 : Int) = (0 : Int) := c91_1
                                replace h := tx_iconst (v := 1) (p' := 95) h em20_94 (by decide +kernel) rfl
                                replace h := tx_goto (t := 99) h em20_95 (by decide)
                                replace h := tx_bipush (v := 6) (p' := 101) h em20_99 (by decide +kernel) rfl
                                replace h := tx_iload_n (p' := 102) h em20_101 rfl rfl
                                replace h := tx_iconst (v := 2) (p' := 103) h em20_102 (by decide +kernel) rfl
                                replace h := tx_iadd (p' := 104) h em20_103 rfl
                                obtain ⟨r104_1, μ104_1, hE104_1, h⟩ := tx_invV (na := 4) (mn := 14) (as := [.inr (.inl (some 12)), .inl (1 : Int32), .inl (6 : Int32), .inl ((μ.1 12 3) + (2 : Int32))]) (rest := []) (p' := 107) h em20_104 ((congrFun xo_3 98).trans rfl) xm_14 rfl rfl
                                have hS104_1 := sE_w (μ := μ80) (by decide +kernel) (hf_14_0 hE104_1 (hEn0 (by decide)) hS80.1).2 hS80.1
                                obtain ⟨rfl, hgl, hwl⟩ := note_ok (b := ¬ cL μ80 ((μ.1 12 3) + 2).toInt) hE104_1 (by exact ⟨fun _ => hl, fun _ => by decide⟩)
                                have hGl := gE_tr hGn (gE_n hgl)
                                replace h : eT xq_20 _ 107 [some (.inr (.inl (some 12))), some (.inl (μ.1 12 3)), none, none, none] [] μ104_1 r μ' := h
                                replace h := tx_aload_n (p' := 108) h em20_107 rfl rfl
                                replace h := tx_getc (c := 2) (j := 0) (p' := 111) h em20_108 ((congrFun xo_3 12).trans rfl) rfl rfl rfl
                                replace h := tx_getf (c := 6) (j := 1) (p' := 114) h em20_111 ((congrFun xo_3 112).trans rfl) rfl rfl (by decide) rfl
                                replace h := tx_istore_n (p' := 115) h em20_114 rfl
                                replace h : eT xq_20 _ 115 [some (.inr (.inl (some 12))), some (.inl (μ.1 12 3)), some (.inl (μ104_1.1 13 1)), none, none] [] μ104_1 r μ' := h
                                replace h := tx_aload_n (p' := 116) h em20_115 rfl rfl
                                replace h := tx_getc (c := 2) (j := 0) (p' := 119) h em20_116 ((congrFun xo_3 12).trans rfl) rfl rfl rfl
                                replace h := tx_getc (c := 6) (j := 6) (p' := 122) h em20_119 ((congrFun xo_3 115).trans rfl) rfl rfl rfl
                                replace h := tx_iload_n (p' := 123) h em20_122 rfl rfl
                                replace h := tx_aload_n (p' := 124) h em20_123 rfl rfl
                                replace h := tx_iload_n (p' := 125) h em20_124 rfl rfl
                                replace h := tx_iconst (v := 3) (p' := 126) h em20_125 (by decide +kernel) rfl
                                replace h := tx_iadd (p' := 127) h em20_126 rfl
                                replace h := tx_iconst (v := 0) (p' := 128) h em20_127 (by decide +kernel) rfl
                                replace h := tx_bipush (v := 99) (p' := 130) h em20_128 (by decide +kernel) rfl
                                obtain ⟨r130_1, μ130_1, hE130_1, h⟩ := tx_invV (na := 4) (mn := 11) (as := [.inr (.inl (some 12)), .inl ((μ.1 12 3) + (3 : Int32)), .inl (0 : Int32), .inl (99 : Int32)]) (rest := [.inl (μ104_1.1 13 1), .inr (.inl (some 15))]) (p' := 133) h em20_130 ((congrFun xo_3 118).trans rfl) xm_11 rfl rfl
                                have hS130_1 := sE_w (μ := μ104_1) (by decide +kernel) (hf_11_0 hE130_1 (hEn0 (by decide)) hS104_1.1).2 hS104_1.1
                                obtain ⟨ivi, rfl, hgi, -⟩ := int_ok hE130_1 (gE_TV hGl ht) (by omega) (by omega) (by rw [gE_K hGl, o3]; exact hk3)
                                obtain ⟨iv9, e9, hvi⟩ := int_v hE130_1 (gE_TV hGl ht) (by omega) (by omega) (by rw [gE_K hGl, o3]; exact hk3)
                                cases e9
                                rw [gE_V hGl, o3] at hvi
                                have hGi := gE_tr hGl (gE_n hgi)
                                replace h : eT xq_20 _ 133 [some (.inr (.inl (some 12))), some (.inl (μ.1 12 3)), some (.inl (μ104_1.1 13 1)), none, none] [.inl ivi, .inl (μ104_1.1 13 1), .inr (.inl (some 15))] μ130_1 r μ' := h
                                obtain ⟨hb133_1, h⟩ := tx_iast (len := 7) (p' := 134) h em20_133 rfl rfl
                                replace hb133_1 : (0 : Int) ≤ (μ104_1.1 13 1).toInt ∧ (μ104_1.1 13 1).toInt < 7 := hb133_1
                                replace h := tx_aload_n (p' := 135) h em20_134 rfl rfl
                                replace h := tx_getc (c := 2) (j := 0) (p' := 138) h em20_135 ((congrFun xo_3 12).trans rfl) rfl rfl rfl
                                replace h := tx_getc (c := 6) (j := 7) (p' := 141) h em20_138 ((congrFun xo_3 122).trans rfl) rfl rfl rfl
                                replace h := tx_iload_n (p' := 142) h em20_141 rfl rfl
                                replace h := tx_aload_n (p' := 143) h em20_142 rfl rfl
                                replace h := tx_iload_n (p' := 144) h em20_143 rfl rfl
                                replace h := tx_iconst (v := 4) (p' := 145) h em20_144 (by decide +kernel) rfl
                                replace h := tx_iadd (p' := 146) h em20_145 rfl
                                replace h := tx_iconst (v := 0) (p' := 147) h em20_146 (by decide +kernel) rfl
                                replace h := tx_bipush (v := 99) (p' := 149) h em20_147 (by decide +kernel) rfl
                                obtain ⟨r149_1, μ149_1, hE149_1, h⟩ := tx_invV (na := 4) (mn := 11) (as := [.inr (.inl (some 12)), .inl ((μ.1 12 3) + (4 : Int32)), .inl (0 : Int32), .inl (99 : Int32)]) (rest := [.inl (μ104_1.1 13 1), .inr (.inl (some 16))]) (p' := 152) h em20_149 ((congrFun xo_3 118).trans rfl) xm_11 rfl rfl
                                have hS149_1 := sE_w (μ := (xpi μ130_1 15 (μ104_1.1 13 1).toInt.toNat ivi)) (by decide +kernel) (hf_11_0 hE149_1 (hEn0 (by decide)) hS130_1.1).2 hS130_1.1
                                obtain ⟨ivj, rfl, hgj, -⟩ := int_ok hE149_1 (gE_TV (gE_i hGi (by decide)) ht) (by omega) (by omega) (by rw [gE_K (gE_i hGi (by decide)), o4]; exact hk4)
                                obtain ⟨iv9, e9, hvj⟩ := int_v hE149_1 (gE_TV (gE_i hGi (by decide)) ht) (by omega) (by omega) (by rw [gE_K (gE_i hGi (by decide)), o4]; exact hk4)
                                cases e9
                                rw [gE_V (gE_i hGi (by decide)), o4] at hvj
                                have hGj := gE_tr (gE_i hGi (by decide)) (gE_n hgj)
                                replace h : eT xq_20 _ 152 [some (.inr (.inl (some 12))), some (.inl (μ.1 12 3)), some (.inl (μ104_1.1 13 1)), none, none] [.inl ivj, .inl (μ104_1.1 13 1), .inr (.inl (some 16))] μ149_1 r μ' := h
                                obtain ⟨hb152_1, h⟩ := tx_iast (len := 7) (p' := 153) h em20_152 rfl rfl
                                replace hb152_1 : (0 : Int) ≤ (μ104_1.1 13 1).toInt ∧ (μ104_1.1 13 1).toInt < 7 := hb152_1
                                replace h := tx_aload_n (p' := 154) h em20_153 rfl rfl
                                replace h := tx_getc (c := 2) (j := 0) (p' := 157) h em20_154 ((congrFun xo_3 12).trans rfl) rfl rfl rfl
                                replace h := tx_getc (c := 6) (j := 8) (p' := 160) h em20_157 ((congrFun xo_3 125).trans rfl) rfl rfl rfl
                                replace h := tx_iload_n (p' := 161) h em20_160 rfl rfl
                                replace h := tx_aload_n (p' := 162) h em20_161 rfl rfl
                                replace h := tx_getc (c := 2) (j := 1) (p' := 165) h em20_162 ((congrFun xo_3 21).trans rfl) rfl rfl rfl
                                replace h := tx_getc (c := 7) (j := 2) (p' := 168) h em20_165 ((congrFun xo_3 102).trans rfl) rfl rfl rfl
                                replace h := tx_iload_n (p' := 169) h em20_168 rfl rfl
                                replace h := tx_iconst (v := 2) (p' := 170) h em20_169 (by decide +kernel) rfl
                                replace h := tx_iadd (p' := 171) h em20_170 rfl
                                obtain ⟨hb171_1, h⟩ := tx_iald (len := 401) (p' := 172) h em20_171 rfl rfl
                                replace hb171_1 : (0 : Int) ≤ ((μ.1 12 3) + (2 : Int32)).toInt ∧ ((μ.1 12 3) + (2 : Int32)).toInt < 401 := hb171_1
                                replace h : eT xq_20 _ 172 [some (.inr (.inl (some 12))), some (.inl (μ.1 12 3)), some (.inl (μ104_1.1 13 1)), none, none] [.inl (μ149_1.1 26 ((μ.1 12 3) + (2 : Int32)).toInt.toNat), .inl (μ104_1.1 13 1), .inr (.inl (some 17))] (xpi μ149_1 16 (μ104_1.1 13 1).toInt.toNat ivj) r μ' := h
                                obtain ⟨hb172_1, h⟩ := tx_iast (len := 7) (p' := 173) h em20_172 rfl rfl
                                replace hb172_1 : (0 : Int) ≤ (μ104_1.1 13 1).toInt ∧ (μ104_1.1 13 1).toInt < 7 := hb172_1
                                replace h := tx_iconst (v := 0) (p' := 174) h em20_173 (by decide +kernel) rfl
                                replace h := tx_istore_n (p' := 175) h em20_174 rfl
                                replace h : eT xq_20 _ 175 [some (.inr (.inl (some 12))), some (.inl (μ.1 12 3)), some (.inl (μ104_1.1 13 1)), some (.inl (0 : Int32)), none] [] (xpi (xpi μ149_1 16 (μ104_1.1 13 1).toInt.toNat ivj) 17 (μ104_1.1 13 1).toInt.toNat (μ149_1.1 26 ((μ.1 12 3) + (2 : Int32)).toInt.toNat)) r μ' := h
                                have hS9 : sE μ μ130_1 := sE_tr hS28 (sE_tr hS36 (sE_tr hS44 (sE_tr hS52 (sE_tr hS60 (sE_tr hS69 (sE_tr hS80 (sE_tr hS104_1 (hS130_1))))))))
                                have hS8 : sE μ μ104_1 := sE_tr hS28 (sE_tr hS36 (sE_tr hS44 (sE_tr hS52 (sE_tr hS60 (sE_tr hS69 (sE_tr hS80 (hS104_1)))))))
                                have hGm := gE_i (j := (μ104_1.1 13 1).toInt.toNat) (v := ((μ149_1.1 26 ((μ.1 12 3) + (2 : Int32)).toInt.toNat))) (gE_i (j := (μ104_1.1 13 1).toInt.toNat) (v := ivj) (k := 16) hGj (by decide)) (show 12 ≤ 17 ∧ 17 ≤ 22 by decide)
                                obtain ⟨⟨a1, a2, a3, a4, a5⟩, hb, hd9, he9⟩ := id hC
                                have evn : (μ104_1.1 13 1).toInt = ((cU μ).toNat : Int) := by rw [hS8.2 13 1 (by decide) (by decide)]; show cU μ = _; have := hn.2.1; omega
                                have h8 := (ht.2.2 (cA μ + 2) (by omega) (by omega)).2.2 hk2
                                have esz : ((μ149_1.1 26 ((μ.1 12 3) + (2 : Int32)).toInt.toNat)).toInt = cS μ (cA μ + 2) := by rw [o2]; show cS μ149_1 (cA μ + 2) = _; rw [gE_S hGj]
                                have z0 : ∀ k j, 13 ≤ k → k ≤ 22 → k ≠ 15 → k ≠ 16 → k ≠ 17 → ((xpi (xpi μ149_1 16 (μ104_1.1 13 1).toInt.toNat ivj) 17 (μ104_1.1 13 1).toInt.toNat (μ149_1.1 26 ((μ.1 12 3) + (2 : Int32)).toInt.toNat))).1 k j = μ.1 k j := fun k j a b c d f => by
                                  rw [xpi_ne (fun q => f q.1), xpi_ne (fun q => d q.1), hS149_1.2 k j a b, xpi_ne (fun q => c q.1), hS9.2 k j a b]
                                have hB0 : ∀ x : Nat, x < 8 → (((xpi (xpi μ149_1 16 (μ104_1.1 13 1).toInt.toNat ivj) 17 (μ104_1.1 13 1).toInt.toNat (μ149_1.1 26 ((μ.1 12 3) + (2 : Int32)).toInt.toNat))).1 19 (8 * (cU μ).toNat + x)).toInt = 0 := fun x hx => by
                                  rw [z0 19 _ (by decide) (by decide) (by decide) (by decide) (by decide), he9 (cU μ).toNat x (by have := hn.2.1; omega) hx]
                                  have eU : cU μ = (S.2.1.length : Int) := a2
                                  have e0 : kV S (cU μ).toNat = ([], 0, 0) := by unfold kV; rw [List.getD_eq_getElem?_getD, List.getElem?_eq_none (by omega)]; rfl
                                  rw [e0]; exact kCt_0
                                have hN : (cU μ).toNat = (μ104_1.1 13 1).toInt.toNat := by rw [evn]; rfl
                                refine kc_verse_f (U := (cU μ).toNat) hkk (by have := hn.2.1; omega) (by omega) hC hW8 z0 (v1 := ivi) (v2 := ivj) (v3 := (μ149_1.1 26 ((μ.1 12 3) + (2 : Int32)).toInt.toNat)) (fun w => ?_) (fun w => ?_) (fun w => ?_) hvi hvj ?_ ?_ (loop (cU μ).toNat (μ104_1.1 13 1) ((xpi (xpi μ149_1 16 (μ104_1.1 13 1).toInt.toNat ivj) 17 (μ104_1.1 13 1).toInt.toNat (μ149_1.1 26 ((μ.1 12 3) + (2 : Int32)).toInt.toNat))) hk2 (by omega) (by omega) evn ?_ ?_ hB0 ?_ _ _ _ h hGm hS149_1.1 (by decide) ?_ (fun k j _ _ _ _ => rfl) (fun j _ => rfl) (fun k hk => absurd hk (Nat.not_lt_zero k)) (fun w x hw hx => ?_))
                                · rw [xpi_ne (fun q => absurd q.1 (by decide)), xpi_ne (fun q => absurd q.1 (by decide)), hS149_1.2 15 w (by decide) (by decide)]
                                  by_cases q : w = (cU μ).toNat
                                  · rw [if_pos q, q, hN, xpi_at]
                                  · rw [if_neg q, xpi_ne (fun z => q (z.2.trans hN.symm)), hS9.2 15 w (by decide) (by decide)]
                                · rw [xpi_ne (fun q => absurd q.1 (by decide))]
                                  by_cases q : w = (cU μ).toNat
                                  · rw [if_pos q, q, hN, xpi_at]
                                  · rw [if_neg q, xpi_ne (fun z => q (z.2.trans hN.symm)), hS149_1.2 16 w (by decide) (by decide), xpi_ne (fun q => absurd q.1 (by decide)), hS9.2 16 w (by decide) (by decide)]
                                · by_cases q : w = (cU μ).toNat
                                  · rw [if_pos q, q, hN, xpi_at]
                                  · rw [if_neg q, xpi_ne (fun z => q (z.2.trans hN.symm)), xpi_ne (fun q => absurd q.1 (by decide)), hS149_1.2 17 w (by decide) (by decide), xpi_ne (fun q => absurd q.1 (by decide)), hS9.2 17 w (by decide) (by decide)]
                                · rw [esz]; unfold cT; rw [List.length_map, List.length_range]; omega
                                · unfold cT; rw [List.length_map, List.length_range]; omega
                                · rw [z0 13 1 (by decide) (by decide) (by decide) (by decide) (by decide)]; have := hn.2.1; unfold cU at *; omega
                                · rw [hN, xpi_at]; exact esz
                                · intro k hk
                                  have := hcl k (by omega)
                                  have h97 := h8.2.2 k (by omega)
                                  have h97b : 97 ≤ cB μ (cA μ + 2) k := h97.1
                                  omega
                                · show (0 : Int) ≤ _; omega
                                · show _ = _ + (if _ then kCt [] _ else 0)
                                  rw [kCt_0]
                                  split <;> omega
                          · replace c72 : ¬ ¬ (1 : Int) = (0 : Int) := c72
                            exfalso
                            omega
                        · have hG69 := pE_tr hG60 hg69
                          have hT69 := pE_TV hG69 ht
                          rw [pE_Kf hG60] at a69x
                          rw [pE_P hG60] at a695
                          replace h : eT xq_20 _ 72 [some (.inr (.inl (some 12))), some (.inl (μ.1 12 3)), none, none, none] [.inl (0 : Int32)] μ69 r μ' := h
                          rcases tx_if (t := 76) (p' := 75) h em20_72 (by decide) rfl with ⟨c72_1, h⟩ | ⟨c72_1, h⟩
                          · replace c72_1 : ¬ (0 : Int) = (0 : Int) := c72_1
                            exfalso
                            omega
                          · replace c72_1 : ¬ ¬ (0 : Int) = (0 : Int) := c72_1
                            obtain ⟨rfl, hμ⟩ := tx_return h em20_75
                            exact absurd (pTell_0 ((pTell_v hkk (by unfold cU; omega)).trans ((((((pSeq_y a28x).trans (pSeq_y a36x)).trans (pSeq_y a44x)).trans (pSeq_y a52x)).trans (pSeq_y a60x)).trans (a69x))) hs) a69f
                    · have hG60 := pE_tr hG52 hg60
                      have hT60 := pE_TV hG60 ht
                      rw [pE_Kf hG52] at a60x
                      rw [pE_P hG52] at a605
                      replace h : eT xq_20 _ 63 [some (.inr (.inl (some 12))), some (.inl (μ.1 12 3)), none, none, none] [.inl (0 : Int32)] μ60 r μ' := h
                      rcases tx_if (t := 75) (p' := 66) h em20_63 (by decide) rfl with ⟨c63_1, h⟩ | ⟨c63_1, h⟩
                      · replace c63_1 : (0 : Int) = (0 : Int) := c63_1
                        obtain ⟨rfl, hμ⟩ := tx_return h em20_75
                        exact absurd (pTell_0 ((pTell_v hkk (by unfold cU; omega)).trans (((((pSeq_y a28x).trans (pSeq_y a36x)).trans (pSeq_y a44x)).trans (pSeq_y a52x)).trans (pSeq_n a60x a60f))) hs) a60f
                      · replace c63_1 : ¬ (0 : Int) = (0 : Int) := c63_1
                        exfalso
                        omega
                · have hG52 := pE_tr hG44 hg52
                  have hT52 := pE_TV hG52 ht
                  rw [pE_Kf hG44] at a52x
                  rw [pE_P hG44] at a525
                  replace h : eT xq_20 _ 55 [some (.inr (.inl (some 12))), some (.inl (μ.1 12 3)), none, none, none] [.inl (0 : Int32)] μ52 r μ' := h
                  rcases tx_if (t := 75) (p' := 58) h em20_55 (by decide) rfl with ⟨c55_1, h⟩ | ⟨c55_1, h⟩
                  · replace c55_1 : (0 : Int) = (0 : Int) := c55_1
                    obtain ⟨rfl, hμ⟩ := tx_return h em20_75
                    exact absurd (pTell_0 ((pTell_v hkk (by unfold cU; omega)).trans ((((pSeq_y a28x).trans (pSeq_y a36x)).trans (pSeq_y a44x)).trans (pSeq_n a52x a52f))) hs) a52f
                  · replace c55_1 : ¬ (0 : Int) = (0 : Int) := c55_1
                    exfalso
                    omega
            · have hG44 := pE_tr hG36 hg44
              have hT44 := pE_TV hG44 ht
              rw [pE_Kf hG36] at a44x
              rw [pE_P hG36] at a445
              replace h : eT xq_20 _ 47 [some (.inr (.inl (some 12))), some (.inl (μ.1 12 3)), none, none, none] [.inl (0 : Int32)] μ44 r μ' := h
              rcases tx_if (t := 75) (p' := 50) h em20_47 (by decide) rfl with ⟨c47_1, h⟩ | ⟨c47_1, h⟩
              · replace c47_1 : (0 : Int) = (0 : Int) := c47_1
                obtain ⟨rfl, hμ⟩ := tx_return h em20_75
                exact absurd (pTell_0 ((pTell_v hkk (by unfold cU; omega)).trans (((pSeq_y a28x).trans (pSeq_y a36x)).trans (pSeq_n a44x a44f))) hs) a44f
              · replace c47_1 : ¬ (0 : Int) = (0 : Int) := c47_1
                exfalso
                omega
        · have hG36 := pE_tr hG28 hg36
          have hT36 := pE_TV hG36 ht
          rw [pE_Kf hG28] at a36x
          rw [pE_P hG28] at a365
          replace h : eT xq_20 _ 39 [some (.inr (.inl (some 12))), some (.inl (μ.1 12 3)), none, none, none] [.inl (0 : Int32)] μ36 r μ' := h
          rcases tx_if (t := 75) (p' := 42) h em20_39 (by decide) rfl with ⟨c39_1, h⟩ | ⟨c39_1, h⟩
          · replace c39_1 : (0 : Int) = (0 : Int) := c39_1
            obtain ⟨rfl, hμ⟩ := tx_return h em20_75
            exact absurd (pTell_0 ((pTell_v hkk (by unfold cU; omega)).trans ((pSeq_y a28x).trans (pSeq_n a36x a36f))) hs) a36f
          · replace c39_1 : ¬ (0 : Int) = (0 : Int) := c39_1
            exfalso
            omega
    · have hG28 := pE_tr hG0 hg28
      have hT28 := pE_TV hG28 ht
      replace h : eT xq_20 _ 31 [some (.inr (.inl (some 12))), some (.inl (μ.1 12 3)), none, none, none] [.inl (0 : Int32)] μ28 r μ' := h
      rcases tx_if (t := 75) (p' := 34) h em20_31 (by decide) rfl with ⟨c31_1, h⟩ | ⟨c31_1, h⟩
      · replace c31_1 : (0 : Int) = (0 : Int) := c31_1
        obtain ⟨rfl, hμ⟩ := tx_return h em20_75
        exact absurd (pTell_0 ((pTell_v hkk (by unfold cU; omega)).trans (pSeq_n a28x a28f)) hs) a28f
      · replace c31_1 : ¬ (0 : Int) = (0 : Int) := c31_1
        exfalso
        omega
  · replace c9 : ¬ (μ.1 13 1).toInt < 7 := c9
    replace h := tx_aload_n (p' := 13) h em20_12 rfl rfl
    replace h := tx_iconst (v := 2) (p' := 14) h em20_13 (by decide +kernel) rfl
    obtain ⟨r14, μ14, hE14, h⟩ := tx_invV (na := 2) (mn := 10) (as := [.inr (.inl (some 12)), .inl (2 : Int32)]) (rest := []) (p' := 17) h em20_14 ((congrFun xo_3 70).trans rfl) xm_10 rfl rfl
    obtain ⟨rfl, hm14⟩ := ex_fail hE14 (by have := ht.1; omega)
    replace h : eT xq_20 _ 17 [some (.inr (.inl (some 12))), none, none, none, none] [.inl (0 : Int32)] μ14 r μ' := h
    replace h := tx_pop (p' := 18) h em20_17 rfl
    obtain ⟨rfl, hμ⟩ := tx_return h em20_18
    exfalso
    unfold cU at hU6
    omega
