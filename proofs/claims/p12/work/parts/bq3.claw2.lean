/-! ===== how the class lays a law down (draft, not compiled) ===== -/
/-- a branch that begins at step s -/
def layX (s : Nat) (X : List kOp × List kOp × List kOp) : List kOp := X.1 ++ (X.2.1 ++ ((6, ((s + X.1.length + X.2.1.length + 1 + X.2.2.length + 1 : Nat) : Int)) :: (X.2.2 ++ [(7, 0)])))
theorem layX_l (s : Nat) (X : List kOp × List kOp × List kOp) : (layX s X).length = X.1.length + X.2.1.length + 1 + X.2.2.length + 1 := by
  unfold layX
  simp only [List.length_append, List.length_cons, List.length_nil]
  omega
/-- branches, one behind the other -/
def layB (s : Nat) : List (List kOp × List kOp × List kOp) → List kOp
  | [] => []
  | X :: t => layX s X ++ layB (s + (layX s X).length) t
/-- the steps of a law that begins at step s -/
def lay (s : Nat) (L : kLw) : List kOp := layB s L.1 ++ (L.2 ++ [(7, 0)])
theorem layB_snoc (X : List kOp × List kOp × List kOp) : ∀ (l : List (List kOp × List kOp × List kOp)) (s : Nat), layB s (l ++ [X]) = layB s l ++ layX (s + (layB s l).length) X
  | [], s => by
    show layX s X ++ [] = [] ++ layX (s + 0) X
    rw [List.append_nil, List.nil_append, Nat.add_zero]
  | Y :: t, s => by
    show layX s Y ++ layB _ (t ++ [X]) = (layX s Y ++ layB _ t) ++ layX (s + (layX s Y ++ layB (s + (layX s Y).length) t).length) X
    rw [layB_snoc X t, List.append_assoc, List.length_append, Nat.add_assoc]
theorem mid_D {C D : List kOp} {z d : kOp} : (C ++ z :: D).getD C.length d = z := by
  rw [List.getD_eq_getElem?_getD, List.getElem?_append_right (Nat.le_refl _), Nat.sub_self]
  rfl
theorem mid_ne {C D : List kOp} {z w d : kOp} {i : Nat} (h : ¬ i = C.length) : (C ++ z :: D).getD i d = (C ++ w :: D).getD i d := by
  rw [List.getD_eq_getElem?_getD, List.getD_eq_getElem?_getD]
  by_cases q : i < C.length
  · rw [List.getElem?_append_left q, List.getElem?_append_left q]
  · obtain ⟨k, hk⟩ : ∃ k, i - C.length = k + 1 := ⟨i - C.length - 1, by omega⟩
    rw [List.getElem?_append_right (by omega), List.getElem?_append_right (by omega), hk]
    rfl
/-- a step's operand put anew (wants aP: behind bq2's head) -/
theorem aP_put {μ ν : xM} {C D : List kOp} {o x : Int} {p : Int32} {j : Nat} (h : aP μ ν (C ++ (o, x) :: D)) (h0 : 0 ≤ (μ.1 13 14).toInt) (hj : j = (μ.1 13 14).toInt.toNat + C.length) : aP μ (xpi ν 22 j p) (C ++ (o, p.toInt) :: D) := by
  obtain ⟨a1, a2, a3, a4⟩ := h
  have hl : (C ++ (o, p.toInt) :: D).length = (C ++ (o, x) :: D).length := by rw [List.length_append, List.length_append, List.length_cons, List.length_cons]
  refine ⟨hOK_2 rfl a1, by rw [xpi_ne (fun q => absurd q.1 (by decide)), a2, hl], fun i hi => ⟨(xpi_ne (fun q => absurd q.1 (by decide))).trans (a3 i hi).1, (xpi_ne (fun q => by omega)).trans (a3 i hi).2⟩, fun i hi => ?_⟩
  rw [hl] at hi
  have y := a4 i hi
  rw [xpi_ne (fun q => absurd q.1 (by decide))]
  by_cases q : i = C.length
  · subst q
    rw [mid_D] at y ⊢
    exact ⟨y.1, by rw [← hj, xpi_at]⟩
  · rw [xpi_ne (fun q2 => q (by omega)), mid_ne (w := (o, x)) q]
    exact y
theorem lE_V {μ ν : xM} (h : lE μ ν) : cV ν = cV μ := gE_V (gE_l h)
set_option maxRecDepth 10000 in
set_option maxHeartbeats 4000000 in
theorem ex_leadOn2 {a : Int32} {μ μ' : xM} {r : Option zV} (h0 : Ex gx xq_233 [.inr (.inl (some 13)), .inl a] μ r μ') (hO : hOK μ) : hOK μ' ∧ ((0 ≤ a.toInt ∧ a.toInt ≤ 407) → μ' = xpi μ 22 a.toInt.toNat (μ.1 13 14)) := by
  obtain ⟨n, h⟩ := tx_in (L := [some (.inr (.inl (some 13))), some (.inl a)]) h0 rfl
  replace h := tx_iload_n (p' := 1) h em233_0 rfl rfl
  rcases tx_if (t := 21) (p' := 4) h em233_1 (by decide) rfl with ⟨c1, h⟩ | ⟨c1, h⟩
  · replace c1 : a.toInt < 0 := c1
    obtain ⟨rfl, hμ⟩ := tx_return h em233_21
    rw [hμ]
    exact ⟨hO, fun q => by exfalso; omega⟩
  · replace c1 : ¬ a.toInt < 0 := c1
    replace h := tx_iload_n (p' := 5) h em233_4 rfl rfl
    replace h := tx_sipush (v := 408) (p' := 8) h em233_5 (by decide +kernel) rfl
    rcases tx_icmp (t := 21) (p' := 11) h em233_8 (by decide) rfl with ⟨c8, h⟩ | ⟨c8, h⟩
    · replace c8 : 408 ≤ a.toInt := c8
      obtain ⟨rfl, hμ⟩ := tx_return h em233_21
      rw [hμ]
      exact ⟨hO, fun q => by exfalso; omega⟩
    · replace c8 : ¬ 408 ≤ a.toInt := c8
      replace h := tx_aload_n (p' := 12) h em233_11 rfl rfl
      replace h := tx_getc (c := 6) (j := 13) (p' := 15) h em233_12 ((congrFun xo_7 38).trans rfl) rfl rfl rfl
      replace h := tx_iload_n (p' := 16) h em233_15 rfl rfl
      replace h := tx_aload_n (p' := 17) h em233_16 rfl rfl
      replace h := tx_getf (c := 6) (j := 14) (p' := 20) h em233_17 ((congrFun xo_7 66).trans rfl) rfl rfl (by decide) rfl
      obtain ⟨hb20, h⟩ := tx_iast (len := 408) (p' := 21) h em233_20 rfl rfl
      replace hb20 : (0 : Int) ≤ a.toInt ∧ a.toInt < 408 := hb20
      obtain ⟨rfl, hμ⟩ := tx_return h em233_21
      rw [hμ]
      exact ⟨hOK_2 rfl hO, fun _ => rfl⟩
/-- a law's lists are expressions -/
def kOkL (L : kLw) : Prop := (∀ X, X ∈ L.1 → eOk 15 X.1 ∧ eOk 15 X.2.1 ∧ eOk 15 X.2.2) ∧ eOk 15 L.2
theorem kLF_if {K vl : Int → Int} {n : Nat} {a p1 p2 p3 : Int} (h : K a = 137) (h1 : pEx K (a + 1) = (p1, 0)) (h2 : pEx K (p1 + 1) = (p2, 0)) (h3 : pEx K (p2 + 1) = (p3, 0)) : kLF K vl (n + 1) a = ((ys K vl (a + 1) 0 false [], ys K vl (p1 + 1) 0 false [], ys K vl (p2 + 1) 0 false []) :: (kLF K vl n (p3 + 1)).1, (kLF K vl n (p3 + 1)).2) := by
  show (if K a = 137 then _ else _) = _
  rw [if_pos h]
  simp only [h1, h2, h3]
theorem kLF_end {K vl : Int → Int} {n : Nat} {a : Int} (h : ¬ K a = 137) : kLF K vl n a = ([], ys K vl a 0 false []) := by
  cases n with
  | zero => rfl
  | succ n => unfold kLF; rw [if_neg h]
theorem lay_br {s : Nat} {done : List (List kOp × List kOp × List kOp)} {A B C : List kOp} {p : Int} (hp : p = ((s + (layB s done).length + A.length + B.length + 1 + C.length + 1 : Nat) : Int)) : (layB s done ++ (A ++ B)) ++ (6, p) :: (C ++ [(7, 0)]) = layB s (done ++ [(A, B, C)]) := by
  rw [layB_snoc, hp]
  unfold layX
  rw [List.append_assoc, List.append_assoc]
/-- a law told by the class: its steps, its start -/
def lwZ (lw : Int32) (μ μ' : xM) : Prop := ∃ ν : xM, aP μ ν (lay (μ.1 13 14).toInt.toNat (kLF (cK μ) (cV μ) 4 (cA μ + 2))) ∧ μ' = xpi ν 20 lw.toInt.toNat (μ.1 13 14) ∧ (∀ j, ν.1 20 j = μ.1 20 j) ∧ kOkL (kLF (cK μ) (cV μ) 4 (cA μ + 2)) ∧ (ν.1 13 14).toInt ≤ 8 + cA μ'
set_option maxRecDepth 10000 in
set_option maxHeartbeats 4000000 in
theorem ex_law2 {lw : Int32} {μ μ' : xM} {r : Option zV} {e : Int} (h0 : Ex gx xq_18 [.inr (.inl (some 12)), .inl lw] μ r μ') (ha0 : 0 ≤ cA μ) (ha : cA μ ≤ e) (ht : cTV μ e) (hk2 : 2 ≤ cK μ (cA μ)) (hO : hOK μ) (hs0 : 0 ≤ (μ.1 13 14).toInt ∧ (μ.1 13 14).toInt ≤ 8 + cA μ) : (pSeq (pAcc (cK μ) (cK μ (cA μ))) (pSeq (pAcc (cK μ) 61) (wLaw (cK μ) 4)) (cA μ)).2 = 0 → lwZ lw μ μ' := by
  obtain ⟨n, h⟩ := tx_in (L := [some (.inr (.inl (some 12))), some (.inl lw), none, none, none]) h0 rfl
  have hG0 : lE μ μ := lE_p pE_rf
  have hT0 := ht
  have h400 := ht.1
  have h0s := hs0.1
  have loop : ∀ (n : Nat) (ifs : Int32) (m : Nat) (ν : xM) (done : List (List kOp × List kOp × List kOp)) {o : Option zV}, eT xq_18 n 31 [some (.inr (.inl (some 12))), some (.inl lw), some (.inl (μ.1 13 14)), some (.inl ifs), o] [] ν r μ' → 0 ≤ ifs.toInt → ifs.toInt + (m : Int) = 4 → lE μ ν → cTV ν e → cA μ < cA ν → cA ν ≤ e → 0 ≤ cA ν → aP μ ν (layB (μ.1 13 14).toInt.toNat done) → kLF (cK μ) (cV μ) 4 (cA μ + 2) = (done ++ (kLF (cK μ) (cV μ) m (cA ν)).1, (kLF (cK μ) (cV μ) m (cA ν)).2) → (∀ X, X ∈ done → eOk 15 X.1 ∧ eOk 15 X.2.1 ∧ eOk 15 X.2.2) → (∀ j, ν.1 20 j = μ.1 20 j) → (ν.1 13 14).toInt ≤ 8 + cA ν - 2 → (wLaw (cK μ) m (cA ν)).2 = 0 → lwZ lw μ μ' := by
    intro n
    induction n using Nat.strongRecOn with
    | ind n ih =>
    intro ifs m ν done o h hi0 hi4 hGν hTν hl hle h0a hC hL hk h20 hb
    have hsν := hC.2.1
    replace h := tx_aload_n (p' := 32) h em18_31 rfl rfl
    obtain ⟨r32, μ32, hE32, h⟩ := tx_invV (na := 1) (mn := 13) (as := [.inr (.inl (some 12))]) (rest := []) (p' := 35) h em18_32 ((congrFun xo_3 53).trans rfl) xm_13 rfl rfl
    obtain ⟨rfl, hm⟩ := ex_next hE32 (by have := ht.1; omega)
    rw [hm] at h
    replace h : eT xq_18 _ 35 [some (.inr (.inl (some 12))), some (.inl lw), some (.inl (μ.1 13 14)), some (.inl ifs), o] [.inl (ν.1 24 (cA ν).toNat)] ν r μ' := h
    replace h := tx_sipush (v := 137) (p' := 38) h em18_35 (by decide +kernel) rfl
    rcases tx_icmp (t := 162) (p' := 41) h em18_38 (by decide) rfl with ⟨c38, h⟩ | ⟨c38, h⟩
    · replace c38 : ¬ (ν.1 24 (cA ν).toNat).toInt = 137 := c38
      replace h := tx_aload_n (p' := 163) h em18_162 rfl rfl
      replace h := tx_iconst (v := 0) (p' := 164) h em18_163 (by decide +kernel) rfl
      obtain ⟨r164, μ164, hE164, h⟩ := tx_invV (na := 2) (mn := 234) (as := [.inr (.inl (some 12)), .inl (0 : Int32)]) (rest := []) (p' := 167) h em18_164 ((congrFun xo_3 150).trans rfl) xm_234 rfl rfl
      obtain ⟨hg164, ⟨rfl, a164l, a164e, a164x, a1644, a1645⟩ | ⟨rfl, p164, f164, a164x, a164f, a1644, a1645⟩⟩ := st_sum (e := e) hE164 (by omega) (by omega) hTν
      · have hG164 := lE_tr hGν (lE_p hg164)
        have hT164 := lE_TV hG164 ht
        rw [lE_K hGν] at a164x
        obtain ⟨hS164, hl164, hk164⟩ := ex_sum2 hE164 (by omega) (by omega) hTν hC.1 (by omega)
        rw [lE_K hGν, lE_V hGν] at hS164 hl164 hk164
        have hs164 := hS164.2.1
        replace h : eT xq_18 _ 167 [some (.inr (.inl (some 12))), some (.inl lw), some (.inl (μ.1 13 14)), some (.inl ifs), o] [.inl (1 : Int32)] μ164 r μ' := h
        rcases tx_if (t := 179) (p' := 170) h em18_167 (by decide) rfl with ⟨c167, h⟩ | ⟨c167, h⟩
        · replace c167 : (1 : Int) = (0 : Int) := c167
          exfalso
          omega
        · replace c167 : ¬ (1 : Int) = (0 : Int) := c167
          replace h := tx_aload_n (p' := 171) h em18_170 rfl rfl
          replace h := tx_bipush (v := 59) (p' := 173) h em18_171 (by decide +kernel) rfl
          obtain ⟨r173, μ173, hE173, h⟩ := tx_invV (na := 2) (mn := 9) (as := [.inr (.inl (some 12)), .inl (59 : Int32)]) (rest := []) (p' := 176) h em18_173 ((congrFun xo_3 89).trans rfl) xm_9 rfl rfl
          have hS173 := sE_w (μ := μ164) (by decide +kernel) (hf_9_0 hE173 (hEn0 (by decide)) hS164.1).2 hS164.1
          have hs173 : (μ173.1 13 14).toInt = (μ164.1 13 14).toInt := by rw [hS173.2 13 14 (by decide) (by decide)]
          obtain ⟨hg173, ⟨rfl, a173l, a173e, a173x, a1734, a1735⟩ | ⟨rfl, p173, f173, a173x, a173f, a1734, a1735⟩⟩ := st_acc (e := e) (k0 := 59) hE173 (by omega) (by omega) hT164 (by decide) (by decide)
          · have hG173 := lE_tr hG164 (lE_p hg173)
            have hT173 := lE_TV hG173 ht
            rw [lE_K hG164] at a173x
            replace h : eT xq_18 _ 176 [some (.inr (.inl (some 12))), some (.inl lw), some (.inl (μ.1 13 14)), some (.inl ifs), o] [.inl (1 : Int32)] μ173 r μ' := h
            rcases tx_if (t := 180) (p' := 179) h em18_176 (by decide) rfl with ⟨c176, h⟩ | ⟨c176, h⟩
            · replace c176 : ¬ (1 : Int) = (0 : Int) := c176
              replace h := tx_aload_n (p' := 181) h em18_180 rfl rfl
              replace h := tx_getc (c := 2) (j := 0) (p' := 184) h em18_181 ((congrFun xo_3 12).trans rfl) rfl rfl rfl
              replace h := tx_bipush (v := 7) (p' := 186) h em18_184 (by decide +kernel) rfl
              replace h := tx_iconst (v := 0) (p' := 187) h em18_186 (by decide +kernel) rfl
              obtain ⟨r187, μ187, hE187, h⟩ := tx_invV (na := 3) (mn := 43) (as := [.inr (.inl (some 13)), .inl (7 : Int32), .inl (0 : Int32)]) (rest := []) (p' := 190) h em18_187 ((congrFun xo_3 153).trans rfl) xm_43 rfl rfl
              have hS187 := ex_add2 hE187 hS173.1 (by omega)
              have hT0187 := hS187.2 (by omega)
              have hs187 : (μ187.1 13 14).toInt = (μ173.1 13 14).toInt + 1 := hT0187.2.1
              obtain ⟨rfl, hg187, hb187⟩ := ex_add hE187
              have ha187 : cA μ187 = cA μ173 := by unfold cA; rw [hb187]
              have hG187 := lE_tr hG173 (lE_p hg187)
              have hT187 := lE_TV hG187 ht
              replace h : eT xq_18 _ 190 [some (.inr (.inl (some 12))), some (.inl lw), some (.inl (μ.1 13 14)), some (.inl ifs), o] [] μ187 r μ' := h
              replace h := tx_aload_n (p' := 191) h em18_190 rfl rfl
              replace h := tx_getc (c := 2) (j := 0) (p' := 194) h em18_191 ((congrFun xo_3 12).trans rfl) rfl rfl rfl
              replace h := tx_getc (c := 6) (j := 11) (p' := 197) h em18_194 ((congrFun xo_3 160).trans rfl) rfl rfl rfl
              replace h := tx_iload_n (p' := 198) h em18_197 rfl rfl
              replace h := tx_iload_n (p' := 199) h em18_198 rfl rfl
              obtain ⟨hb199, h⟩ := tx_iast (len := 4) (p' := 200) h em18_199 rfl rfl
              replace hb199 : (0 : Int) ≤ lw.toInt ∧ lw.toInt < 4 := hb199
              obtain ⟨rfl, hμ⟩ := tx_return h em18_200
              have hkn : ¬ cK μ (cA ν) = 137 := by rw [← lE_K hGν]; unfold cK; omega
              intro _
              have H1 := aP_tr h0s hC hS164
              have H2 := aP_tr h0s (aP_r h0s H1 hS173) hT0187
              have eL : kLF (cK μ) (cV μ) 4 (cA μ + 2) = (done, ys (cK μ) (cV μ) (cA ν) 0 false []) := by
                rw [hL, kLF_end hkn, List.append_nil]
              have hsν := hC.2.1
              rw [hμ]
              refine ⟨μ187, ?_, rfl, fun j => (hg187.1 20 j (by decide) (by decide) (by decide) (by decide)).trans ((hg173.1 20 j (by decide) (by decide) (by decide) (by decide)).trans ((hg164.1 20 j (by decide) (by decide) (by decide) (by decide)).trans (h20 j))), ?_, ?_⟩
              · rw [eL]
                unfold lay
                rw [show (7 : Int32).toInt = 7 by decide, show (0 : Int32).toInt = 0 by decide, List.append_assoc] at H2
                exact H2
              · rw [eL]
                exact ⟨hk, hk164⟩
              · have e20 : cA (xpi μ187 20 lw.toInt.toNat (μ.1 13 14)) = cA μ187 := by unfold cA; rw [xpi_ne (fun q => absurd q.1 (by decide))]
                rw [e20]
                omega
            · replace c176 : ¬ ¬ (1 : Int) = (0 : Int) := c176
              exfalso
              omega
          · have hG173 := lE_tr hG164 (lE_p hg173)
            have hT173 := lE_TV hG173 ht
            rw [lE_K hG164] at a173x
            rw [lE_P hG164] at a1735
            replace h : eT xq_18 _ 176 [some (.inr (.inl (some 12))), some (.inl lw), some (.inl (μ.1 13 14)), some (.inl ifs), o] [.inl (0 : Int32)] μ173 r μ' := h
            rcases tx_if (t := 180) (p' := 179) h em18_176 (by decide) rfl with ⟨c176_1, h⟩ | ⟨c176_1, h⟩
            · replace c176_1 : ¬ (0 : Int) = (0 : Int) := c176_1
              exfalso
              omega
            · replace c176_1 : ¬ ¬ (0 : Int) = (0 : Int) := c176_1
              obtain ⟨rfl, hμ⟩ := tx_return h em18_179
              have hkn : ¬ cK μ (cA ν) = 137 := by rw [← lE_K hGν]; unfold cK; omega
              rw [wLaw_end hkn, (pSeq_y a164x).trans (a173x)]
              exact fun hz => absurd hz a173f
      · have hG164 := lE_tr hGν (lE_p hg164)
        have hT164 := lE_TV hG164 ht
        rw [lE_K hGν] at a164x
        rw [lE_P hGν] at a1645
        replace h : eT xq_18 _ 167 [some (.inr (.inl (some 12))), some (.inl lw), some (.inl (μ.1 13 14)), some (.inl ifs), o] [.inl (0 : Int32)] μ164 r μ' := h
        rcases tx_if (t := 179) (p' := 170) h em18_167 (by decide) rfl with ⟨c167_1, h⟩ | ⟨c167_1, h⟩
        · replace c167_1 : (0 : Int) = (0 : Int) := c167_1
          obtain ⟨rfl, hμ⟩ := tx_return h em18_179
          have hkn : ¬ cK μ (cA ν) = 137 := by rw [← lE_K hGν]; unfold cK; omega
          rw [wLaw_end hkn, pSeq_n a164x a164f]
          exact fun hz => absurd hz a164f
        · replace c167_1 : ¬ (0 : Int) = (0 : Int) := c167_1
          exfalso
          omega
    · replace c38 : ¬ ¬ (ν.1 24 (cA ν).toNat).toInt = 137 := c38
      replace h := tx_iload_n (p' := 42) h em18_41 rfl rfl
      replace h := tx_iconst (v := 4) (p' := 43) h em18_42 (by decide +kernel) rfl
      rcases tx_icmp (t := 53) (p' := 46) h em18_43 (by decide) rfl with ⟨c43, h⟩ | ⟨c43, h⟩
      · replace c43 : ifs.toInt < 4 := c43
        replace h := tx_aload_n (p' := 54) h em18_53 rfl rfl
        replace h := tx_sipush (v := 137) (p' := 57) h em18_54 (by decide +kernel) rfl
        obtain ⟨r57, μ57, hE57, h⟩ := tx_invV (na := 2) (mn := 9) (as := [.inr (.inl (some 12)), .inl (137 : Int32)]) (rest := []) (p' := 60) h em18_57 ((congrFun xo_3 89).trans rfl) xm_9 rfl rfl
        have hS57 := sE_w (μ := ν) (by decide +kernel) (hf_9_0 hE57 (hEn0 (by decide)) hC.1).2 hC.1
        have hs57 : (μ57.1 13 14).toInt = (ν.1 13 14).toInt := by rw [hS57.2 13 14 (by decide) (by decide)]
        obtain ⟨hg57, ⟨rfl, a57l, a57e, a57x, a574, a575⟩ | ⟨rfl, p57, f57, a57x, a57f, a574, a575⟩⟩ := st_acc (e := e) (k0 := 137) hE57 (by omega) (by omega) hTν (by decide) (by decide)
        · have hG57 := lE_tr hGν (lE_p hg57)
          have hT57 := lE_TV hG57 ht
          rw [lE_K hGν] at a57x
          replace h : eT xq_18 _ 60 [some (.inr (.inl (some 12))), some (.inl lw), some (.inl (μ.1 13 14)), some (.inl ifs), o] [.inl (1 : Int32)] μ57 r μ' := h
          rcases tx_if (t := 88) (p' := 63) h em18_60 (by decide) rfl with ⟨c60, h⟩ | ⟨c60, h⟩
          · replace c60 : (1 : Int) = (0 : Int) := c60
            exfalso
            omega
          · replace c60 : ¬ (1 : Int) = (0 : Int) := c60
            replace h := tx_aload_n (p' := 64) h em18_63 rfl rfl
            replace h := tx_iconst (v := 0) (p' := 65) h em18_64 (by decide +kernel) rfl
            obtain ⟨r65, μ65, hE65, h⟩ := tx_invV (na := 2) (mn := 234) (as := [.inr (.inl (some 12)), .inl (0 : Int32)]) (rest := []) (p' := 68) h em18_65 ((congrFun xo_3 150).trans rfl) xm_234 rfl rfl
            obtain ⟨hg65, ⟨rfl, a65l, a65e, a65x, a654, a655⟩ | ⟨rfl, p65, f65, a65x, a65f, a654, a655⟩⟩ := st_sum (e := e) hE65 (by omega) (by omega) hT57
            · have hG65 := lE_tr hG57 (lE_p hg65)
              have hT65 := lE_TV hG65 ht
              rw [lE_K hG57] at a65x
              obtain ⟨hS65, hl65, hk65⟩ := ex_sum2 hE65 (by omega) (by omega) hT57 hS57.1 (by omega)
              rw [lE_K hG57, lE_V hG57] at hS65 hl65 hk65
              have hs65 := hS65.2.1
              replace h : eT xq_18 _ 68 [some (.inr (.inl (some 12))), some (.inl lw), some (.inl (μ.1 13 14)), some (.inl ifs), o] [.inl (1 : Int32)] μ65 r μ' := h
              rcases tx_if (t := 88) (p' := 71) h em18_68 (by decide) rfl with ⟨c68, h⟩ | ⟨c68, h⟩
              · replace c68 : (1 : Int) = (0 : Int) := c68
                exfalso
                omega
              · replace c68 : ¬ (1 : Int) = (0 : Int) := c68
                replace h := tx_aload_n (p' := 72) h em18_71 rfl rfl
                replace h := tx_bipush (v := 60) (p' := 74) h em18_72 (by decide +kernel) rfl
                obtain ⟨r74, μ74, hE74, h⟩ := tx_invV (na := 2) (mn := 9) (as := [.inr (.inl (some 12)), .inl (60 : Int32)]) (rest := []) (p' := 77) h em18_74 ((congrFun xo_3 89).trans rfl) xm_9 rfl rfl
                have hS74 := sE_w (μ := μ65) (by decide +kernel) (hf_9_0 hE74 (hEn0 (by decide)) hS65.1).2 hS65.1
                have hs74 : (μ74.1 13 14).toInt = (μ65.1 13 14).toInt := by rw [hS74.2 13 14 (by decide) (by decide)]
                obtain ⟨hg74, ⟨rfl, a74l, a74e, a74x, a744, a745⟩ | ⟨rfl, p74, f74, a74x, a74f, a744, a745⟩⟩ := st_acc (e := e) (k0 := 60) hE74 (by omega) (by omega) hT65 (by decide) (by decide)
                · have hG74 := lE_tr hG65 (lE_p hg74)
                  have hT74 := lE_TV hG74 ht
                  rw [lE_K hG65] at a74x
                  replace h : eT xq_18 _ 77 [some (.inr (.inl (some 12))), some (.inl lw), some (.inl (μ.1 13 14)), some (.inl ifs), o] [.inl (1 : Int32)] μ74 r μ' := h
                  rcases tx_if (t := 88) (p' := 80) h em18_77 (by decide) rfl with ⟨c77, h⟩ | ⟨c77, h⟩
                  · replace c77 : (1 : Int) = (0 : Int) := c77
                    exfalso
                    omega
                  · replace c77 : ¬ (1 : Int) = (0 : Int) := c77
                    replace h := tx_aload_n (p' := 81) h em18_80 rfl rfl
                    replace h := tx_iconst (v := 0) (p' := 82) h em18_81 (by decide +kernel) rfl
                    obtain ⟨r82, μ82, hE82, h⟩ := tx_invV (na := 2) (mn := 234) (as := [.inr (.inl (some 12)), .inl (0 : Int32)]) (rest := []) (p' := 85) h em18_82 ((congrFun xo_3 150).trans rfl) xm_234 rfl rfl
                    obtain ⟨hg82, ⟨rfl, a82l, a82e, a82x, a824, a825⟩ | ⟨rfl, p82, f82, a82x, a82f, a824, a825⟩⟩ := st_sum (e := e) hE82 (by omega) (by omega) hT74
                    · have hG82 := lE_tr hG74 (lE_p hg82)
                      have hT82 := lE_TV hG82 ht
                      rw [lE_K hG74] at a82x
                      obtain ⟨hS82, hl82, hk82⟩ := ex_sum2 hE82 (by omega) (by omega) hT74 hS74.1 (by omega)
                      rw [lE_K hG74, lE_V hG74] at hS82 hl82 hk82
                      have hs82 := hS82.2.1
                      replace h : eT xq_18 _ 85 [some (.inr (.inl (some 12))), some (.inl lw), some (.inl (μ.1 13 14)), some (.inl ifs), o] [.inl (1 : Int32)] μ82 r μ' := h
                      rcases tx_if (t := 89) (p' := 88) h em18_85 (by decide) rfl with ⟨c85, h⟩ | ⟨c85, h⟩
                      · replace c85 : ¬ (1 : Int) = (0 : Int) := c85
                        replace h := tx_aload_n (p' := 90) h em18_89 rfl rfl
                        replace h := tx_getc (c := 2) (j := 0) (p' := 93) h em18_90 ((congrFun xo_3 12).trans rfl) rfl rfl rfl
                        replace h := tx_getf (c := 6) (j := 14) (p' := 96) h em18_93 ((congrFun xo_3 147).trans rfl) rfl rfl (by decide) rfl
                        replace h := tx_istore (p' := 98) h em18_96 rfl
                        replace h : eT xq_18 _ 98 [some (.inr (.inl (some 12))), some (.inl lw), some (.inl (μ.1 13 14)), some (.inl ifs), some (.inl (μ82.1 13 14))] [] μ82 r μ' := h
                        replace h := tx_aload_n (p' := 99) h em18_98 rfl rfl
                        replace h := tx_getc (c := 2) (j := 0) (p' := 102) h em18_99 ((congrFun xo_3 12).trans rfl) rfl rfl rfl
                        replace h := tx_bipush (v := 6) (p' := 104) h em18_102 (by decide +kernel) rfl
                        replace h := tx_iconst (v := 0) (p' := 105) h em18_104 (by decide +kernel) rfl
                        obtain ⟨r105, μ105, hE105, h⟩ := tx_invV (na := 3) (mn := 43) (as := [.inr (.inl (some 13)), .inl (6 : Int32), .inl (0 : Int32)]) (rest := []) (p' := 108) h em18_105 ((congrFun xo_3 153).trans rfl) xm_43 rfl rfl
                        have hS105 := ex_add2 hE105 hS82.1 (by omega)
                        have hT0105 := hS105.2 (by omega)
                        have hs105 : (μ105.1 13 14).toInt = (μ82.1 13 14).toInt + 1 := hT0105.2.1
                        obtain ⟨rfl, hg105, hb105⟩ := ex_add hE105
                        have ha105 : cA μ105 = cA μ82 := by unfold cA; rw [hb105]
                        have hG105 := lE_tr hG82 (lE_p hg105)
                        have hT105 := lE_TV hG105 ht
                        replace h : eT xq_18 _ 108 [some (.inr (.inl (some 12))), some (.inl lw), some (.inl (μ.1 13 14)), some (.inl ifs), some (.inl (μ82.1 13 14))] [] μ105 r μ' := h
                        replace h := tx_aload_n (p' := 109) h em18_108 rfl rfl
                        replace h := tx_sipush (v := 138) (p' := 112) h em18_109 (by decide +kernel) rfl
                        obtain ⟨r112, μ112, hE112, h⟩ := tx_invV (na := 2) (mn := 9) (as := [.inr (.inl (some 12)), .inl (138 : Int32)]) (rest := []) (p' := 115) h em18_112 ((congrFun xo_3 89).trans rfl) xm_9 rfl rfl
                        have hS112 := sE_w (μ := μ105) (by decide +kernel) (hf_9_0 hE112 (hEn0 (by decide)) hS105.1).2 hS105.1
                        have hs112 : (μ112.1 13 14).toInt = (μ105.1 13 14).toInt := by rw [hS112.2 13 14 (by decide) (by decide)]
                        obtain ⟨hg112, ⟨rfl, a112l, a112e, a112x, a1124, a1125⟩ | ⟨rfl, p112, f112, a112x, a112f, a1124, a1125⟩⟩ := st_acc (e := e) (k0 := 138) hE112 (by omega) (by omega) hT105 (by decide) (by decide)
                        · have hG112 := lE_tr hG105 (lE_p hg112)
                          have hT112 := lE_TV hG112 ht
                          rw [lE_K hG105] at a112x
                          rw [ha105] at a112x
                          replace h : eT xq_18 _ 115 [some (.inr (.inl (some 12))), some (.inl lw), some (.inl (μ.1 13 14)), some (.inl ifs), some (.inl (μ82.1 13 14))] [.inl (1 : Int32)] μ112 r μ' := h
                          rcases tx_if (t := 136) (p' := 118) h em18_115 (by decide) rfl with ⟨c115, h⟩ | ⟨c115, h⟩
                          · replace c115 : (1 : Int) = (0 : Int) := c115
                            exfalso
                            omega
                          · replace c115 : ¬ (1 : Int) = (0 : Int) := c115
                            replace h := tx_aload_n (p' := 119) h em18_118 rfl rfl
                            replace h := tx_iconst (v := 0) (p' := 120) h em18_119 (by decide +kernel) rfl
                            obtain ⟨r120, μ120, hE120, h⟩ := tx_invV (na := 2) (mn := 234) (as := [.inr (.inl (some 12)), .inl (0 : Int32)]) (rest := []) (p' := 123) h em18_120 ((congrFun xo_3 150).trans rfl) xm_234 rfl rfl
                            obtain ⟨hg120, ⟨rfl, a120l, a120e, a120x, a1204, a1205⟩ | ⟨rfl, p120, f120, a120x, a120f, a1204, a1205⟩⟩ := st_sum (e := e) hE120 (by omega) (by omega) hT112
                            · have hG120 := lE_tr hG112 (lE_p hg120)
                              have hT120 := lE_TV hG120 ht
                              rw [lE_K hG112] at a120x
                              obtain ⟨hS120, hl120, hk120⟩ := ex_sum2 hE120 (by omega) (by omega) hT112 hS112.1 (by omega)
                              rw [lE_K hG112, lE_V hG112] at hS120 hl120 hk120
                              have hs120 := hS120.2.1
                              replace h : eT xq_18 _ 123 [some (.inr (.inl (some 12))), some (.inl lw), some (.inl (μ.1 13 14)), some (.inl ifs), some (.inl (μ82.1 13 14))] [.inl (1 : Int32)] μ120 r μ' := h
                              rcases tx_if (t := 136) (p' := 126) h em18_123 (by decide) rfl with ⟨c123, h⟩ | ⟨c123, h⟩
                              · replace c123 : (1 : Int) = (0 : Int) := c123
                                exfalso
                                omega
                              · replace c123 : ¬ (1 : Int) = (0 : Int) := c123
                                replace h := tx_aload_n (p' := 127) h em18_126 rfl rfl
                                replace h := tx_sipush (v := 139) (p' := 130) h em18_127 (by decide +kernel) rfl
                                obtain ⟨r130, μ130, hE130, h⟩ := tx_invV (na := 2) (mn := 9) (as := [.inr (.inl (some 12)), .inl (139 : Int32)]) (rest := []) (p' := 133) h em18_130 ((congrFun xo_3 89).trans rfl) xm_9 rfl rfl
                                have hS130 := sE_w (μ := μ120) (by decide +kernel) (hf_9_0 hE130 (hEn0 (by decide)) hS120.1).2 hS120.1
                                have hs130 : (μ130.1 13 14).toInt = (μ120.1 13 14).toInt := by rw [hS130.2 13 14 (by decide) (by decide)]
                                obtain ⟨hg130, ⟨rfl, a130l, a130e, a130x, a1304, a1305⟩ | ⟨rfl, p130, f130, a130x, a130f, a1304, a1305⟩⟩ := st_acc (e := e) (k0 := 139) hE130 (by omega) (by omega) hT120 (by decide) (by decide)
                                · have hG130 := lE_tr hG120 (lE_p hg130)
                                  have hT130 := lE_TV hG130 ht
                                  rw [lE_K hG120] at a130x
                                  replace h : eT xq_18 _ 133 [some (.inr (.inl (some 12))), some (.inl lw), some (.inl (μ.1 13 14)), some (.inl ifs), some (.inl (μ82.1 13 14))] [.inl (1 : Int32)] μ130 r μ' := h
                                  rcases tx_if (t := 137) (p' := 136) h em18_133 (by decide) rfl with ⟨c133, h⟩ | ⟨c133, h⟩
                                  · replace c133 : ¬ (1 : Int) = (0 : Int) := c133
                                    replace h := tx_aload_n (p' := 138) h em18_137 rfl rfl
                                    replace h := tx_getc (c := 2) (j := 0) (p' := 141) h em18_138 ((congrFun xo_3 12).trans rfl) rfl rfl rfl
                                    replace h := tx_bipush (v := 7) (p' := 143) h em18_141 (by decide +kernel) rfl
                                    replace h := tx_iconst (v := 0) (p' := 144) h em18_143 (by decide +kernel) rfl
                                    obtain ⟨r144, μ144, hE144, h⟩ := tx_invV (na := 3) (mn := 43) (as := [.inr (.inl (some 13)), .inl (7 : Int32), .inl (0 : Int32)]) (rest := []) (p' := 147) h em18_144 ((congrFun xo_3 153).trans rfl) xm_43 rfl rfl
                                    have hS144 := ex_add2 hE144 hS130.1 (by omega)
                                    have hT0144 := hS144.2 (by omega)
                                    have hs144 : (μ144.1 13 14).toInt = (μ130.1 13 14).toInt + 1 := hT0144.2.1
                                    obtain ⟨rfl, hg144, hb144⟩ := ex_add hE144
                                    have ha144 : cA μ144 = cA μ130 := by unfold cA; rw [hb144]
                                    have hG144 := lE_tr hG130 (lE_p hg144)
                                    have hT144 := lE_TV hG144 ht
                                    replace h : eT xq_18 _ 147 [some (.inr (.inl (some 12))), some (.inl lw), some (.inl (μ.1 13 14)), some (.inl ifs), some (.inl (μ82.1 13 14))] [] μ144 r μ' := h
                                    replace h := tx_aload_n (p' := 148) h em18_147 rfl rfl
                                    replace h := tx_getc (c := 2) (j := 0) (p' := 151) h em18_148 ((congrFun xo_3 12).trans rfl) rfl rfl rfl
                                    replace h := tx_iload (p' := 153) h em18_151 rfl rfl
                                    obtain ⟨r153, μ153, hE153, h⟩ := tx_invV (na := 2) (mn := 233) (as := [.inr (.inl (some 13)), .inl (μ82.1 13 14)]) (rest := []) (p' := 156) h em18_153 ((congrFun xo_3 157).trans rfl) xm_233 rfl rfl
                                    have hS153 := ex_leadOn2 hE153 hS144.1
                                    have hp153 := hS153.2 (by omega)
                                    obtain ⟨rfl, hg153, hb153⟩ := ex_leadOn hE153
                                    have ha153 : cA μ153 = cA μ144 := by unfold cA; rw [hb153]
                                    have hG153 := lE_tr hG144 (hg153)
                                    have hT153 := lE_TV hG153 ht
                                    replace h : eT xq_18 _ 156 [some (.inr (.inl (some 12))), some (.inl lw), some (.inl (μ.1 13 14)), some (.inl ifs), some (.inl (μ82.1 13 14))] [] μ153 r μ' := h
                                    replace h := tx_iinc (v := 1) (p' := 159) h em18_156 (by decide +kernel) rfl rfl
                                    replace h : eT xq_18 _ 159 [some (.inr (.inl (some 12))), some (.inl lw), some (.inl (μ.1 13 14)), some (.inl (ifs + 1)), some (.inl (μ82.1 13 14))] [] μ153 r μ' := h
                                    obtain ⟨n2, hn2, h⟩ := tx_gotoS (t := 31) h em18_159 (by decide)
                                    have hk137 : cK μ (cA ν) = 137 := by rw [← lE_K hGν]; unfold cK; omega
                                    obtain ⟨m2, rfl⟩ : ∃ m2, m = m2 + 1 := ⟨m - 1, by omega⟩
                                    have e1i : (1 : Int32).toInt = 1 := by decide
                                    have hi1 : (ifs + 1).toInt = ifs.toInt + 1 := by rw [an_add (by rw [e1i]; omega) (by rw [e1i]; omega), e1i]
                                    rw [wLaw_if hk137, ((((((pSeq_y a57x).trans (pSeq_y a65x)).trans (pSeq_y a74x)).trans (pSeq_y a82x)).trans (pSeq_y a112x)).trans (pSeq_y a120x)).trans (pSeq_y a130x)]
                                    have q57 := (pAcc_v a57x).2
                                    have q74 := (pAcc_v a74x).2
                                    have q112 := (pAcc_v a112x).2
                                    have q130 := (pAcc_v a130x).2
                                    have H1 := aP_tr h0s (aP_r h0s hC hS57) hS65
                                    have H2 := aP_tr h0s (aP_r h0s H1 hS74) hS82
                                    have H3 := aP_tr h0s (aP_r h0s (aP_tr h0s H2 hT0105) hS112) hS120
                                    have H4 := aP_tr h0s (aP_r h0s H3 hS130) hT0144
                                    rw [q57] at H4 hl65 hk65 hs65
                                    rw [q74] at H4 hl82 hk82 hs82
                                    rw [q112] at H4 hl120 hk120 hs120
                                    rw [q57] at a65x
                                    rw [q74] at a82x
                                    rw [q112] at a120x
                                    generalize hA : ys (cK μ) (cV μ) (cA ν + 1) 0 false [] = A at *
                                    generalize hB : ys (cK μ) (cV μ) (cA μ65 + 1) 0 false [] = B at *
                                    generalize hCC : ys (cK μ) (cV μ) (cA μ82 + 1) 0 false [] = C at *
                                    have hH : aP μ μ144 ((layB (μ.1 13 14).toInt.toNat done ++ (A ++ B)) ++ ((6 : Int), (0 : Int)) :: (C ++ [((7 : Int), (0 : Int))])) := by
                                      rw [show (6 : Int32).toInt = 6 by decide, show (0 : Int32).toInt = 0 by decide, show (7 : Int32).toInt = 7 by decide] at H4
                                      simp only [List.append_assoc, List.cons_append, List.nil_append] at H4 ⊢
                                      exact H4
                                    have hsν := hC.2.1
                                    have hj : (μ82.1 13 14).toInt.toNat = (μ.1 13 14).toInt.toNat + (layB (μ.1 13 14).toInt.toNat done ++ (A ++ B)).length := by
                                      rw [List.length_append, List.length_append]
                                      omega
                                    have h5 := aP_put (p := μ144.1 13 14) hH h0s hj
                                    rw [← hp153, lay_br (by omega)] at h5
                                    have hL2 : kLF (cK μ) (cV μ) 4 (cA μ + 2) = ((done ++ [(A, B, C)]) ++ (kLF (cK μ) (cV μ) m2 (cA μ153)).1, (kLF (cK μ) (cV μ) m2 (cA μ153)).2) := by
                                      rw [hL, kLF_if hk137 a65x a82x a120x, hA, hB, hCC, show cA μ120 + 1 = cA μ153 by omega, List.append_assoc]
                                      rfl
                                    have hs5 : (μ153.1 13 14).toInt = (μ144.1 13 14).toInt := by rw [hp153, xpi_ne (fun q => absurd q.1 (by decide))]
                                    have hcc := ih n2 hn2 _ m2 _ _ h (by rw [hi1]; omega) (by rw [hi1]; omega) hG153 hT153 (by omega) (by omega) (by omega) h5 hL2 (fun X hX => ?_) (fun j => ?_) (by omega)
                                    · rw [show cA μ153 = cA μ130 by omega] at hcc
                                      exact hcc
                                    · rcases List.mem_append.mp hX with hX | hX
                                      · exact hk X hX
                                      · rw [List.mem_singleton.mp hX]
                                        exact ⟨hk65, hk82, hk120⟩
                                    · rw [hp153, xpi_ne (fun q => absurd q.1 (by decide))]
                                      exact (hg144.1 20 j (by decide) (by decide) (by decide) (by decide)).trans ((hg130.1 20 j (by decide) (by decide) (by decide) (by decide)).trans ((hg120.1 20 j (by decide) (by decide) (by decide) (by decide)).trans ((hg112.1 20 j (by decide) (by decide) (by decide) (by decide)).trans ((hg105.1 20 j (by decide) (by decide) (by decide) (by decide)).trans ((hg82.1 20 j (by decide) (by decide) (by decide) (by decide)).trans ((hg74.1 20 j (by decide) (by decide) (by decide) (by decide)).trans ((hg65.1 20 j (by decide) (by decide) (by decide) (by decide)).trans ((hg57.1 20 j (by decide) (by decide) (by decide) (by decide)).trans (h20 j)))))))))
                                  · replace c133 : ¬ ¬ (1 : Int) = (0 : Int) := c133
                                    exfalso
                                    omega
                                · have hG130 := lE_tr hG120 (lE_p hg130)
                                  have hT130 := lE_TV hG130 ht
                                  rw [lE_K hG120] at a130x
                                  rw [lE_P hG120] at a1305
                                  replace h : eT xq_18 _ 133 [some (.inr (.inl (some 12))), some (.inl lw), some (.inl (μ.1 13 14)), some (.inl ifs), some (.inl (μ82.1 13 14))] [.inl (0 : Int32)] μ130 r μ' := h
                                  rcases tx_if (t := 137) (p' := 136) h em18_133 (by decide) rfl with ⟨c133_1, h⟩ | ⟨c133_1, h⟩
                                  · replace c133_1 : ¬ (0 : Int) = (0 : Int) := c133_1
                                    exfalso
                                    omega
                                  · replace c133_1 : ¬ ¬ (0 : Int) = (0 : Int) := c133_1
                                    obtain ⟨rfl, hμ⟩ := tx_return h em18_136
                                    have hk137 : cK μ (cA ν) = 137 := by rw [← lE_K hGν]; unfold cK; omega
                                    obtain ⟨m2, rfl⟩ : ∃ m2, m = m2 + 1 := ⟨m - 1, by omega⟩
                                    rw [wLaw_if hk137, ((((((pSeq_y a57x).trans (pSeq_y a65x)).trans (pSeq_y a74x)).trans (pSeq_y a82x)).trans (pSeq_y a112x)).trans (pSeq_y a120x)).trans (pSeq_n a130x a130f)]
                                    exact fun hz => absurd hz a130f
                            · have hG120 := lE_tr hG112 (lE_p hg120)
                              have hT120 := lE_TV hG120 ht
                              rw [lE_K hG112] at a120x
                              rw [lE_P hG112] at a1205
                              replace h : eT xq_18 _ 123 [some (.inr (.inl (some 12))), some (.inl lw), some (.inl (μ.1 13 14)), some (.inl ifs), some (.inl (μ82.1 13 14))] [.inl (0 : Int32)] μ120 r μ' := h
                              rcases tx_if (t := 136) (p' := 126) h em18_123 (by decide) rfl with ⟨c123_1, h⟩ | ⟨c123_1, h⟩
                              · replace c123_1 : (0 : Int) = (0 : Int) := c123_1
                                obtain ⟨rfl, hμ⟩ := tx_return h em18_136
                                have hk137 : cK μ (cA ν) = 137 := by rw [← lE_K hGν]; unfold cK; omega
                                obtain ⟨m2, rfl⟩ : ∃ m2, m = m2 + 1 := ⟨m - 1, by omega⟩
                                rw [wLaw_if hk137, (((((pSeq_y a57x).trans (pSeq_y a65x)).trans (pSeq_y a74x)).trans (pSeq_y a82x)).trans (pSeq_y a112x)).trans (pSeq_n a120x a120f)]
                                exact fun hz => absurd hz a120f
                              · replace c123_1 : ¬ (0 : Int) = (0 : Int) := c123_1
                                exfalso
                                omega
                        · have hG112 := lE_tr hG105 (lE_p hg112)
                          have hT112 := lE_TV hG112 ht
                          rw [lE_K hG105] at a112x
                          rw [ha105] at a112x
                          rw [lE_P hG105] at a1125
                          replace h : eT xq_18 _ 115 [some (.inr (.inl (some 12))), some (.inl lw), some (.inl (μ.1 13 14)), some (.inl ifs), some (.inl (μ82.1 13 14))] [.inl (0 : Int32)] μ112 r μ' := h
                          rcases tx_if (t := 136) (p' := 118) h em18_115 (by decide) rfl with ⟨c115_1, h⟩ | ⟨c115_1, h⟩
                          · replace c115_1 : (0 : Int) = (0 : Int) := c115_1
                            obtain ⟨rfl, hμ⟩ := tx_return h em18_136
                            have hk137 : cK μ (cA ν) = 137 := by rw [← lE_K hGν]; unfold cK; omega
                            obtain ⟨m2, rfl⟩ : ∃ m2, m = m2 + 1 := ⟨m - 1, by omega⟩
                            rw [wLaw_if hk137, ((((pSeq_y a57x).trans (pSeq_y a65x)).trans (pSeq_y a74x)).trans (pSeq_y a82x)).trans (pSeq_n a112x a112f)]
                            exact fun hz => absurd hz a112f
                          · replace c115_1 : ¬ (0 : Int) = (0 : Int) := c115_1
                            exfalso
                            omega
                      · replace c85 : ¬ ¬ (1 : Int) = (0 : Int) := c85
                        exfalso
                        omega
                    · have hG82 := lE_tr hG74 (lE_p hg82)
                      have hT82 := lE_TV hG82 ht
                      rw [lE_K hG74] at a82x
                      rw [lE_P hG74] at a825
                      replace h : eT xq_18 _ 85 [some (.inr (.inl (some 12))), some (.inl lw), some (.inl (μ.1 13 14)), some (.inl ifs), o] [.inl (0 : Int32)] μ82 r μ' := h
                      rcases tx_if (t := 89) (p' := 88) h em18_85 (by decide) rfl with ⟨c85_1, h⟩ | ⟨c85_1, h⟩
                      · replace c85_1 : ¬ (0 : Int) = (0 : Int) := c85_1
                        exfalso
                        omega
                      · replace c85_1 : ¬ ¬ (0 : Int) = (0 : Int) := c85_1
                        obtain ⟨rfl, hμ⟩ := tx_return h em18_88
                        have hk137 : cK μ (cA ν) = 137 := by rw [← lE_K hGν]; unfold cK; omega
                        obtain ⟨m2, rfl⟩ : ∃ m2, m = m2 + 1 := ⟨m - 1, by omega⟩
                        rw [wLaw_if hk137, (((pSeq_y a57x).trans (pSeq_y a65x)).trans (pSeq_y a74x)).trans (pSeq_n a82x a82f)]
                        exact fun hz => absurd hz a82f
                · have hG74 := lE_tr hG65 (lE_p hg74)
                  have hT74 := lE_TV hG74 ht
                  rw [lE_K hG65] at a74x
                  rw [lE_P hG65] at a745
                  replace h : eT xq_18 _ 77 [some (.inr (.inl (some 12))), some (.inl lw), some (.inl (μ.1 13 14)), some (.inl ifs), o] [.inl (0 : Int32)] μ74 r μ' := h
                  rcases tx_if (t := 88) (p' := 80) h em18_77 (by decide) rfl with ⟨c77_1, h⟩ | ⟨c77_1, h⟩
                  · replace c77_1 : (0 : Int) = (0 : Int) := c77_1
                    obtain ⟨rfl, hμ⟩ := tx_return h em18_88
                    have hk137 : cK μ (cA ν) = 137 := by rw [← lE_K hGν]; unfold cK; omega
                    obtain ⟨m2, rfl⟩ : ∃ m2, m = m2 + 1 := ⟨m - 1, by omega⟩
                    rw [wLaw_if hk137, ((pSeq_y a57x).trans (pSeq_y a65x)).trans (pSeq_n a74x a74f)]
                    exact fun hz => absurd hz a74f
                  · replace c77_1 : ¬ (0 : Int) = (0 : Int) := c77_1
                    exfalso
                    omega
            · have hG65 := lE_tr hG57 (lE_p hg65)
              have hT65 := lE_TV hG65 ht
              rw [lE_K hG57] at a65x
              rw [lE_P hG57] at a655
              replace h : eT xq_18 _ 68 [some (.inr (.inl (some 12))), some (.inl lw), some (.inl (μ.1 13 14)), some (.inl ifs), o] [.inl (0 : Int32)] μ65 r μ' := h
              rcases tx_if (t := 88) (p' := 71) h em18_68 (by decide) rfl with ⟨c68_1, h⟩ | ⟨c68_1, h⟩
              · replace c68_1 : (0 : Int) = (0 : Int) := c68_1
                obtain ⟨rfl, hμ⟩ := tx_return h em18_88
                have hk137 : cK μ (cA ν) = 137 := by rw [← lE_K hGν]; unfold cK; omega
                obtain ⟨m2, rfl⟩ : ∃ m2, m = m2 + 1 := ⟨m - 1, by omega⟩
                rw [wLaw_if hk137, (pSeq_y a57x).trans (pSeq_n a65x a65f)]
                exact fun hz => absurd hz a65f
              · replace c68_1 : ¬ (0 : Int) = (0 : Int) := c68_1
                exfalso
                omega
        · have hG57 := lE_tr hGν (lE_p hg57)
          have hT57 := lE_TV hG57 ht
          rw [lE_K hGν] at a57x
          rw [lE_P hGν] at a575
          replace h : eT xq_18 _ 60 [some (.inr (.inl (some 12))), some (.inl lw), some (.inl (μ.1 13 14)), some (.inl ifs), o] [.inl (0 : Int32)] μ57 r μ' := h
          rcases tx_if (t := 88) (p' := 63) h em18_60 (by decide) rfl with ⟨c60_1, h⟩ | ⟨c60_1, h⟩
          · replace c60_1 : (0 : Int) = (0 : Int) := c60_1
            obtain ⟨rfl, hμ⟩ := tx_return h em18_88
            have hk137 : cK μ (cA ν) = 137 := by rw [← lE_K hGν]; unfold cK; omega
            obtain ⟨m2, rfl⟩ : ∃ m2, m = m2 + 1 := ⟨m - 1, by omega⟩
            rw [wLaw_if hk137, pSeq_n a57x a57f]
            exact fun hz => absurd hz a57f
          · replace c60_1 : ¬ (0 : Int) = (0 : Int) := c60_1
            exfalso
            omega
      · replace c43 : ¬ ifs.toInt < 4 := c43
        replace h := tx_aload_n (p' := 47) h em18_46 rfl rfl
        replace h := tx_iconst (v := 2) (p' := 48) h em18_47 (by decide +kernel) rfl
        obtain ⟨r48, μ48, hE48, h⟩ := tx_invV (na := 2) (mn := 10) (as := [.inr (.inl (some 12)), .inl (2 : Int32)]) (rest := []) (p' := 51) h em18_48 ((congrFun xo_3 70).trans rfl) xm_10 rfl rfl
        obtain ⟨rfl, hm48⟩ := ex_fail hE48 (by have := ht.1; omega)
        replace h : eT xq_18 _ 51 [some (.inr (.inl (some 12))), some (.inl lw), some (.inl (μ.1 13 14)), some (.inl ifs), o] [.inl (0 : Int32)] μ48 r μ' := h
        replace h := tx_pop (p' := 52) h em18_51 rfl
        obtain ⟨rfl, hμ⟩ := tx_return h em18_52
        have em : m = 0 := by omega
        subst em
        rw [wLaw_full (by rw [← lE_K hGν]; unfold cK; omega)]
        exact fun hz => absurd (show (2 : Int) = 0 from hz) (by decide)
  replace h := tx_aload_n (p' := 1) h em18_0 rfl rfl
  replace h := tx_getc (c := 2) (j := 0) (p' := 4) h em18_1 ((congrFun xo_3 12).trans rfl) rfl rfl rfl
  replace h := tx_getf (c := 6) (j := 14) (p' := 7) h em18_4 ((congrFun xo_3 147).trans rfl) rfl rfl (by decide) rfl
  replace h := tx_istore_n (p' := 8) h em18_7 rfl
  replace h : eT xq_18 _ 8 [some (.inr (.inl (some 12))), some (.inl lw), some (.inl (μ.1 13 14)), none, none] [] μ r μ' := h
  replace h := tx_aload_n (p' := 9) h em18_8 rfl rfl
  replace h := tx_aload_n (p' := 10) h em18_9 rfl rfl
  obtain ⟨r10, μ10, hE10, h⟩ := tx_invV (na := 1) (mn := 13) (as := [.inr (.inl (some 12))]) (rest := [.inr (.inl (some 12))]) (p' := 13) h em18_10 ((congrFun xo_3 53).trans rfl) xm_13 rfl rfl
  obtain ⟨rfl, hm⟩ := ex_next hE10 (by have := ht.1; omega)
  rw [hm] at h
  replace h : eT xq_18 _ 13 [some (.inr (.inl (some 12))), some (.inl lw), some (.inl (μ.1 13 14)), none, none] [.inl (μ.1 24 (cA μ).toNat), .inr (.inl (some 12))] μ r μ' := h
  obtain ⟨r13, μ13, hE13, h⟩ := tx_invV (na := 2) (mn := 9) (as := [.inr (.inl (some 12)), .inl (μ.1 24 (cA μ).toNat)]) (rest := []) (p' := 16) h em18_13 ((congrFun xo_3 89).trans rfl) xm_9 rfl rfl
  have hS13 := sE_w (μ := μ) (by decide +kernel) (hf_9_0 hE13 (hEn0 (by decide)) hO).2 hO
  have hs13 : (μ13.1 13 14).toInt = (μ.1 13 14).toInt := by rw [hS13.2 13 14 (by decide) (by decide)]
  obtain ⟨hg13, ⟨rfl, a13l, a13e, a13x, a134, a135⟩ | ⟨rfl, p13, f13, a13x, a13f, a134, a135⟩⟩ := st_acc (e := e) (k0 := (cK μ (cA μ))) hE13 (by omega) (by omega) hT0 rfl (by omega)
  · have hG13 := lE_tr hG0 (lE_p hg13)
    have hT13 := lE_TV hG13 ht
    replace h : eT xq_18 _ 16 [some (.inr (.inl (some 12))), some (.inl lw), some (.inl (μ.1 13 14)), none, none] [.inl (1 : Int32)] μ13 r μ' := h
    rcases tx_if (t := 28) (p' := 19) h em18_16 (by decide) rfl with ⟨c16, h⟩ | ⟨c16, h⟩
    · replace c16 : (1 : Int) = (0 : Int) := c16
      exfalso
      omega
    · replace c16 : ¬ (1 : Int) = (0 : Int) := c16
      replace h := tx_aload_n (p' := 20) h em18_19 rfl rfl
      replace h := tx_bipush (v := 61) (p' := 22) h em18_20 (by decide +kernel) rfl
      obtain ⟨r22, μ22, hE22, h⟩ := tx_invV (na := 2) (mn := 9) (as := [.inr (.inl (some 12)), .inl (61 : Int32)]) (rest := []) (p' := 25) h em18_22 ((congrFun xo_3 89).trans rfl) xm_9 rfl rfl
      have hS22 := sE_w (μ := μ13) (by decide +kernel) (hf_9_0 hE22 (hEn0 (by decide)) hS13.1).2 hS13.1
      have hs22 : (μ22.1 13 14).toInt = (μ13.1 13 14).toInt := by rw [hS22.2 13 14 (by decide) (by decide)]
      obtain ⟨hg22, ⟨rfl, a22l, a22e, a22x, a224, a225⟩ | ⟨rfl, p22, f22, a22x, a22f, a224, a225⟩⟩ := st_acc (e := e) (k0 := 61) hE22 (by omega) (by omega) hT13 (by decide) (by decide)
      · have hG22 := lE_tr hG13 (lE_p hg22)
        have hT22 := lE_TV hG22 ht
        rw [lE_K hG13] at a22x
        replace h : eT xq_18 _ 25 [some (.inr (.inl (some 12))), some (.inl lw), some (.inl (μ.1 13 14)), none, none] [.inl (1 : Int32)] μ22 r μ' := h
        rcases tx_if (t := 29) (p' := 28) h em18_25 (by decide) rfl with ⟨c25, h⟩ | ⟨c25, h⟩
        · replace c25 : ¬ (1 : Int) = (0 : Int) := c25
          replace h := tx_iconst (v := 0) (p' := 30) h em18_29 (by decide +kernel) rfl
          replace h := tx_istore_n (p' := 31) h em18_30 rfl
          replace h : eT xq_18 _ 31 [some (.inr (.inl (some 12))), some (.inl lw), some (.inl (μ.1 13 14)), some (.inl (0 : Int32)), none] [] μ22 r μ' := h
          rw [(pSeq_y a13x).trans (pSeq_y a22x)]
          have q13 := (pAcc_v a13x).2
          have q22 := (pAcc_v a22x).2
          have e2 : cA μ22 = cA μ + 2 := by omega
          exact loop _ _ 4 _ [] h (by decide) (by decide) hG22 hT22 (by omega) (by omega) (by omega) (aP_r h0s (aP_s hS13) hS22) (by rw [e2]; rfl) (fun X hX => absurd hX List.not_mem_nil) (fun j => (hg22.1 20 j (by decide) (by decide) (by decide) (by decide)).trans ((hg13.1 20 j (by decide) (by decide) (by decide) (by decide)).trans (rfl))) (by omega)
        · replace c25 : ¬ ¬ (1 : Int) = (0 : Int) := c25
          exfalso
          omega
      · have hG22 := lE_tr hG13 (lE_p hg22)
        have hT22 := lE_TV hG22 ht
        rw [lE_K hG13] at a22x
        rw [lE_P hG13] at a225
        replace h : eT xq_18 _ 25 [some (.inr (.inl (some 12))), some (.inl lw), some (.inl (μ.1 13 14)), none, none] [.inl (0 : Int32)] μ22 r μ' := h
        rcases tx_if (t := 29) (p' := 28) h em18_25 (by decide) rfl with ⟨c25_1, h⟩ | ⟨c25_1, h⟩
        · replace c25_1 : ¬ (0 : Int) = (0 : Int) := c25_1
          exfalso
          omega
        · replace c25_1 : ¬ ¬ (0 : Int) = (0 : Int) := c25_1
          obtain ⟨rfl, hμ⟩ := tx_return h em18_28
          rw [(pSeq_y a13x).trans (pSeq_n a22x a22f)]
          exact fun hz => absurd hz a22f
  · have hG13 := lE_tr hG0 (lE_p hg13)
    have hT13 := lE_TV hG13 ht
    replace h : eT xq_18 _ 16 [some (.inr (.inl (some 12))), some (.inl lw), some (.inl (μ.1 13 14)), none, none] [.inl (0 : Int32)] μ13 r μ' := h
    rcases tx_if (t := 28) (p' := 19) h em18_16 (by decide) rfl with ⟨c16_1, h⟩ | ⟨c16_1, h⟩
    · replace c16_1 : (0 : Int) = (0 : Int) := c16_1
      obtain ⟨rfl, hμ⟩ := tx_return h em18_28
      rw [pSeq_n a13x a13f]
      exact fun hz => absurd hz a13f
    · replace c16_1 : ¬ (0 : Int) = (0 : Int) := c16_1
      exfalso
      omega
