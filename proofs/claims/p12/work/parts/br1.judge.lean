/-! ===== what the class's judge answers ===== -/
/-- operations that a law's lists are made of -/
def oOp (o : kOp) : Prop := o.1 = 0 ∨ (o.1 = 1 ∧ 0 ≤ o.2 ∧ o.2 ≤ 8) ∨ (2 ≤ o.1 ∧ o.1 ≤ 5)
def oLs (C : List kOp) : Prop := ∀ o, o ∈ C → oOp o
def oLw (L : kLw) : Prop := (∀ X, X ∈ L.1 → oLs X.1 ∧ oLs X.2.1 ∧ oLs X.2.2) ∧ oLs L.2
theorem opc_o (x : Int) : 2 ≤ opc x ∧ opc x ≤ 5 := by
  unfold opc
  repeat' split
  all_goals omega
theorem popW_oLs {s : Bool} : ∀ w : List Int, oLs (popW s w).1
  | [] => fun o h => absurd h List.not_mem_nil
  | x :: w => by
    by_cases h : x = 40 ∨ (s = true ∧ (x = 43 ∨ x = 45))
    · rw [popW_y h]; exact fun o h => absurd h List.not_mem_nil
    · rw [popW_s h]
      intro o ho
      rcases List.mem_cons.mp ho with rfl | ho
      · exact Or.inr (Or.inr (opc_o x))
      · exact popW_oLs w o ho
theorem oLs_a {C D : List kOp} (h1 : oLs C) (h2 : oLs D) : oLs (C ++ D) := fun o h => by
  rcases List.mem_append.mp h with h | h
  · exact h1 o h
  · exact h2 o h
theorem oLs_c {o : kOp} {C : List kOp} (h1 : oOp o) (h2 : oLs C) : oLs (o :: C) := fun x h => by
  rcases List.mem_cons.mp h with rfl | h
  · exact h1
  · exact h2 x h
theorem oLs_n : oLs [] := fun o h => absurd h List.not_mem_nil
theorem ysF_oLs {K vl : Int → Int} (hK : ∀ a, K a ≤ 148) : ∀ (n : Nat) (a d : Int) (m : Bool) (w : List Int), oLs (ysF K vl n a d m w)
  | 0, _, _, _, _ => by unfold ysF; exact oLs_n
  | n + 1, a, d, false, w => by
    have h8 := hK a
    show oLs (if K a = 40 then _ else if K a = 3 then _ else if 140 ≤ K a then _ else _)
    by_cases c1 : K a = 40
    · rw [if_pos c1]
      by_cases q : d = 6 ∨ a = 400
      · rw [if_pos q]; exact oLs_n
      · rw [if_neg q]; exact ysF_oLs hK n _ _ _ _
    · rw [if_neg c1]
      by_cases c2 : K a = 3
      · rw [if_pos c2]
        refine oLs_c (Or.inl rfl) ?_
        by_cases q : a = 400
        · rw [if_pos q]; exact oLs_n
        · rw [if_neg q]; exact ysF_oLs hK n _ _ _ _
      · rw [if_neg c2]
        by_cases c3 : 140 ≤ K a
        · rw [if_pos c3]
          refine oLs_c (Or.inr (Or.inl ⟨rfl, by show 0 ≤ K a - 140; omega, by show K a - 140 ≤ 8; omega⟩)) ?_
          by_cases q : a = 400
          · rw [if_pos q]; exact oLs_n
          · rw [if_neg q]; exact ysF_oLs hK n _ _ _ _
        · rw [if_neg c3]; exact oLs_n
  | n + 1, a, d, true, w => by
    show oLs (if K a = 41 ∧ 0 < d then _ else if K a = 43 ∨ K a = 45 ∨ K a = 42 ∨ K a = 47 then _ else _)
    by_cases c1 : K a = 41 ∧ 0 < d
    · rw [if_pos c1]
      refine oLs_a (popW_oLs _) ?_
      by_cases q : a = 400
      · rw [if_pos q]; exact oLs_n
      · rw [if_neg q]; exact ysF_oLs hK n _ _ _ _
    · rw [if_neg c1]
      by_cases c2 : K a = 43 ∨ K a = 45 ∨ K a = 42 ∨ K a = 47
      · rw [if_pos c2]
        refine oLs_a (popW_oLs _) ?_
        by_cases q : a = 400
        · rw [if_pos q]; exact oLs_n
        · rw [if_neg q]; exact ysF_oLs hK n _ _ _ _
      · rw [if_neg c2]; exact popW_oLs _
theorem kLF_oLw {K vl : Int → Int} (hK : ∀ a, K a ≤ 148) : ∀ (n : Nat) (a : Int), oLw (kLF K vl n a)
  | 0, a => ⟨fun X h => absurd h List.not_mem_nil, ysF_oLs hK _ _ _ _ _⟩
  | n + 1, a => by
    by_cases c : K a = 137
    · show oLw (if K a = 137 then _ else _)
      rw [if_pos c]
      refine ⟨fun X h => ?_, (kLF_oLw hK n _).2⟩
      rcases List.mem_cons.mp h with rfl | h
      · exact ⟨ysF_oLs hK _ _ _ _ _, ysF_oLs hK _ _ _ _ _, ysF_oLs hK _ _ _ _ _⟩
      · exact (kLF_oLw hK n _).1 X h
    · rw [kLF_end c]
      exact ⟨fun X h => absurd h List.not_mem_nil, ysF_oLs hK _ _ _ _ _⟩
theorem kmp_le (x : Int) : kmp x ≤ 148 := by
  unfold kmp
  repeat' split
  all_goals omega
theorem kDef_oLw (k : Nat) : oLw (kDef k) := ⟨fun X h => absurd h List.not_mem_nil, oLs_c (by
  by_cases h3 : k = 3
  · rw [if_pos h3]; exact Or.inr (Or.inl ⟨rfl, by decide, by decide⟩)
  · rw [if_neg h3]
    by_cases h1 : k = 1
    · rw [if_pos h1]; exact Or.inl rfl
    · rw [if_neg h1]; exact Or.inl rfl) oLs_n⟩
theorem kText_oLw {K : Int → Int} {lt : Int → List Int} {vl : Int → Int} {lw : Int → kLw} (hlw : ∀ a, oLw (lw a)) : ∀ (n : Nat) (a h v : Int) (S : kSt), (∀ k, oLw (lwOf S.2.2.2 k)) → ∀ k, oLw (lwOf (kText K lt vl lw n a h v S).2.2.2 k)
  | 0, a, h, v, S, hS, k => hS k
  | n + 1, a, h, v, S, hS, k => by
    show oLw (lwOf (if K a = 0 then S else if (pTell K h v a).2 = 0 then kText K lt vl lw n _ _ _ (kStep K lt vl lw a S) else S).2.2.2 k)
    by_cases c1 : K a = 0
    · rw [if_pos c1]; exact hS k
    · rw [if_neg c1]
      by_cases c2 : (pTell K h v a).2 = 0
      · rw [if_pos c2]
        refine kText_oLw hlw n _ _ _ _ (fun k => ?_) k
        unfold kStep
        by_cases d1 : K a = 128
        · rw [if_pos d1]; exact hS k
        · rw [if_neg d1]
          by_cases d2 : K a = 129
          · rw [if_pos d2]; exact hS k
          · rw [if_neg d2]
            by_cases d3 : K a = 134
            · rw [if_pos d3]; exact hS k
            · rw [if_neg d3]
              by_cases d4 : K a = 135
              · rw [if_pos d4]; exact hS k
              · rw [if_neg d4]
                by_cases d5 : K a = 136
                · rw [if_pos d5]; exact hS k
                · rw [if_neg d5]
                  unfold lwOf
                  show oLw ((if (k : Int) = K a - 130 then some (lw (a + 2)) else S.2.2.2 k).getD (kDef k))
                  by_cases d6 : (k : Int) = K a - 130
                  · rw [if_pos d6]; exact hlw _
                  · rw [if_neg d6]; exact hS k
      · rw [if_neg c2]; exact hS k
theorem opV_cg {V V' : kVr} (hV : ∀ i, i ≤ 8 → V' i = V i) {o : kOp} (ho : oOp o) (st : List Int32) : opV V' o st = opV V o st := by
  unfold opV
  by_cases c0 : o.1 = 0
  · rw [if_pos c0, if_pos c0]
  · rw [if_neg c0, if_neg c0]
    by_cases c1 : o.1 = 1
    · have h8 : o.2.toNat ≤ 8 := by rcases ho with h | ⟨-, h⟩ | h <;> omega
      rw [if_pos c1, if_pos c1, hV _ h8]
    · rw [if_neg c1, if_neg c1]
theorem runV_cg {V V' : kVr} (hV : ∀ i, i ≤ 8 → V' i = V i) : ∀ (C : List kOp) (st : List Int32), oLs C → runV V' C st = runV V C st
  | [], _, _ => rfl
  | o :: C, st, h => by
    show (opV V' o st).bind (runV V' C) = (opV V o st).bind (runV V C)
    rw [opV_cg hV (h o List.mem_cons_self)]
    cases opV V o st with
    | none => rfl
    | some x => exact runV_cg hV C x (fun y hy => h y (List.mem_cons_of_mem _ hy))
theorem ev_cg {V V' : kVr} (hV : ∀ i, i ≤ 8 → V' i = V i) {C : List kOp} (h : oLs C) : ev V' C = ev V C := by unfold ev; rw [runV_cg hV C [] h]
theorem evL_cg {V V' : kVr} (hV : ∀ i, i ≤ 8 → V' i = V i) : ∀ (B : List (List kOp × List kOp × List kOp)) (D : List kOp), (∀ X, X ∈ B → oLs X.1 ∧ oLs X.2.1 ∧ oLs X.2.2) → oLs D → evL V' B D = evL V B D
  | [], D, _, h => by show (ev V' D).getD 0 = (ev V D).getD 0; rw [ev_cg hV h]
  | (A, B, C) :: t, D, h, hD => by
    obtain ⟨h1, h2, h3⟩ := h _ List.mem_cons_self
    have h4 := evL_cg hV t D (fun X hX => h X (List.mem_cons_of_mem _ hX)) hD
    unfold evL
    rw [ev_cg hV h1, ev_cg hV h2, ev_cg hV h3, h4]
/-! the machine -/
def jE (ω0 μ' : xM) : Prop := (∀ k j, k ≠ 50 → μ'.1 k j = ω0.1 k j) ∧ μ'.2 = ω0.2
def jK (ω0 ω : xM) (st : List Int32) (t : Int32) : Prop := jE ω0 ω ∧ t.toInt = st.length ∧ st.length ≤ 16 ∧ ∀ i : Nat, i < st.length → ω.1 50 (st.length - 1 - i) = st.getD i 0
theorem jE_i {ω0 ω : xM} {j : Nat} {v : Int32} (h : jE ω0 ω) : jE ω0 (xpi ω 50 j v) := ⟨fun k i hk => (xpi_ne (fun q => hk q.1)).trans (h.1 k i hk), h.2⟩
theorem jK_push {ω0 ω : xM} {st : List Int32} {t t1 v : Int32} (h : jK ω0 ω st t) (h16 : st.length < 16) (ht : t1.toInt = t.toInt + 1) : jK ω0 (xpi ω 50 t.toInt.toNat v) (v :: st) t1 := by
  obtain ⟨a, b, c, d⟩ := h
  refine ⟨jE_i a, by rw [ht, b]; rfl, h16, fun i hi => ?_⟩
  rw [List.length_cons] at hi ⊢
  cases i with
  | zero => rw [show st.length + 1 - 1 - 0 = t.toInt.toNat by omega, xpi_at]; rfl
  | succ i =>
    rw [xpi_ne (fun q => by omega), show st.length + 1 - 1 - (i + 1) = st.length - 1 - i by omega]
    exact d i (by omega)
theorem jK_0 {ω0 ω : xM} {st : List Int32} {x t : Int32} (h : jK ω0 ω (x :: st) t) : ω.1 50 st.length = x := h.2.2.2 0 (Nat.succ_pos _)
theorem jK_tail {ω0 ω : xM} {st : List Int32} {x t t1 : Int32} (h : jK ω0 ω (x :: st) t) (ht : t1.toInt = t.toInt - 1) : jK ω0 ω st t1 := by
  obtain ⟨a, b, c, d⟩ := h
  rw [List.length_cons] at b c
  refine ⟨a, by omega, by omega, fun i hi => ?_⟩
  have q := d (i + 1) (by rw [List.length_cons]; omega)
  rw [List.length_cons, show st.length + 1 - 1 - (i + 1) = st.length - 1 - i by omega] at q
  exact q
/-- steps from p on are C -/
def jAt (ω : xM) (p : Nat) (C : List kOp) : Prop := ∀ i : Nat, i < C.length → (ω.1 10 (p + i)).toInt = (C.getD i (0, 0)).1 ∧ (ω.1 11 (p + i)).toInt = (C.getD i (0, 0)).2
theorem jAt_l {ω : xM} {p : Nat} {C D : List kOp} (h : jAt ω p (C ++ D)) : jAt ω p C := fun i hi => by
  have q := h i (by rw [List.length_append]; omega)
  have e : (C ++ D).getD i (0, 0) = C.getD i (0, 0) := by rw [List.getD_eq_getElem?_getD, List.getD_eq_getElem?_getD, List.getElem?_append_left hi]
  rw [e] at q
  exact q
theorem jAt_r {ω : xM} {p : Nat} {C D : List kOp} (h : jAt ω p (C ++ D)) : jAt ω (p + C.length) D := fun i hi => by
  have q := h (C.length + i) (by rw [List.length_append]; omega)
  have e : (C ++ D).getD (C.length + i) (0, 0) = D.getD i (0, 0) := by rw [List.getD_eq_getElem?_getD, List.getD_eq_getElem?_getD, List.getElem?_append_right (by omega), show C.length + i - C.length = i by omega]
  rw [e, ← Nat.add_assoc] at q
  exact q
theorem jAt_h {ω : xM} {p : Nat} {o : kOp} {C : List kOp} (h : jAt ω p (o :: C)) : (ω.1 10 p).toInt = o.1 ∧ (ω.1 11 p).toInt = o.2 := h 0 (Nat.succ_pos _)
theorem jAt_t {ω : xM} {p : Nat} {o : kOp} {C : List kOp} (h : jAt ω p (o :: C)) : jAt ω (p + 1) C := jAt_r (C := [o]) h
abbrev xq_243 : xP := (⟨"CapitalCase$Judge", "reckon", "(III)I"⟩, prog_3_method_9_code, 3, (some .int))
abbrev xq_3 : xP := (⟨"CapitalCase$Judge", "judge", "(I)I"⟩, prog_3_method_8_code, 6, (some .int))
set_option maxRecDepth 10000 in
set_option maxHeartbeats 4000000 in
theorem ex_rck2 {a x y : Int32} {μ μ' : xM} {r : Option zV} (h0 : Ex gx xq_243 [.inl a, .inl x, .inl y] μ r μ') (ha : a.toInt = 2) : μ' = μ ∧ r = some (.inl (x + y)) := by
  obtain ⟨n, h⟩ := tx_in (L := [some (.inl a), some (.inl x), some (.inl y)]) h0 rfl
  replace h := tx_iload_n (p' := 1) h em243_0 rfl rfl
  obtain ⟨t9, ht9, h⟩ := tx_tsw h em243_1
  have e9 : t9 = 28 := by
    have := tsw_k ht9 (k := 0) (off := 27) rfl (by omega) (by omega)
    omega
  subst e9
  replace h : eT xq_243 _ 28 [some (.inl a), some (.inl x), some (.inl y)] [] μ r μ' := h
  replace h := tx_iload_n (p' := 29) h em243_28 rfl rfl
  replace h := tx_iload_n (p' := 30) h em243_29 rfl rfl
  replace h := tx_iadd (p' := 31) h em243_30 rfl
  obtain ⟨rfl, hμ⟩ := tx_ireturn h em243_31
  exact ⟨hμ, rfl⟩
set_option maxRecDepth 10000 in
set_option maxHeartbeats 4000000 in
theorem ex_rck3 {a x y : Int32} {μ μ' : xM} {r : Option zV} (h0 : Ex gx xq_243 [.inl a, .inl x, .inl y] μ r μ') (ha : a.toInt = 3) : μ' = μ ∧ r = some (.inl (x - y)) := by
  obtain ⟨n, h⟩ := tx_in (L := [some (.inl a), some (.inl x), some (.inl y)]) h0 rfl
  replace h := tx_iload_n (p' := 1) h em243_0 rfl rfl
  obtain ⟨t9, ht9, h⟩ := tx_tsw h em243_1
  have e9 : t9 = 32 := by
    have := tsw_k ht9 (k := 1) (off := 31) rfl (by omega) (by omega)
    omega
  subst e9
  replace h : eT xq_243 _ 32 [some (.inl a), some (.inl x), some (.inl y)] [] μ r μ' := h
  replace h := tx_iload_n (p' := 33) h em243_32 rfl rfl
  replace h := tx_iload_n (p' := 34) h em243_33 rfl rfl
  replace h := tx_isub (p' := 35) h em243_34 rfl
  obtain ⟨rfl, hμ⟩ := tx_ireturn h em243_35
  exact ⟨hμ, rfl⟩
set_option maxRecDepth 10000 in
set_option maxHeartbeats 4000000 in
theorem ex_rck4 {a x y : Int32} {μ μ' : xM} {r : Option zV} (h0 : Ex gx xq_243 [.inl a, .inl x, .inl y] μ r μ') (ha : a.toInt = 4) : μ' = μ ∧ r = some (.inl (x * y)) := by
  obtain ⟨n, h⟩ := tx_in (L := [some (.inl a), some (.inl x), some (.inl y)]) h0 rfl
  replace h := tx_iload_n (p' := 1) h em243_0 rfl rfl
  obtain ⟨t9, ht9, h⟩ := tx_tsw h em243_1
  have e9 : t9 = 36 := by
    have := tsw_k ht9 (k := 2) (off := 35) rfl (by omega) (by omega)
    omega
  subst e9
  replace h : eT xq_243 _ 36 [some (.inl a), some (.inl x), some (.inl y)] [] μ r μ' := h
  replace h := tx_iload_n (p' := 37) h em243_36 rfl rfl
  replace h := tx_iload_n (p' := 38) h em243_37 rfl rfl
  replace h := tx_imul (p' := 39) h em243_38 rfl
  obtain ⟨rfl, hμ⟩ := tx_ireturn h em243_39
  exact ⟨hμ, rfl⟩
set_option maxRecDepth 10000 in
set_option maxHeartbeats 4000000 in
theorem ex_rck5 {a x y : Int32} {μ μ' : xM} {r : Option zV} (h0 : Ex gx xq_243 [.inl a, .inl x, .inl y] μ r μ') (ha : a.toInt = 5) (hy : ¬ y = 0) : μ' = μ ∧ r = some (.inl (x / y)) := by
  obtain ⟨n, h⟩ := tx_in (L := [some (.inl a), some (.inl x), some (.inl y)]) h0 rfl
  replace h := tx_iload_n (p' := 1) h em243_0 rfl rfl
  obtain ⟨t9, ht9, h⟩ := tx_tsw h em243_1
  have e9 : t9 = 40 := by
    have := tsw_d ht9 (by decide) (by omega)
    omega
  subst e9
  replace h : eT xq_243 _ 40 [some (.inl a), some (.inl x), some (.inl y)] [] μ r μ' := h
  replace h := tx_iload_n (p' := 41) h em243_40 rfl rfl
  rcases tx_if (t := 48) (p' := 44) h em243_41 (by decide) rfl with ⟨c41, h⟩ | ⟨c41, h⟩
  · replace c41 : ¬ y.toInt = 0 := c41
    replace h := tx_iload_n (p' := 49) h em243_48 rfl rfl
    replace h := tx_iload_n (p' := 50) h em243_49 rfl rfl
    obtain ⟨hz50, h⟩ := tx_idiv (p' := 51) h em243_50 rfl
    obtain ⟨rfl, hμ⟩ := tx_ireturn h em243_51
    exact ⟨hμ, rfl⟩
  · replace c41 : ¬ ¬ y.toInt = 0 := c41
    replace h := tx_iconst (v := 0) (p' := 45) h em243_44 (by decide +kernel) rfl
    replace h := tx_goto (t := 51) h em243_45 (by decide)
    obtain ⟨rfl, hμ⟩ := tx_ireturn h em243_51
    exfalso
    exact hy (Int32.toInt_inj.mp ((by omega : y.toInt = 0).trans (by decide)))
theorem kb2 {k : Int32} (h : -100 ≤ k.toInt) : (k + -2).toInt = k.toInt - 2 := by
  have e2 : (-2 : Int32).toInt = -2 := by decide
  have := an_hi k
  rw [an_add (by rw [e2]; omega) (by rw [e2]; omega), e2]
  omega
set_option maxRecDepth 10000 in
set_option maxHeartbeats 4000000 in
theorem jd_push0 {n : Nat} {l p t : Int32} {o4 o5 : Option zV} {ω μ' : xM} {r : Option zV} (h : eT xq_3 n 12 [some (.inr (.inl (some 48))), some (.inl l), some (.inl p), some (.inl t), o4, o5] [] ω r μ') (hp : p.toInt < (ω.1 2 14).toInt) (hq : 0 ≤ p.toInt) (ho : (ω.1 10 p.toInt.toNat).toInt = 0) (ht : t.toInt < 16) : ∃ n' o4' o5', eT xq_3 n' 12 [some (.inr (.inl (some 48))), some (.inl l), some (.inl (p + 1)), some (.inl (t + 1)), o4', o5'] [] (xpi ω 50 t.toInt.toNat (ω.1 11 p.toInt.toNat)) r μ' := by
  have e1i : (1 : Int32).toInt = 1 := by decide
  replace h := tx_iload_n (p' := 13) h em3_12 rfl rfl
  replace h := tx_aload_n (p' := 14) h em3_13 rfl rfl
  replace h := tx_getc (c := 1) (j := 0) (p' := 17) h em3_14 ((congrFun xo_2 18).trans rfl) rfl rfl rfl
  replace h := tx_getf (c := 6) (j := 14) (p' := 20) h em3_17 ((congrFun xo_2 78).trans rfl) rfl rfl (by decide) rfl
  rcases tx_icmp (t := 218) (p' := 23) h em3_20 (by decide) rfl with ⟨c20, h⟩ | ⟨c20, h⟩
  · replace c20 : (ω.1 2 14).toInt ≤ p.toInt := c20
    replace h := tx_iconst (v := 0) (p' := 219) h em3_218 (by decide +kernel) rfl
    obtain ⟨rfl, hμ⟩ := tx_ireturn h em3_219
    exfalso
    omega
  · replace c20 : ¬ (ω.1 2 14).toInt ≤ p.toInt := c20
    replace h := tx_aload_n (p' := 24) h em3_23 rfl rfl
    replace h := tx_getc (c := 1) (j := 0) (p' := 27) h em3_24 ((congrFun xo_2 18).trans rfl) rfl rfl rfl
    replace h := tx_getc (c := 6) (j := 12) (p' := 30) h em3_27 ((congrFun xo_2 81).trans rfl) rfl rfl rfl
    replace h := tx_iload_n (p' := 31) h em3_30 rfl rfl
    obtain ⟨hb31, h⟩ := tx_iald (len := 408) (p' := 32) h em3_31 rfl rfl
    replace hb31 : (0 : Int) ≤ p.toInt ∧ p.toInt < 408 := hb31
    replace h := tx_istore (p' := 34) h em3_32 rfl
    replace h : eT xq_3 _ 34 [some (.inr (.inl (some 48))), some (.inl l), some (.inl p), some (.inl t), some (.inl (ω.1 10 p.toInt.toNat)), o5] [] ω r μ' := h
    replace h := tx_aload_n (p' := 35) h em3_34 rfl rfl
    replace h := tx_getc (c := 1) (j := 0) (p' := 38) h em3_35 ((congrFun xo_2 18).trans rfl) rfl rfl rfl
    replace h := tx_getc (c := 6) (j := 13) (p' := 41) h em3_38 ((congrFun xo_2 84).trans rfl) rfl rfl rfl
    replace h := tx_iload_n (p' := 42) h em3_41 rfl rfl
    obtain ⟨hb42, h⟩ := tx_iald (len := 408) (p' := 43) h em3_42 rfl rfl
    replace hb42 : (0 : Int) ≤ p.toInt ∧ p.toInt < 408 := hb42
    replace h := tx_istore (p' := 45) h em3_43 rfl
    replace h : eT xq_3 _ 45 [some (.inr (.inl (some 48))), some (.inl l), some (.inl p), some (.inl t), some (.inl (ω.1 10 p.toInt.toNat)), some (.inl (ω.1 11 p.toInt.toNat))] [] ω r μ' := h
    replace h := tx_iinc (v := 1) (p' := 48) h em3_45 (by decide +kernel) rfl rfl
    replace h : eT xq_3 _ 48 [some (.inr (.inl (some 48))), some (.inl l), some (.inl (p + 1)), some (.inl t), some (.inl (ω.1 10 p.toInt.toNat)), some (.inl (ω.1 11 p.toInt.toNat))] [] ω r μ' := h
    replace h := tx_iload (p' := 50) h em3_48 rfl rfl
    rcases tx_if (t := 59) (p' := 53) h em3_50 (by decide) rfl with ⟨c50, h⟩ | ⟨c50, h⟩
    · replace c50 : (ω.1 10 p.toInt.toNat).toInt = 0 := c50
      replace h := tx_iload_n (p' := 60) h em3_59 rfl rfl
      replace h := tx_bipush (v := 16) (p' := 62) h em3_60 (by decide +kernel) rfl
      rcases tx_icmp (t := 67) (p' := 65) h em3_62 (by decide) rfl with ⟨c62, h⟩ | ⟨c62, h⟩
      · replace c62 : t.toInt < 16 := c62
        replace h := tx_aload_n (p' := 68) h em3_67 rfl rfl
        replace h := tx_getc (c := 1) (j := 2) (p' := 71) h em3_68 ((congrFun xo_2 15).trans rfl) rfl rfl rfl
        replace h := tx_iload_n (p' := 72) h em3_71 rfl rfl
        replace h := tx_iload (p' := 74) h em3_72 rfl rfl
        rcases tx_if (t := 82) (p' := 77) h em3_74 (by decide) rfl with ⟨c74, h⟩ | ⟨c74, h⟩
        · replace c74 : ¬ (ω.1 10 p.toInt.toNat).toInt = 0 := c74
          replace h := tx_aload_n (p' := 83) h em3_82 rfl rfl
          replace h := tx_getc (c := 1) (j := 1) (p' := 86) h em3_83 ((congrFun xo_2 11).trans rfl) rfl rfl rfl
          replace h := tx_iload (p' := 88) h em3_86 rfl rfl
          obtain ⟨hb88, h⟩ := tx_iald (len := 9) (p' := 89) h em3_88 rfl rfl
          replace hb88 : (0 : Int) ≤ (ω.1 11 p.toInt.toNat).toInt ∧ (ω.1 11 p.toInt.toNat).toInt < 9 := hb88
          obtain ⟨hb89, h⟩ := tx_iast (len := 16) (p' := 90) h em3_89 rfl rfl
          replace hb89 : (0 : Int) ≤ t.toInt ∧ t.toInt < 16 := hb89
          replace h := tx_iinc (v := 1) (p' := 93) h em3_90 (by decide +kernel) rfl rfl
          replace h : eT xq_3 _ 93 [some (.inr (.inl (some 48))), some (.inl l), some (.inl (p + 1)), some (.inl (t + 1)), some (.inl (ω.1 10 p.toInt.toNat)), some (.inl (ω.1 11 p.toInt.toNat))] [] (xpi ω 50 t.toInt.toNat (ω.1 49 (ω.1 11 p.toInt.toNat).toInt.toNat)) r μ' := h
          replace h := tx_goto (t := 215) h em3_93 (by decide)
          obtain ⟨n2, hn2, h⟩ := tx_gotoS (t := 12) h em3_215 (by decide)
          exfalso
          omega
        · replace c74 : ¬ ¬ (ω.1 10 p.toInt.toNat).toInt = 0 := c74
          replace h := tx_iload (p' := 79) h em3_77 rfl rfl
          replace h := tx_goto (t := 89) h em3_79 (by decide)
          obtain ⟨hb89_1, h⟩ := tx_iast (len := 16) (p' := 90) h em3_89 rfl rfl
          replace hb89_1 : (0 : Int) ≤ t.toInt ∧ t.toInt < 16 := hb89_1
          replace h := tx_iinc (v := 1) (p' := 93) h em3_90 (by decide +kernel) rfl rfl
          replace h : eT xq_3 _ 93 [some (.inr (.inl (some 48))), some (.inl l), some (.inl (p + 1)), some (.inl (t + 1)), some (.inl (ω.1 10 p.toInt.toNat)), some (.inl (ω.1 11 p.toInt.toNat))] [] (xpi ω 50 t.toInt.toNat (ω.1 11 p.toInt.toNat)) r μ' := h
          replace h := tx_goto (t := 215) h em3_93 (by decide)
          obtain ⟨n2, hn2, h⟩ := tx_gotoS (t := 12) h em3_215 (by decide)
          exact ⟨_, _, _, h⟩
      · replace c62 : ¬ t.toInt < 16 := c62
        replace h := tx_iconst (v := 0) (p' := 66) h em3_65 (by decide +kernel) rfl
        obtain ⟨rfl, hμ⟩ := tx_ireturn h em3_66
        exfalso
        omega
    · replace c50 : ¬ (ω.1 10 p.toInt.toNat).toInt = 0 := c50
      replace h := tx_iload (p' := 55) h em3_53 rfl rfl
      replace h := tx_iconst (v := 1) (p' := 56) h em3_55 (by decide +kernel) rfl
      rcases tx_icmp (t := 96) (p' := 59) h em3_56 (by decide) rfl with ⟨c56, h⟩ | ⟨c56, h⟩
      · replace c56 : ¬ (ω.1 10 p.toInt.toNat).toInt = 1 := c56
        replace h := tx_iload (p' := 98) h em3_96 rfl rfl
        replace h := tx_bipush (v := 7) (p' := 100) h em3_98 (by decide +kernel) rfl
        rcases tx_icmp (t := 120) (p' := 103) h em3_100 (by decide) rfl with ⟨c100, h⟩ | ⟨c100, h⟩
        · replace c100 : ¬ (ω.1 10 p.toInt.toNat).toInt = 7 := c100
          replace h := tx_iload_n (p' := 121) h em3_120 rfl rfl
          replace h := tx_iconst (v := 2) (p' := 122) h em3_121 (by decide +kernel) rfl
          rcases tx_icmp (t := 142) (p' := 125) h em3_122 (by decide) rfl with ⟨c122, h⟩ | ⟨c122, h⟩
          · replace c122 : t.toInt < 2 := c122
            replace h := tx_iconst (v := 0) (p' := 143) h em3_142 (by decide +kernel) rfl
            obtain ⟨rfl, hμ⟩ := tx_ireturn h em3_143
            exfalso
            omega
          · replace c122 : ¬ t.toInt < 2 := c122
            replace h := tx_iload (p' := 127) h em3_125 rfl rfl
            replace h := tx_iconst (v := 5) (p' := 128) h em3_127 (by decide +kernel) rfl
            rcases tx_icmp (t := 144) (p' := 131) h em3_128 (by decide) rfl with ⟨c128, h⟩ | ⟨c128, h⟩
            · replace c128 : ¬ (ω.1 10 p.toInt.toNat).toInt = 5 := c128
              replace h := tx_iload (p' := 146) h em3_144 rfl rfl
              replace h := tx_bipush (v := 6) (p' := 148) h em3_146 (by decide +kernel) rfl
              rcases tx_icmp (t := 185) (p' := 151) h em3_148 (by decide) rfl with ⟨c148, h⟩ | ⟨c148, h⟩
              · replace c148 : ¬ (ω.1 10 p.toInt.toNat).toInt = 6 := c148
                replace h := tx_iinc (v := (-1)) (p' := 188) h em3_185 (by decide +kernel) rfl rfl
                replace h : eT xq_3 _ 188 [some (.inr (.inl (some 48))), some (.inl l), some (.inl (p + 1)), some (.inl (t + (-1))), some (.inl (ω.1 10 p.toInt.toNat)), some (.inl (ω.1 11 p.toInt.toNat))] [] ω r μ' := h
                have et1 : (t + -1).toInt = t.toInt - 1 := ka1 (by omega)
                obtain ⟨t1, ht1⟩ : ∃ z, z = t + -1 := ⟨_, rfl⟩
                rw [← ht1] at et1 h
                clear ht1
                replace h := tx_aload_n (p' := 189) h em3_188 rfl rfl
                replace h := tx_getc (c := 1) (j := 2) (p' := 192) h em3_189 ((congrFun xo_2 15).trans rfl) rfl rfl rfl
                replace h := tx_iload_n (p' := 193) h em3_192 rfl rfl
                replace h := tx_iconst (v := 1) (p' := 194) h em3_193 (by decide +kernel) rfl
                replace h := tx_isub (p' := 195) h em3_194 rfl
                replace h := tx_iload (p' := 197) h em3_195 rfl rfl
                replace h := tx_aload_n (p' := 198) h em3_197 rfl rfl
                replace h := tx_getc (c := 1) (j := 2) (p' := 201) h em3_198 ((congrFun xo_2 15).trans rfl) rfl rfl rfl
                replace h := tx_iload_n (p' := 202) h em3_201 rfl rfl
                replace h := tx_iconst (v := 1) (p' := 203) h em3_202 (by decide +kernel) rfl
                replace h := tx_isub (p' := 204) h em3_203 rfl
                obtain ⟨hb204, h⟩ := tx_iald (len := 16) (p' := 205) h em3_204 rfl rfl
                replace hb204 : (0 : Int) ≤ (t1 - (1 : Int32)).toInt ∧ (t1 - (1 : Int32)).toInt < 16 := hb204
                replace h := tx_aload_n (p' := 206) h em3_205 rfl rfl
                replace h := tx_getc (c := 1) (j := 2) (p' := 209) h em3_206 ((congrFun xo_2 15).trans rfl) rfl rfl rfl
                replace h := tx_iload_n (p' := 210) h em3_209 rfl rfl
                obtain ⟨hb210, h⟩ := tx_iald (len := 16) (p' := 211) h em3_210 rfl rfl
                replace hb210 : (0 : Int) ≤ t1.toInt ∧ t1.toInt < 16 := hb210
                exfalso
                omega
              · replace c148 : ¬ ¬ (ω.1 10 p.toInt.toNat).toInt = 6 := c148
                replace h := tx_iinc (v := (-2)) (p' := 154) h em3_151 (by decide +kernel) rfl rfl
                replace h : eT xq_3 _ 154 [some (.inr (.inl (some 48))), some (.inl l), some (.inl (p + 1)), some (.inl (t + (-2))), some (.inl (ω.1 10 p.toInt.toNat)), some (.inl (ω.1 11 p.toInt.toNat))] [] ω r μ' := h
                have et2 : (t + -2).toInt = t.toInt - 2 := kb2 (by omega)
                obtain ⟨t2, ht2⟩ : ∃ z, z = t + -2 := ⟨_, rfl⟩
                rw [← ht2] at et2 h
                clear ht2
                replace h := tx_aload_n (p' := 155) h em3_154 rfl rfl
                replace h := tx_getc (c := 1) (j := 2) (p' := 158) h em3_155 ((congrFun xo_2 15).trans rfl) rfl rfl rfl
                replace h := tx_iload_n (p' := 159) h em3_158 rfl rfl
                obtain ⟨hb159, h⟩ := tx_iald (len := 16) (p' := 160) h em3_159 rfl rfl
                replace hb159 : (0 : Int) ≤ t2.toInt ∧ t2.toInt < 16 := hb159
                replace h := tx_aload_n (p' := 161) h em3_160 rfl rfl
                replace h := tx_getc (c := 1) (j := 2) (p' := 164) h em3_161 ((congrFun xo_2 15).trans rfl) rfl rfl rfl
                replace h := tx_iload_n (p' := 165) h em3_164 rfl rfl
                replace h := tx_iconst (v := 1) (p' := 166) h em3_165 (by decide +kernel) rfl
                replace h := tx_iadd (p' := 167) h em3_166 rfl
                obtain ⟨hb167, h⟩ := tx_iald (len := 16) (p' := 168) h em3_167 rfl rfl
                replace hb167 : (0 : Int) ≤ (t2 + (1 : Int32)).toInt ∧ (t2 + (1 : Int32)).toInt < 16 := hb167
                rcases tx_icmp (t := 175) (p' := 171) h em3_168 (by decide) rfl with ⟨c168, h⟩ | ⟨c168, h⟩
                · replace c168 : (ω.1 50 (t2 + (1 : Int32)).toInt.toNat).toInt ≤ (ω.1 50 t2.toInt.toNat).toInt := c168
                  replace h := tx_iload_n (p' := 176) h em3_175 rfl rfl
                  replace h := tx_iload (p' := 178) h em3_176 rfl rfl
                  replace h := tx_max (p' := 181) h em3_178 ((congrFun xo_2 48).trans rfl) rfl
                  replace h := tx_istore_n (p' := 182) h em3_181 rfl
                  replace h : eT xq_3 _ 182 [some (.inr (.inl (some 48))), some (.inl l), some (.inl (if (p + 1) < (ω.1 11 p.toInt.toNat) then (ω.1 11 p.toInt.toNat) else (p + 1))), some (.inl t2), some (.inl (ω.1 10 p.toInt.toNat)), some (.inl (ω.1 11 p.toInt.toNat))] [] ω r μ' := h
                  replace h := tx_goto (t := 215) h em3_182 (by decide)
                  obtain ⟨n2, hn2, h⟩ := tx_gotoS (t := 12) h em3_215 (by decide)
                  exfalso
                  omega
                · replace c168 : ¬ (ω.1 50 (t2 + (1 : Int32)).toInt.toNat).toInt ≤ (ω.1 50 t2.toInt.toNat).toInt := c168
                  replace h := tx_iload_n (p' := 172) h em3_171 rfl rfl
                  replace h := tx_goto (t := 181) h em3_172 (by decide)
                  replace h := tx_istore_n (p' := 182) h em3_181 rfl
                  replace h : eT xq_3 _ 182 [some (.inr (.inl (some 48))), some (.inl l), some (.inl (p + 1)), some (.inl t2), some (.inl (ω.1 10 p.toInt.toNat)), some (.inl (ω.1 11 p.toInt.toNat))] [] ω r μ' := h
                  replace h := tx_goto (t := 215) h em3_182 (by decide)
                  obtain ⟨n2, hn2, h⟩ := tx_gotoS (t := 12) h em3_215 (by decide)
                  exfalso
                  omega
            · replace c128 : ¬ ¬ (ω.1 10 p.toInt.toNat).toInt = 5 := c128
              replace h := tx_aload_n (p' := 132) h em3_131 rfl rfl
              replace h := tx_getc (c := 1) (j := 2) (p' := 135) h em3_132 ((congrFun xo_2 15).trans rfl) rfl rfl rfl
              replace h := tx_iload_n (p' := 136) h em3_135 rfl rfl
              replace h := tx_iconst (v := 1) (p' := 137) h em3_136 (by decide +kernel) rfl
              replace h := tx_isub (p' := 138) h em3_137 rfl
              obtain ⟨hb138, h⟩ := tx_iald (len := 16) (p' := 139) h em3_138 rfl rfl
              replace hb138 : (0 : Int) ≤ (t - (1 : Int32)).toInt ∧ (t - (1 : Int32)).toInt < 16 := hb138
              rcases tx_if (t := 144) (p' := 142) h em3_139 (by decide) rfl with ⟨c139, h⟩ | ⟨c139, h⟩
              · replace c139 : ¬ (ω.1 50 (t - (1 : Int32)).toInt.toNat).toInt = 0 := c139
                replace h := tx_iload (p' := 146) h em3_144 rfl rfl
                replace h := tx_bipush (v := 6) (p' := 148) h em3_146 (by decide +kernel) rfl
                rcases tx_icmp (t := 185) (p' := 151) h em3_148 (by decide) rfl with ⟨c148_1, h⟩ | ⟨c148_1, h⟩
                · replace c148_1 : ¬ (ω.1 10 p.toInt.toNat).toInt = 6 := c148_1
                  replace h := tx_iinc (v := (-1)) (p' := 188) h em3_185 (by decide +kernel) rfl rfl
                  replace h : eT xq_3 _ 188 [some (.inr (.inl (some 48))), some (.inl l), some (.inl (p + 1)), some (.inl (t + (-1))), some (.inl (ω.1 10 p.toInt.toNat)), some (.inl (ω.1 11 p.toInt.toNat))] [] ω r μ' := h
                  have et1 : (t + -1).toInt = t.toInt - 1 := ka1 (by omega)
                  obtain ⟨t1, ht1⟩ : ∃ z, z = t + -1 := ⟨_, rfl⟩
                  rw [← ht1] at et1 h
                  clear ht1
                  replace h := tx_aload_n (p' := 189) h em3_188 rfl rfl
                  replace h := tx_getc (c := 1) (j := 2) (p' := 192) h em3_189 ((congrFun xo_2 15).trans rfl) rfl rfl rfl
                  replace h := tx_iload_n (p' := 193) h em3_192 rfl rfl
                  replace h := tx_iconst (v := 1) (p' := 194) h em3_193 (by decide +kernel) rfl
                  replace h := tx_isub (p' := 195) h em3_194 rfl
                  replace h := tx_iload (p' := 197) h em3_195 rfl rfl
                  replace h := tx_aload_n (p' := 198) h em3_197 rfl rfl
                  replace h := tx_getc (c := 1) (j := 2) (p' := 201) h em3_198 ((congrFun xo_2 15).trans rfl) rfl rfl rfl
                  replace h := tx_iload_n (p' := 202) h em3_201 rfl rfl
                  replace h := tx_iconst (v := 1) (p' := 203) h em3_202 (by decide +kernel) rfl
                  replace h := tx_isub (p' := 204) h em3_203 rfl
                  obtain ⟨hb204_1, h⟩ := tx_iald (len := 16) (p' := 205) h em3_204 rfl rfl
                  replace hb204_1 : (0 : Int) ≤ (t1 - (1 : Int32)).toInt ∧ (t1 - (1 : Int32)).toInt < 16 := hb204_1
                  replace h := tx_aload_n (p' := 206) h em3_205 rfl rfl
                  replace h := tx_getc (c := 1) (j := 2) (p' := 209) h em3_206 ((congrFun xo_2 15).trans rfl) rfl rfl rfl
                  replace h := tx_iload_n (p' := 210) h em3_209 rfl rfl
                  obtain ⟨hb210_1, h⟩ := tx_iald (len := 16) (p' := 211) h em3_210 rfl rfl
                  replace hb210_1 : (0 : Int) ≤ t1.toInt ∧ t1.toInt < 16 := hb210_1
                  exfalso
                  omega
                · replace c148_1 : ¬ ¬ (ω.1 10 p.toInt.toNat).toInt = 6 := c148_1
                  replace h := tx_iinc (v := (-2)) (p' := 154) h em3_151 (by decide +kernel) rfl rfl
                  replace h : eT xq_3 _ 154 [some (.inr (.inl (some 48))), some (.inl l), some (.inl (p + 1)), some (.inl (t + (-2))), some (.inl (ω.1 10 p.toInt.toNat)), some (.inl (ω.1 11 p.toInt.toNat))] [] ω r μ' := h
                  have et2 : (t + -2).toInt = t.toInt - 2 := kb2 (by omega)
                  obtain ⟨t2, ht2⟩ : ∃ z, z = t + -2 := ⟨_, rfl⟩
                  rw [← ht2] at et2 h
                  clear ht2
                  replace h := tx_aload_n (p' := 155) h em3_154 rfl rfl
                  replace h := tx_getc (c := 1) (j := 2) (p' := 158) h em3_155 ((congrFun xo_2 15).trans rfl) rfl rfl rfl
                  replace h := tx_iload_n (p' := 159) h em3_158 rfl rfl
                  obtain ⟨hb159_1, h⟩ := tx_iald (len := 16) (p' := 160) h em3_159 rfl rfl
                  replace hb159_1 : (0 : Int) ≤ t2.toInt ∧ t2.toInt < 16 := hb159_1
                  replace h := tx_aload_n (p' := 161) h em3_160 rfl rfl
                  replace h := tx_getc (c := 1) (j := 2) (p' := 164) h em3_161 ((congrFun xo_2 15).trans rfl) rfl rfl rfl
                  replace h := tx_iload_n (p' := 165) h em3_164 rfl rfl
                  replace h := tx_iconst (v := 1) (p' := 166) h em3_165 (by decide +kernel) rfl
                  replace h := tx_iadd (p' := 167) h em3_166 rfl
                  obtain ⟨hb167_1, h⟩ := tx_iald (len := 16) (p' := 168) h em3_167 rfl rfl
                  replace hb167_1 : (0 : Int) ≤ (t2 + (1 : Int32)).toInt ∧ (t2 + (1 : Int32)).toInt < 16 := hb167_1
                  rcases tx_icmp (t := 175) (p' := 171) h em3_168 (by decide) rfl with ⟨c168_1, h⟩ | ⟨c168_1, h⟩
                  · replace c168_1 : (ω.1 50 (t2 + (1 : Int32)).toInt.toNat).toInt ≤ (ω.1 50 t2.toInt.toNat).toInt := c168_1
                    replace h := tx_iload_n (p' := 176) h em3_175 rfl rfl
                    replace h := tx_iload (p' := 178) h em3_176 rfl rfl
                    replace h := tx_max (p' := 181) h em3_178 ((congrFun xo_2 48).trans rfl) rfl
                    replace h := tx_istore_n (p' := 182) h em3_181 rfl
                    replace h : eT xq_3 _ 182 [some (.inr (.inl (some 48))), some (.inl l), some (.inl (if (p + 1) < (ω.1 11 p.toInt.toNat) then (ω.1 11 p.toInt.toNat) else (p + 1))), some (.inl t2), some (.inl (ω.1 10 p.toInt.toNat)), some (.inl (ω.1 11 p.toInt.toNat))] [] ω r μ' := h
                    replace h := tx_goto (t := 215) h em3_182 (by decide)
                    obtain ⟨n2, hn2, h⟩ := tx_gotoS (t := 12) h em3_215 (by decide)
                    exfalso
                    omega
                  · replace c168_1 : ¬ (ω.1 50 (t2 + (1 : Int32)).toInt.toNat).toInt ≤ (ω.1 50 t2.toInt.toNat).toInt := c168_1
                    replace h := tx_iload_n (p' := 172) h em3_171 rfl rfl
                    replace h := tx_goto (t := 181) h em3_172 (by decide)
                    replace h := tx_istore_n (p' := 182) h em3_181 rfl
                    replace h : eT xq_3 _ 182 [some (.inr (.inl (some 48))), some (.inl l), some (.inl (p + 1)), some (.inl t2), some (.inl (ω.1 10 p.toInt.toNat)), some (.inl (ω.1 11 p.toInt.toNat))] [] ω r μ' := h
                    replace h := tx_goto (t := 215) h em3_182 (by decide)
                    obtain ⟨n2, hn2, h⟩ := tx_gotoS (t := 12) h em3_215 (by decide)
                    exfalso
                    omega
              · replace c139 : ¬ ¬ (ω.1 50 (t - (1 : Int32)).toInt.toNat).toInt = 0 := c139
                replace h := tx_iconst (v := 0) (p' := 143) h em3_142 (by decide +kernel) rfl
                obtain ⟨rfl, hμ⟩ := tx_ireturn h em3_143
                exfalso
                omega
        · replace c100 : ¬ ¬ (ω.1 10 p.toInt.toNat).toInt = 7 := c100
          replace h := tx_iload_n (p' := 104) h em3_103 rfl rfl
          rcases tx_if (t := 118) (p' := 107) h em3_104 (by decide) rfl with ⟨c104, h⟩ | ⟨c104, h⟩
          · replace c104 : t.toInt ≤ 0 := c104
            replace h := tx_iconst (v := 0) (p' := 119) h em3_118 (by decide +kernel) rfl
            obtain ⟨rfl, hμ⟩ := tx_ireturn h em3_119
            exfalso
            omega
          · replace c104 : ¬ t.toInt ≤ 0 := c104
            replace h := tx_aload_n (p' := 108) h em3_107 rfl rfl
            replace h := tx_getc (c := 1) (j := 2) (p' := 111) h em3_108 ((congrFun xo_2 15).trans rfl) rfl rfl rfl
            replace h := tx_iload_n (p' := 112) h em3_111 rfl rfl
            replace h := tx_iconst (v := 1) (p' := 113) h em3_112 (by decide +kernel) rfl
            replace h := tx_isub (p' := 114) h em3_113 rfl
            obtain ⟨hb114, h⟩ := tx_iald (len := 16) (p' := 115) h em3_114 rfl rfl
            replace hb114 : (0 : Int) ≤ (t - (1 : Int32)).toInt ∧ (t - (1 : Int32)).toInt < 16 := hb114
            replace h := tx_goto (t := 119) h em3_115 (by decide)
            obtain ⟨rfl, hμ⟩ := tx_ireturn h em3_119
            exfalso
            omega
      · replace c56 : ¬ ¬ (ω.1 10 p.toInt.toNat).toInt = 1 := c56
        replace h := tx_iload_n (p' := 60) h em3_59 rfl rfl
        replace h := tx_bipush (v := 16) (p' := 62) h em3_60 (by decide +kernel) rfl
        rcases tx_icmp (t := 67) (p' := 65) h em3_62 (by decide) rfl with ⟨c62_1, h⟩ | ⟨c62_1, h⟩
        · replace c62_1 : t.toInt < 16 := c62_1
          replace h := tx_aload_n (p' := 68) h em3_67 rfl rfl
          replace h := tx_getc (c := 1) (j := 2) (p' := 71) h em3_68 ((congrFun xo_2 15).trans rfl) rfl rfl rfl
          replace h := tx_iload_n (p' := 72) h em3_71 rfl rfl
          replace h := tx_iload (p' := 74) h em3_72 rfl rfl
          rcases tx_if (t := 82) (p' := 77) h em3_74 (by decide) rfl with ⟨c74_1, h⟩ | ⟨c74_1, h⟩
          · replace c74_1 : ¬ (ω.1 10 p.toInt.toNat).toInt = 0 := c74_1
            replace h := tx_aload_n (p' := 83) h em3_82 rfl rfl
            replace h := tx_getc (c := 1) (j := 1) (p' := 86) h em3_83 ((congrFun xo_2 11).trans rfl) rfl rfl rfl
            replace h := tx_iload (p' := 88) h em3_86 rfl rfl
            obtain ⟨hb88_1, h⟩ := tx_iald (len := 9) (p' := 89) h em3_88 rfl rfl
            replace hb88_1 : (0 : Int) ≤ (ω.1 11 p.toInt.toNat).toInt ∧ (ω.1 11 p.toInt.toNat).toInt < 9 := hb88_1
            obtain ⟨hb89_2, h⟩ := tx_iast (len := 16) (p' := 90) h em3_89 rfl rfl
            replace hb89_2 : (0 : Int) ≤ t.toInt ∧ t.toInt < 16 := hb89_2
            replace h := tx_iinc (v := 1) (p' := 93) h em3_90 (by decide +kernel) rfl rfl
            replace h : eT xq_3 _ 93 [some (.inr (.inl (some 48))), some (.inl l), some (.inl (p + 1)), some (.inl (t + 1)), some (.inl (ω.1 10 p.toInt.toNat)), some (.inl (ω.1 11 p.toInt.toNat))] [] (xpi ω 50 t.toInt.toNat (ω.1 49 (ω.1 11 p.toInt.toNat).toInt.toNat)) r μ' := h
            replace h := tx_goto (t := 215) h em3_93 (by decide)
            obtain ⟨n2, hn2, h⟩ := tx_gotoS (t := 12) h em3_215 (by decide)
            exfalso
            omega
          · replace c74_1 : ¬ ¬ (ω.1 10 p.toInt.toNat).toInt = 0 := c74_1
            replace h := tx_iload (p' := 79) h em3_77 rfl rfl
            replace h := tx_goto (t := 89) h em3_79 (by decide)
            obtain ⟨hb89_3, h⟩ := tx_iast (len := 16) (p' := 90) h em3_89 rfl rfl
            replace hb89_3 : (0 : Int) ≤ t.toInt ∧ t.toInt < 16 := hb89_3
            replace h := tx_iinc (v := 1) (p' := 93) h em3_90 (by decide +kernel) rfl rfl
            replace h : eT xq_3 _ 93 [some (.inr (.inl (some 48))), some (.inl l), some (.inl (p + 1)), some (.inl (t + 1)), some (.inl (ω.1 10 p.toInt.toNat)), some (.inl (ω.1 11 p.toInt.toNat))] [] (xpi ω 50 t.toInt.toNat (ω.1 11 p.toInt.toNat)) r μ' := h
            replace h := tx_goto (t := 215) h em3_93 (by decide)
            obtain ⟨n2, hn2, h⟩ := tx_gotoS (t := 12) h em3_215 (by decide)
            exact ⟨_, _, _, h⟩
        · replace c62_1 : ¬ t.toInt < 16 := c62_1
          replace h := tx_iconst (v := 0) (p' := 66) h em3_65 (by decide +kernel) rfl
          obtain ⟨rfl, hμ⟩ := tx_ireturn h em3_66
          exfalso
          omega
set_option maxRecDepth 10000 in
set_option maxHeartbeats 4000000 in
theorem jd_full0 {n : Nat} {l p t : Int32} {o4 o5 : Option zV} {ω μ' : xM} {r : Option zV} (h : eT xq_3 n 12 [some (.inr (.inl (some 48))), some (.inl l), some (.inl p), some (.inl t), o4, o5] [] ω r μ') (hp : p.toInt < (ω.1 2 14).toInt) (hq : 0 ≤ p.toInt) (ho : (ω.1 10 p.toInt.toNat).toInt = 0) (ht : 16 ≤ t.toInt) : r = some (.inl 0) ∧ μ' = ω := by
  have e1i : (1 : Int32).toInt = 1 := by decide
  replace h := tx_iload_n (p' := 13) h em3_12 rfl rfl
  replace h := tx_aload_n (p' := 14) h em3_13 rfl rfl
  replace h := tx_getc (c := 1) (j := 0) (p' := 17) h em3_14 ((congrFun xo_2 18).trans rfl) rfl rfl rfl
  replace h := tx_getf (c := 6) (j := 14) (p' := 20) h em3_17 ((congrFun xo_2 78).trans rfl) rfl rfl (by decide) rfl
  rcases tx_icmp (t := 218) (p' := 23) h em3_20 (by decide) rfl with ⟨c20, h⟩ | ⟨c20, h⟩
  · replace c20 : (ω.1 2 14).toInt ≤ p.toInt := c20
    replace h := tx_iconst (v := 0) (p' := 219) h em3_218 (by decide +kernel) rfl
    obtain ⟨rfl, hμ⟩ := tx_ireturn h em3_219
    exfalso
    omega
  · replace c20 : ¬ (ω.1 2 14).toInt ≤ p.toInt := c20
    replace h := tx_aload_n (p' := 24) h em3_23 rfl rfl
    replace h := tx_getc (c := 1) (j := 0) (p' := 27) h em3_24 ((congrFun xo_2 18).trans rfl) rfl rfl rfl
    replace h := tx_getc (c := 6) (j := 12) (p' := 30) h em3_27 ((congrFun xo_2 81).trans rfl) rfl rfl rfl
    replace h := tx_iload_n (p' := 31) h em3_30 rfl rfl
    obtain ⟨hb31, h⟩ := tx_iald (len := 408) (p' := 32) h em3_31 rfl rfl
    replace hb31 : (0 : Int) ≤ p.toInt ∧ p.toInt < 408 := hb31
    replace h := tx_istore (p' := 34) h em3_32 rfl
    replace h : eT xq_3 _ 34 [some (.inr (.inl (some 48))), some (.inl l), some (.inl p), some (.inl t), some (.inl (ω.1 10 p.toInt.toNat)), o5] [] ω r μ' := h
    replace h := tx_aload_n (p' := 35) h em3_34 rfl rfl
    replace h := tx_getc (c := 1) (j := 0) (p' := 38) h em3_35 ((congrFun xo_2 18).trans rfl) rfl rfl rfl
    replace h := tx_getc (c := 6) (j := 13) (p' := 41) h em3_38 ((congrFun xo_2 84).trans rfl) rfl rfl rfl
    replace h := tx_iload_n (p' := 42) h em3_41 rfl rfl
    obtain ⟨hb42, h⟩ := tx_iald (len := 408) (p' := 43) h em3_42 rfl rfl
    replace hb42 : (0 : Int) ≤ p.toInt ∧ p.toInt < 408 := hb42
    replace h := tx_istore (p' := 45) h em3_43 rfl
    replace h : eT xq_3 _ 45 [some (.inr (.inl (some 48))), some (.inl l), some (.inl p), some (.inl t), some (.inl (ω.1 10 p.toInt.toNat)), some (.inl (ω.1 11 p.toInt.toNat))] [] ω r μ' := h
    replace h := tx_iinc (v := 1) (p' := 48) h em3_45 (by decide +kernel) rfl rfl
    replace h : eT xq_3 _ 48 [some (.inr (.inl (some 48))), some (.inl l), some (.inl (p + 1)), some (.inl t), some (.inl (ω.1 10 p.toInt.toNat)), some (.inl (ω.1 11 p.toInt.toNat))] [] ω r μ' := h
    replace h := tx_iload (p' := 50) h em3_48 rfl rfl
    rcases tx_if (t := 59) (p' := 53) h em3_50 (by decide) rfl with ⟨c50, h⟩ | ⟨c50, h⟩
    · replace c50 : (ω.1 10 p.toInt.toNat).toInt = 0 := c50
      replace h := tx_iload_n (p' := 60) h em3_59 rfl rfl
      replace h := tx_bipush (v := 16) (p' := 62) h em3_60 (by decide +kernel) rfl
      rcases tx_icmp (t := 67) (p' := 65) h em3_62 (by decide) rfl with ⟨c62, h⟩ | ⟨c62, h⟩
      · replace c62 : t.toInt < 16 := c62
        replace h := tx_aload_n (p' := 68) h em3_67 rfl rfl
        replace h := tx_getc (c := 1) (j := 2) (p' := 71) h em3_68 ((congrFun xo_2 15).trans rfl) rfl rfl rfl
        replace h := tx_iload_n (p' := 72) h em3_71 rfl rfl
        replace h := tx_iload (p' := 74) h em3_72 rfl rfl
        rcases tx_if (t := 82) (p' := 77) h em3_74 (by decide) rfl with ⟨c74, h⟩ | ⟨c74, h⟩
        · replace c74 : ¬ (ω.1 10 p.toInt.toNat).toInt = 0 := c74
          replace h := tx_aload_n (p' := 83) h em3_82 rfl rfl
          replace h := tx_getc (c := 1) (j := 1) (p' := 86) h em3_83 ((congrFun xo_2 11).trans rfl) rfl rfl rfl
          replace h := tx_iload (p' := 88) h em3_86 rfl rfl
          obtain ⟨hb88, h⟩ := tx_iald (len := 9) (p' := 89) h em3_88 rfl rfl
          replace hb88 : (0 : Int) ≤ (ω.1 11 p.toInt.toNat).toInt ∧ (ω.1 11 p.toInt.toNat).toInt < 9 := hb88
          obtain ⟨hb89, h⟩ := tx_iast (len := 16) (p' := 90) h em3_89 rfl rfl
          replace hb89 : (0 : Int) ≤ t.toInt ∧ t.toInt < 16 := hb89
          replace h := tx_iinc (v := 1) (p' := 93) h em3_90 (by decide +kernel) rfl rfl
          replace h : eT xq_3 _ 93 [some (.inr (.inl (some 48))), some (.inl l), some (.inl (p + 1)), some (.inl (t + 1)), some (.inl (ω.1 10 p.toInt.toNat)), some (.inl (ω.1 11 p.toInt.toNat))] [] (xpi ω 50 t.toInt.toNat (ω.1 49 (ω.1 11 p.toInt.toNat).toInt.toNat)) r μ' := h
          replace h := tx_goto (t := 215) h em3_93 (by decide)
          obtain ⟨n2, hn2, h⟩ := tx_gotoS (t := 12) h em3_215 (by decide)
          exfalso
          omega
        · replace c74 : ¬ ¬ (ω.1 10 p.toInt.toNat).toInt = 0 := c74
          replace h := tx_iload (p' := 79) h em3_77 rfl rfl
          replace h := tx_goto (t := 89) h em3_79 (by decide)
          obtain ⟨hb89_1, h⟩ := tx_iast (len := 16) (p' := 90) h em3_89 rfl rfl
          replace hb89_1 : (0 : Int) ≤ t.toInt ∧ t.toInt < 16 := hb89_1
          replace h := tx_iinc (v := 1) (p' := 93) h em3_90 (by decide +kernel) rfl rfl
          replace h : eT xq_3 _ 93 [some (.inr (.inl (some 48))), some (.inl l), some (.inl (p + 1)), some (.inl (t + 1)), some (.inl (ω.1 10 p.toInt.toNat)), some (.inl (ω.1 11 p.toInt.toNat))] [] (xpi ω 50 t.toInt.toNat (ω.1 11 p.toInt.toNat)) r μ' := h
          replace h := tx_goto (t := 215) h em3_93 (by decide)
          obtain ⟨n2, hn2, h⟩ := tx_gotoS (t := 12) h em3_215 (by decide)
          exfalso
          omega
      · replace c62 : ¬ t.toInt < 16 := c62
        replace h := tx_iconst (v := 0) (p' := 66) h em3_65 (by decide +kernel) rfl
        obtain ⟨rfl, hμ⟩ := tx_ireturn h em3_66
        exact ⟨rfl, hμ⟩
    · replace c50 : ¬ (ω.1 10 p.toInt.toNat).toInt = 0 := c50
      replace h := tx_iload (p' := 55) h em3_53 rfl rfl
      replace h := tx_iconst (v := 1) (p' := 56) h em3_55 (by decide +kernel) rfl
      rcases tx_icmp (t := 96) (p' := 59) h em3_56 (by decide) rfl with ⟨c56, h⟩ | ⟨c56, h⟩
      · replace c56 : ¬ (ω.1 10 p.toInt.toNat).toInt = 1 := c56
        replace h := tx_iload (p' := 98) h em3_96 rfl rfl
        replace h := tx_bipush (v := 7) (p' := 100) h em3_98 (by decide +kernel) rfl
        rcases tx_icmp (t := 120) (p' := 103) h em3_100 (by decide) rfl with ⟨c100, h⟩ | ⟨c100, h⟩
        · replace c100 : ¬ (ω.1 10 p.toInt.toNat).toInt = 7 := c100
          replace h := tx_iload_n (p' := 121) h em3_120 rfl rfl
          replace h := tx_iconst (v := 2) (p' := 122) h em3_121 (by decide +kernel) rfl
          rcases tx_icmp (t := 142) (p' := 125) h em3_122 (by decide) rfl with ⟨c122, h⟩ | ⟨c122, h⟩
          · replace c122 : t.toInt < 2 := c122
            replace h := tx_iconst (v := 0) (p' := 143) h em3_142 (by decide +kernel) rfl
            obtain ⟨rfl, hμ⟩ := tx_ireturn h em3_143
            exfalso
            omega
          · replace c122 : ¬ t.toInt < 2 := c122
            replace h := tx_iload (p' := 127) h em3_125 rfl rfl
            replace h := tx_iconst (v := 5) (p' := 128) h em3_127 (by decide +kernel) rfl
            rcases tx_icmp (t := 144) (p' := 131) h em3_128 (by decide) rfl with ⟨c128, h⟩ | ⟨c128, h⟩
            · replace c128 : ¬ (ω.1 10 p.toInt.toNat).toInt = 5 := c128
              replace h := tx_iload (p' := 146) h em3_144 rfl rfl
              replace h := tx_bipush (v := 6) (p' := 148) h em3_146 (by decide +kernel) rfl
              rcases tx_icmp (t := 185) (p' := 151) h em3_148 (by decide) rfl with ⟨c148, h⟩ | ⟨c148, h⟩
              · replace c148 : ¬ (ω.1 10 p.toInt.toNat).toInt = 6 := c148
                replace h := tx_iinc (v := (-1)) (p' := 188) h em3_185 (by decide +kernel) rfl rfl
                replace h : eT xq_3 _ 188 [some (.inr (.inl (some 48))), some (.inl l), some (.inl (p + 1)), some (.inl (t + (-1))), some (.inl (ω.1 10 p.toInt.toNat)), some (.inl (ω.1 11 p.toInt.toNat))] [] ω r μ' := h
                have et1 : (t + -1).toInt = t.toInt - 1 := ka1 (by omega)
                obtain ⟨t1, ht1⟩ : ∃ z, z = t + -1 := ⟨_, rfl⟩
                rw [← ht1] at et1 h
                clear ht1
                replace h := tx_aload_n (p' := 189) h em3_188 rfl rfl
                replace h := tx_getc (c := 1) (j := 2) (p' := 192) h em3_189 ((congrFun xo_2 15).trans rfl) rfl rfl rfl
                replace h := tx_iload_n (p' := 193) h em3_192 rfl rfl
                replace h := tx_iconst (v := 1) (p' := 194) h em3_193 (by decide +kernel) rfl
                replace h := tx_isub (p' := 195) h em3_194 rfl
                replace h := tx_iload (p' := 197) h em3_195 rfl rfl
                replace h := tx_aload_n (p' := 198) h em3_197 rfl rfl
                replace h := tx_getc (c := 1) (j := 2) (p' := 201) h em3_198 ((congrFun xo_2 15).trans rfl) rfl rfl rfl
                replace h := tx_iload_n (p' := 202) h em3_201 rfl rfl
                replace h := tx_iconst (v := 1) (p' := 203) h em3_202 (by decide +kernel) rfl
                replace h := tx_isub (p' := 204) h em3_203 rfl
                obtain ⟨hb204, h⟩ := tx_iald (len := 16) (p' := 205) h em3_204 rfl rfl
                replace hb204 : (0 : Int) ≤ (t1 - (1 : Int32)).toInt ∧ (t1 - (1 : Int32)).toInt < 16 := hb204
                replace h := tx_aload_n (p' := 206) h em3_205 rfl rfl
                replace h := tx_getc (c := 1) (j := 2) (p' := 209) h em3_206 ((congrFun xo_2 15).trans rfl) rfl rfl rfl
                replace h := tx_iload_n (p' := 210) h em3_209 rfl rfl
                obtain ⟨hb210, h⟩ := tx_iald (len := 16) (p' := 211) h em3_210 rfl rfl
                replace hb210 : (0 : Int) ≤ t1.toInt ∧ t1.toInt < 16 := hb210
                exfalso
                omega
              · replace c148 : ¬ ¬ (ω.1 10 p.toInt.toNat).toInt = 6 := c148
                replace h := tx_iinc (v := (-2)) (p' := 154) h em3_151 (by decide +kernel) rfl rfl
                replace h : eT xq_3 _ 154 [some (.inr (.inl (some 48))), some (.inl l), some (.inl (p + 1)), some (.inl (t + (-2))), some (.inl (ω.1 10 p.toInt.toNat)), some (.inl (ω.1 11 p.toInt.toNat))] [] ω r μ' := h
                have et2 : (t + -2).toInt = t.toInt - 2 := kb2 (by omega)
                obtain ⟨t2, ht2⟩ : ∃ z, z = t + -2 := ⟨_, rfl⟩
                rw [← ht2] at et2 h
                clear ht2
                replace h := tx_aload_n (p' := 155) h em3_154 rfl rfl
                replace h := tx_getc (c := 1) (j := 2) (p' := 158) h em3_155 ((congrFun xo_2 15).trans rfl) rfl rfl rfl
                replace h := tx_iload_n (p' := 159) h em3_158 rfl rfl
                obtain ⟨hb159, h⟩ := tx_iald (len := 16) (p' := 160) h em3_159 rfl rfl
                replace hb159 : (0 : Int) ≤ t2.toInt ∧ t2.toInt < 16 := hb159
                replace h := tx_aload_n (p' := 161) h em3_160 rfl rfl
                replace h := tx_getc (c := 1) (j := 2) (p' := 164) h em3_161 ((congrFun xo_2 15).trans rfl) rfl rfl rfl
                replace h := tx_iload_n (p' := 165) h em3_164 rfl rfl
                replace h := tx_iconst (v := 1) (p' := 166) h em3_165 (by decide +kernel) rfl
                replace h := tx_iadd (p' := 167) h em3_166 rfl
                obtain ⟨hb167, h⟩ := tx_iald (len := 16) (p' := 168) h em3_167 rfl rfl
                replace hb167 : (0 : Int) ≤ (t2 + (1 : Int32)).toInt ∧ (t2 + (1 : Int32)).toInt < 16 := hb167
                rcases tx_icmp (t := 175) (p' := 171) h em3_168 (by decide) rfl with ⟨c168, h⟩ | ⟨c168, h⟩
                · replace c168 : (ω.1 50 (t2 + (1 : Int32)).toInt.toNat).toInt ≤ (ω.1 50 t2.toInt.toNat).toInt := c168
                  replace h := tx_iload_n (p' := 176) h em3_175 rfl rfl
                  replace h := tx_iload (p' := 178) h em3_176 rfl rfl
                  replace h := tx_max (p' := 181) h em3_178 ((congrFun xo_2 48).trans rfl) rfl
                  replace h := tx_istore_n (p' := 182) h em3_181 rfl
                  replace h : eT xq_3 _ 182 [some (.inr (.inl (some 48))), some (.inl l), some (.inl (if (p + 1) < (ω.1 11 p.toInt.toNat) then (ω.1 11 p.toInt.toNat) else (p + 1))), some (.inl t2), some (.inl (ω.1 10 p.toInt.toNat)), some (.inl (ω.1 11 p.toInt.toNat))] [] ω r μ' := h
                  replace h := tx_goto (t := 215) h em3_182 (by decide)
                  obtain ⟨n2, hn2, h⟩ := tx_gotoS (t := 12) h em3_215 (by decide)
                  exfalso
                  omega
                · replace c168 : ¬ (ω.1 50 (t2 + (1 : Int32)).toInt.toNat).toInt ≤ (ω.1 50 t2.toInt.toNat).toInt := c168
                  replace h := tx_iload_n (p' := 172) h em3_171 rfl rfl
                  replace h := tx_goto (t := 181) h em3_172 (by decide)
                  replace h := tx_istore_n (p' := 182) h em3_181 rfl
                  replace h : eT xq_3 _ 182 [some (.inr (.inl (some 48))), some (.inl l), some (.inl (p + 1)), some (.inl t2), some (.inl (ω.1 10 p.toInt.toNat)), some (.inl (ω.1 11 p.toInt.toNat))] [] ω r μ' := h
                  replace h := tx_goto (t := 215) h em3_182 (by decide)
                  obtain ⟨n2, hn2, h⟩ := tx_gotoS (t := 12) h em3_215 (by decide)
                  exfalso
                  omega
            · replace c128 : ¬ ¬ (ω.1 10 p.toInt.toNat).toInt = 5 := c128
              replace h := tx_aload_n (p' := 132) h em3_131 rfl rfl
              replace h := tx_getc (c := 1) (j := 2) (p' := 135) h em3_132 ((congrFun xo_2 15).trans rfl) rfl rfl rfl
              replace h := tx_iload_n (p' := 136) h em3_135 rfl rfl
              replace h := tx_iconst (v := 1) (p' := 137) h em3_136 (by decide +kernel) rfl
              replace h := tx_isub (p' := 138) h em3_137 rfl
              obtain ⟨hb138, h⟩ := tx_iald (len := 16) (p' := 139) h em3_138 rfl rfl
              replace hb138 : (0 : Int) ≤ (t - (1 : Int32)).toInt ∧ (t - (1 : Int32)).toInt < 16 := hb138
              rcases tx_if (t := 144) (p' := 142) h em3_139 (by decide) rfl with ⟨c139, h⟩ | ⟨c139, h⟩
              · replace c139 : ¬ (ω.1 50 (t - (1 : Int32)).toInt.toNat).toInt = 0 := c139
                replace h := tx_iload (p' := 146) h em3_144 rfl rfl
                replace h := tx_bipush (v := 6) (p' := 148) h em3_146 (by decide +kernel) rfl
                rcases tx_icmp (t := 185) (p' := 151) h em3_148 (by decide) rfl with ⟨c148_1, h⟩ | ⟨c148_1, h⟩
                · replace c148_1 : ¬ (ω.1 10 p.toInt.toNat).toInt = 6 := c148_1
                  replace h := tx_iinc (v := (-1)) (p' := 188) h em3_185 (by decide +kernel) rfl rfl
                  replace h : eT xq_3 _ 188 [some (.inr (.inl (some 48))), some (.inl l), some (.inl (p + 1)), some (.inl (t + (-1))), some (.inl (ω.1 10 p.toInt.toNat)), some (.inl (ω.1 11 p.toInt.toNat))] [] ω r μ' := h
                  have et1 : (t + -1).toInt = t.toInt - 1 := ka1 (by omega)
                  obtain ⟨t1, ht1⟩ : ∃ z, z = t + -1 := ⟨_, rfl⟩
                  rw [← ht1] at et1 h
                  clear ht1
                  replace h := tx_aload_n (p' := 189) h em3_188 rfl rfl
                  replace h := tx_getc (c := 1) (j := 2) (p' := 192) h em3_189 ((congrFun xo_2 15).trans rfl) rfl rfl rfl
                  replace h := tx_iload_n (p' := 193) h em3_192 rfl rfl
                  replace h := tx_iconst (v := 1) (p' := 194) h em3_193 (by decide +kernel) rfl
                  replace h := tx_isub (p' := 195) h em3_194 rfl
                  replace h := tx_iload (p' := 197) h em3_195 rfl rfl
                  replace h := tx_aload_n (p' := 198) h em3_197 rfl rfl
                  replace h := tx_getc (c := 1) (j := 2) (p' := 201) h em3_198 ((congrFun xo_2 15).trans rfl) rfl rfl rfl
                  replace h := tx_iload_n (p' := 202) h em3_201 rfl rfl
                  replace h := tx_iconst (v := 1) (p' := 203) h em3_202 (by decide +kernel) rfl
                  replace h := tx_isub (p' := 204) h em3_203 rfl
                  obtain ⟨hb204_1, h⟩ := tx_iald (len := 16) (p' := 205) h em3_204 rfl rfl
                  replace hb204_1 : (0 : Int) ≤ (t1 - (1 : Int32)).toInt ∧ (t1 - (1 : Int32)).toInt < 16 := hb204_1
                  replace h := tx_aload_n (p' := 206) h em3_205 rfl rfl
                  replace h := tx_getc (c := 1) (j := 2) (p' := 209) h em3_206 ((congrFun xo_2 15).trans rfl) rfl rfl rfl
                  replace h := tx_iload_n (p' := 210) h em3_209 rfl rfl
                  obtain ⟨hb210_1, h⟩ := tx_iald (len := 16) (p' := 211) h em3_210 rfl rfl
                  replace hb210_1 : (0 : Int) ≤ t1.toInt ∧ t1.toInt < 16 := hb210_1
                  exfalso
                  omega
                · replace c148_1 : ¬ ¬ (ω.1 10 p.toInt.toNat).toInt = 6 := c148_1
                  replace h := tx_iinc (v := (-2)) (p' := 154) h em3_151 (by decide +kernel) rfl rfl
                  replace h : eT xq_3 _ 154 [some (.inr (.inl (some 48))), some (.inl l), some (.inl (p + 1)), some (.inl (t + (-2))), some (.inl (ω.1 10 p.toInt.toNat)), some (.inl (ω.1 11 p.toInt.toNat))] [] ω r μ' := h
                  have et2 : (t + -2).toInt = t.toInt - 2 := kb2 (by omega)
                  obtain ⟨t2, ht2⟩ : ∃ z, z = t + -2 := ⟨_, rfl⟩
                  rw [← ht2] at et2 h
                  clear ht2
                  replace h := tx_aload_n (p' := 155) h em3_154 rfl rfl
                  replace h := tx_getc (c := 1) (j := 2) (p' := 158) h em3_155 ((congrFun xo_2 15).trans rfl) rfl rfl rfl
                  replace h := tx_iload_n (p' := 159) h em3_158 rfl rfl
                  obtain ⟨hb159_1, h⟩ := tx_iald (len := 16) (p' := 160) h em3_159 rfl rfl
                  replace hb159_1 : (0 : Int) ≤ t2.toInt ∧ t2.toInt < 16 := hb159_1
                  replace h := tx_aload_n (p' := 161) h em3_160 rfl rfl
                  replace h := tx_getc (c := 1) (j := 2) (p' := 164) h em3_161 ((congrFun xo_2 15).trans rfl) rfl rfl rfl
                  replace h := tx_iload_n (p' := 165) h em3_164 rfl rfl
                  replace h := tx_iconst (v := 1) (p' := 166) h em3_165 (by decide +kernel) rfl
                  replace h := tx_iadd (p' := 167) h em3_166 rfl
                  obtain ⟨hb167_1, h⟩ := tx_iald (len := 16) (p' := 168) h em3_167 rfl rfl
                  replace hb167_1 : (0 : Int) ≤ (t2 + (1 : Int32)).toInt ∧ (t2 + (1 : Int32)).toInt < 16 := hb167_1
                  rcases tx_icmp (t := 175) (p' := 171) h em3_168 (by decide) rfl with ⟨c168_1, h⟩ | ⟨c168_1, h⟩
                  · replace c168_1 : (ω.1 50 (t2 + (1 : Int32)).toInt.toNat).toInt ≤ (ω.1 50 t2.toInt.toNat).toInt := c168_1
                    replace h := tx_iload_n (p' := 176) h em3_175 rfl rfl
                    replace h := tx_iload (p' := 178) h em3_176 rfl rfl
                    replace h := tx_max (p' := 181) h em3_178 ((congrFun xo_2 48).trans rfl) rfl
                    replace h := tx_istore_n (p' := 182) h em3_181 rfl
                    replace h : eT xq_3 _ 182 [some (.inr (.inl (some 48))), some (.inl l), some (.inl (if (p + 1) < (ω.1 11 p.toInt.toNat) then (ω.1 11 p.toInt.toNat) else (p + 1))), some (.inl t2), some (.inl (ω.1 10 p.toInt.toNat)), some (.inl (ω.1 11 p.toInt.toNat))] [] ω r μ' := h
                    replace h := tx_goto (t := 215) h em3_182 (by decide)
                    obtain ⟨n2, hn2, h⟩ := tx_gotoS (t := 12) h em3_215 (by decide)
                    exfalso
                    omega
                  · replace c168_1 : ¬ (ω.1 50 (t2 + (1 : Int32)).toInt.toNat).toInt ≤ (ω.1 50 t2.toInt.toNat).toInt := c168_1
                    replace h := tx_iload_n (p' := 172) h em3_171 rfl rfl
                    replace h := tx_goto (t := 181) h em3_172 (by decide)
                    replace h := tx_istore_n (p' := 182) h em3_181 rfl
                    replace h : eT xq_3 _ 182 [some (.inr (.inl (some 48))), some (.inl l), some (.inl (p + 1)), some (.inl t2), some (.inl (ω.1 10 p.toInt.toNat)), some (.inl (ω.1 11 p.toInt.toNat))] [] ω r μ' := h
                    replace h := tx_goto (t := 215) h em3_182 (by decide)
                    obtain ⟨n2, hn2, h⟩ := tx_gotoS (t := 12) h em3_215 (by decide)
                    exfalso
                    omega
              · replace c139 : ¬ ¬ (ω.1 50 (t - (1 : Int32)).toInt.toNat).toInt = 0 := c139
                replace h := tx_iconst (v := 0) (p' := 143) h em3_142 (by decide +kernel) rfl
                obtain ⟨rfl, hμ⟩ := tx_ireturn h em3_143
                exfalso
                omega
        · replace c100 : ¬ ¬ (ω.1 10 p.toInt.toNat).toInt = 7 := c100
          replace h := tx_iload_n (p' := 104) h em3_103 rfl rfl
          rcases tx_if (t := 118) (p' := 107) h em3_104 (by decide) rfl with ⟨c104, h⟩ | ⟨c104, h⟩
          · replace c104 : t.toInt ≤ 0 := c104
            replace h := tx_iconst (v := 0) (p' := 119) h em3_118 (by decide +kernel) rfl
            obtain ⟨rfl, hμ⟩ := tx_ireturn h em3_119
            exfalso
            omega
          · replace c104 : ¬ t.toInt ≤ 0 := c104
            replace h := tx_aload_n (p' := 108) h em3_107 rfl rfl
            replace h := tx_getc (c := 1) (j := 2) (p' := 111) h em3_108 ((congrFun xo_2 15).trans rfl) rfl rfl rfl
            replace h := tx_iload_n (p' := 112) h em3_111 rfl rfl
            replace h := tx_iconst (v := 1) (p' := 113) h em3_112 (by decide +kernel) rfl
            replace h := tx_isub (p' := 114) h em3_113 rfl
            obtain ⟨hb114, h⟩ := tx_iald (len := 16) (p' := 115) h em3_114 rfl rfl
            replace hb114 : (0 : Int) ≤ (t - (1 : Int32)).toInt ∧ (t - (1 : Int32)).toInt < 16 := hb114
            replace h := tx_goto (t := 119) h em3_115 (by decide)
            obtain ⟨rfl, hμ⟩ := tx_ireturn h em3_119
            exfalso
            omega
      · replace c56 : ¬ ¬ (ω.1 10 p.toInt.toNat).toInt = 1 := c56
        replace h := tx_iload_n (p' := 60) h em3_59 rfl rfl
        replace h := tx_bipush (v := 16) (p' := 62) h em3_60 (by decide +kernel) rfl
        rcases tx_icmp (t := 67) (p' := 65) h em3_62 (by decide) rfl with ⟨c62_1, h⟩ | ⟨c62_1, h⟩
        · replace c62_1 : t.toInt < 16 := c62_1
          replace h := tx_aload_n (p' := 68) h em3_67 rfl rfl
          replace h := tx_getc (c := 1) (j := 2) (p' := 71) h em3_68 ((congrFun xo_2 15).trans rfl) rfl rfl rfl
          replace h := tx_iload_n (p' := 72) h em3_71 rfl rfl
          replace h := tx_iload (p' := 74) h em3_72 rfl rfl
          rcases tx_if (t := 82) (p' := 77) h em3_74 (by decide) rfl with ⟨c74_1, h⟩ | ⟨c74_1, h⟩
          · replace c74_1 : ¬ (ω.1 10 p.toInt.toNat).toInt = 0 := c74_1
            replace h := tx_aload_n (p' := 83) h em3_82 rfl rfl
            replace h := tx_getc (c := 1) (j := 1) (p' := 86) h em3_83 ((congrFun xo_2 11).trans rfl) rfl rfl rfl
            replace h := tx_iload (p' := 88) h em3_86 rfl rfl
            obtain ⟨hb88_1, h⟩ := tx_iald (len := 9) (p' := 89) h em3_88 rfl rfl
            replace hb88_1 : (0 : Int) ≤ (ω.1 11 p.toInt.toNat).toInt ∧ (ω.1 11 p.toInt.toNat).toInt < 9 := hb88_1
            obtain ⟨hb89_2, h⟩ := tx_iast (len := 16) (p' := 90) h em3_89 rfl rfl
            replace hb89_2 : (0 : Int) ≤ t.toInt ∧ t.toInt < 16 := hb89_2
            replace h := tx_iinc (v := 1) (p' := 93) h em3_90 (by decide +kernel) rfl rfl
            replace h : eT xq_3 _ 93 [some (.inr (.inl (some 48))), some (.inl l), some (.inl (p + 1)), some (.inl (t + 1)), some (.inl (ω.1 10 p.toInt.toNat)), some (.inl (ω.1 11 p.toInt.toNat))] [] (xpi ω 50 t.toInt.toNat (ω.1 49 (ω.1 11 p.toInt.toNat).toInt.toNat)) r μ' := h
            replace h := tx_goto (t := 215) h em3_93 (by decide)
            obtain ⟨n2, hn2, h⟩ := tx_gotoS (t := 12) h em3_215 (by decide)
            exfalso
            omega
          · replace c74_1 : ¬ ¬ (ω.1 10 p.toInt.toNat).toInt = 0 := c74_1
            replace h := tx_iload (p' := 79) h em3_77 rfl rfl
            replace h := tx_goto (t := 89) h em3_79 (by decide)
            obtain ⟨hb89_3, h⟩ := tx_iast (len := 16) (p' := 90) h em3_89 rfl rfl
            replace hb89_3 : (0 : Int) ≤ t.toInt ∧ t.toInt < 16 := hb89_3
            replace h := tx_iinc (v := 1) (p' := 93) h em3_90 (by decide +kernel) rfl rfl
            replace h : eT xq_3 _ 93 [some (.inr (.inl (some 48))), some (.inl l), some (.inl (p + 1)), some (.inl (t + 1)), some (.inl (ω.1 10 p.toInt.toNat)), some (.inl (ω.1 11 p.toInt.toNat))] [] (xpi ω 50 t.toInt.toNat (ω.1 11 p.toInt.toNat)) r μ' := h
            replace h := tx_goto (t := 215) h em3_93 (by decide)
            obtain ⟨n2, hn2, h⟩ := tx_gotoS (t := 12) h em3_215 (by decide)
            exfalso
            omega
        · replace c62_1 : ¬ t.toInt < 16 := c62_1
          replace h := tx_iconst (v := 0) (p' := 66) h em3_65 (by decide +kernel) rfl
          obtain ⟨rfl, hμ⟩ := tx_ireturn h em3_66
          exact ⟨rfl, hμ⟩
set_option maxRecDepth 10000 in
set_option maxHeartbeats 4000000 in
theorem jd_push1 {n : Nat} {l p t : Int32} {o4 o5 : Option zV} {ω μ' : xM} {r : Option zV} (h : eT xq_3 n 12 [some (.inr (.inl (some 48))), some (.inl l), some (.inl p), some (.inl t), o4, o5] [] ω r μ') (hp : p.toInt < (ω.1 2 14).toInt) (hq : 0 ≤ p.toInt) (ho : (ω.1 10 p.toInt.toNat).toInt = 1) (ht : t.toInt < 16) : ∃ n' o4' o5', eT xq_3 n' 12 [some (.inr (.inl (some 48))), some (.inl l), some (.inl (p + 1)), some (.inl (t + 1)), o4', o5'] [] (xpi ω 50 t.toInt.toNat (ω.1 49 (ω.1 11 p.toInt.toNat).toInt.toNat)) r μ' := by
  have e1i : (1 : Int32).toInt = 1 := by decide
  replace h := tx_iload_n (p' := 13) h em3_12 rfl rfl
  replace h := tx_aload_n (p' := 14) h em3_13 rfl rfl
  replace h := tx_getc (c := 1) (j := 0) (p' := 17) h em3_14 ((congrFun xo_2 18).trans rfl) rfl rfl rfl
  replace h := tx_getf (c := 6) (j := 14) (p' := 20) h em3_17 ((congrFun xo_2 78).trans rfl) rfl rfl (by decide) rfl
  rcases tx_icmp (t := 218) (p' := 23) h em3_20 (by decide) rfl with ⟨c20, h⟩ | ⟨c20, h⟩
  · replace c20 : (ω.1 2 14).toInt ≤ p.toInt := c20
    replace h := tx_iconst (v := 0) (p' := 219) h em3_218 (by decide +kernel) rfl
    obtain ⟨rfl, hμ⟩ := tx_ireturn h em3_219
    exfalso
    omega
  · replace c20 : ¬ (ω.1 2 14).toInt ≤ p.toInt := c20
    replace h := tx_aload_n (p' := 24) h em3_23 rfl rfl
    replace h := tx_getc (c := 1) (j := 0) (p' := 27) h em3_24 ((congrFun xo_2 18).trans rfl) rfl rfl rfl
    replace h := tx_getc (c := 6) (j := 12) (p' := 30) h em3_27 ((congrFun xo_2 81).trans rfl) rfl rfl rfl
    replace h := tx_iload_n (p' := 31) h em3_30 rfl rfl
    obtain ⟨hb31, h⟩ := tx_iald (len := 408) (p' := 32) h em3_31 rfl rfl
    replace hb31 : (0 : Int) ≤ p.toInt ∧ p.toInt < 408 := hb31
    replace h := tx_istore (p' := 34) h em3_32 rfl
    replace h : eT xq_3 _ 34 [some (.inr (.inl (some 48))), some (.inl l), some (.inl p), some (.inl t), some (.inl (ω.1 10 p.toInt.toNat)), o5] [] ω r μ' := h
    replace h := tx_aload_n (p' := 35) h em3_34 rfl rfl
    replace h := tx_getc (c := 1) (j := 0) (p' := 38) h em3_35 ((congrFun xo_2 18).trans rfl) rfl rfl rfl
    replace h := tx_getc (c := 6) (j := 13) (p' := 41) h em3_38 ((congrFun xo_2 84).trans rfl) rfl rfl rfl
    replace h := tx_iload_n (p' := 42) h em3_41 rfl rfl
    obtain ⟨hb42, h⟩ := tx_iald (len := 408) (p' := 43) h em3_42 rfl rfl
    replace hb42 : (0 : Int) ≤ p.toInt ∧ p.toInt < 408 := hb42
    replace h := tx_istore (p' := 45) h em3_43 rfl
    replace h : eT xq_3 _ 45 [some (.inr (.inl (some 48))), some (.inl l), some (.inl p), some (.inl t), some (.inl (ω.1 10 p.toInt.toNat)), some (.inl (ω.1 11 p.toInt.toNat))] [] ω r μ' := h
    replace h := tx_iinc (v := 1) (p' := 48) h em3_45 (by decide +kernel) rfl rfl
    replace h : eT xq_3 _ 48 [some (.inr (.inl (some 48))), some (.inl l), some (.inl (p + 1)), some (.inl t), some (.inl (ω.1 10 p.toInt.toNat)), some (.inl (ω.1 11 p.toInt.toNat))] [] ω r μ' := h
    replace h := tx_iload (p' := 50) h em3_48 rfl rfl
    rcases tx_if (t := 59) (p' := 53) h em3_50 (by decide) rfl with ⟨c50, h⟩ | ⟨c50, h⟩
    · replace c50 : (ω.1 10 p.toInt.toNat).toInt = 0 := c50
      replace h := tx_iload_n (p' := 60) h em3_59 rfl rfl
      replace h := tx_bipush (v := 16) (p' := 62) h em3_60 (by decide +kernel) rfl
      rcases tx_icmp (t := 67) (p' := 65) h em3_62 (by decide) rfl with ⟨c62, h⟩ | ⟨c62, h⟩
      · replace c62 : t.toInt < 16 := c62
        replace h := tx_aload_n (p' := 68) h em3_67 rfl rfl
        replace h := tx_getc (c := 1) (j := 2) (p' := 71) h em3_68 ((congrFun xo_2 15).trans rfl) rfl rfl rfl
        replace h := tx_iload_n (p' := 72) h em3_71 rfl rfl
        replace h := tx_iload (p' := 74) h em3_72 rfl rfl
        rcases tx_if (t := 82) (p' := 77) h em3_74 (by decide) rfl with ⟨c74, h⟩ | ⟨c74, h⟩
        · replace c74 : ¬ (ω.1 10 p.toInt.toNat).toInt = 0 := c74
          replace h := tx_aload_n (p' := 83) h em3_82 rfl rfl
          replace h := tx_getc (c := 1) (j := 1) (p' := 86) h em3_83 ((congrFun xo_2 11).trans rfl) rfl rfl rfl
          replace h := tx_iload (p' := 88) h em3_86 rfl rfl
          obtain ⟨hb88, h⟩ := tx_iald (len := 9) (p' := 89) h em3_88 rfl rfl
          replace hb88 : (0 : Int) ≤ (ω.1 11 p.toInt.toNat).toInt ∧ (ω.1 11 p.toInt.toNat).toInt < 9 := hb88
          obtain ⟨hb89, h⟩ := tx_iast (len := 16) (p' := 90) h em3_89 rfl rfl
          replace hb89 : (0 : Int) ≤ t.toInt ∧ t.toInt < 16 := hb89
          replace h := tx_iinc (v := 1) (p' := 93) h em3_90 (by decide +kernel) rfl rfl
          replace h : eT xq_3 _ 93 [some (.inr (.inl (some 48))), some (.inl l), some (.inl (p + 1)), some (.inl (t + 1)), some (.inl (ω.1 10 p.toInt.toNat)), some (.inl (ω.1 11 p.toInt.toNat))] [] (xpi ω 50 t.toInt.toNat (ω.1 49 (ω.1 11 p.toInt.toNat).toInt.toNat)) r μ' := h
          replace h := tx_goto (t := 215) h em3_93 (by decide)
          obtain ⟨n2, hn2, h⟩ := tx_gotoS (t := 12) h em3_215 (by decide)
          exact ⟨_, _, _, h⟩
        · replace c74 : ¬ ¬ (ω.1 10 p.toInt.toNat).toInt = 0 := c74
          replace h := tx_iload (p' := 79) h em3_77 rfl rfl
          replace h := tx_goto (t := 89) h em3_79 (by decide)
          obtain ⟨hb89_1, h⟩ := tx_iast (len := 16) (p' := 90) h em3_89 rfl rfl
          replace hb89_1 : (0 : Int) ≤ t.toInt ∧ t.toInt < 16 := hb89_1
          replace h := tx_iinc (v := 1) (p' := 93) h em3_90 (by decide +kernel) rfl rfl
          replace h : eT xq_3 _ 93 [some (.inr (.inl (some 48))), some (.inl l), some (.inl (p + 1)), some (.inl (t + 1)), some (.inl (ω.1 10 p.toInt.toNat)), some (.inl (ω.1 11 p.toInt.toNat))] [] (xpi ω 50 t.toInt.toNat (ω.1 11 p.toInt.toNat)) r μ' := h
          replace h := tx_goto (t := 215) h em3_93 (by decide)
          obtain ⟨n2, hn2, h⟩ := tx_gotoS (t := 12) h em3_215 (by decide)
          exfalso
          omega
      · replace c62 : ¬ t.toInt < 16 := c62
        replace h := tx_iconst (v := 0) (p' := 66) h em3_65 (by decide +kernel) rfl
        obtain ⟨rfl, hμ⟩ := tx_ireturn h em3_66
        exfalso
        omega
    · replace c50 : ¬ (ω.1 10 p.toInt.toNat).toInt = 0 := c50
      replace h := tx_iload (p' := 55) h em3_53 rfl rfl
      replace h := tx_iconst (v := 1) (p' := 56) h em3_55 (by decide +kernel) rfl
      rcases tx_icmp (t := 96) (p' := 59) h em3_56 (by decide) rfl with ⟨c56, h⟩ | ⟨c56, h⟩
      · replace c56 : ¬ (ω.1 10 p.toInt.toNat).toInt = 1 := c56
        replace h := tx_iload (p' := 98) h em3_96 rfl rfl
        replace h := tx_bipush (v := 7) (p' := 100) h em3_98 (by decide +kernel) rfl
        rcases tx_icmp (t := 120) (p' := 103) h em3_100 (by decide) rfl with ⟨c100, h⟩ | ⟨c100, h⟩
        · replace c100 : ¬ (ω.1 10 p.toInt.toNat).toInt = 7 := c100
          replace h := tx_iload_n (p' := 121) h em3_120 rfl rfl
          replace h := tx_iconst (v := 2) (p' := 122) h em3_121 (by decide +kernel) rfl
          rcases tx_icmp (t := 142) (p' := 125) h em3_122 (by decide) rfl with ⟨c122, h⟩ | ⟨c122, h⟩
          · replace c122 : t.toInt < 2 := c122
            replace h := tx_iconst (v := 0) (p' := 143) h em3_142 (by decide +kernel) rfl
            obtain ⟨rfl, hμ⟩ := tx_ireturn h em3_143
            exfalso
            omega
          · replace c122 : ¬ t.toInt < 2 := c122
            replace h := tx_iload (p' := 127) h em3_125 rfl rfl
            replace h := tx_iconst (v := 5) (p' := 128) h em3_127 (by decide +kernel) rfl
            rcases tx_icmp (t := 144) (p' := 131) h em3_128 (by decide) rfl with ⟨c128, h⟩ | ⟨c128, h⟩
            · replace c128 : ¬ (ω.1 10 p.toInt.toNat).toInt = 5 := c128
              replace h := tx_iload (p' := 146) h em3_144 rfl rfl
              replace h := tx_bipush (v := 6) (p' := 148) h em3_146 (by decide +kernel) rfl
              rcases tx_icmp (t := 185) (p' := 151) h em3_148 (by decide) rfl with ⟨c148, h⟩ | ⟨c148, h⟩
              · replace c148 : ¬ (ω.1 10 p.toInt.toNat).toInt = 6 := c148
                replace h := tx_iinc (v := (-1)) (p' := 188) h em3_185 (by decide +kernel) rfl rfl
                replace h : eT xq_3 _ 188 [some (.inr (.inl (some 48))), some (.inl l), some (.inl (p + 1)), some (.inl (t + (-1))), some (.inl (ω.1 10 p.toInt.toNat)), some (.inl (ω.1 11 p.toInt.toNat))] [] ω r μ' := h
                have et1 : (t + -1).toInt = t.toInt - 1 := ka1 (by omega)
                obtain ⟨t1, ht1⟩ : ∃ z, z = t + -1 := ⟨_, rfl⟩
                rw [← ht1] at et1 h
                clear ht1
                replace h := tx_aload_n (p' := 189) h em3_188 rfl rfl
                replace h := tx_getc (c := 1) (j := 2) (p' := 192) h em3_189 ((congrFun xo_2 15).trans rfl) rfl rfl rfl
                replace h := tx_iload_n (p' := 193) h em3_192 rfl rfl
                replace h := tx_iconst (v := 1) (p' := 194) h em3_193 (by decide +kernel) rfl
                replace h := tx_isub (p' := 195) h em3_194 rfl
                replace h := tx_iload (p' := 197) h em3_195 rfl rfl
                replace h := tx_aload_n (p' := 198) h em3_197 rfl rfl
                replace h := tx_getc (c := 1) (j := 2) (p' := 201) h em3_198 ((congrFun xo_2 15).trans rfl) rfl rfl rfl
                replace h := tx_iload_n (p' := 202) h em3_201 rfl rfl
                replace h := tx_iconst (v := 1) (p' := 203) h em3_202 (by decide +kernel) rfl
                replace h := tx_isub (p' := 204) h em3_203 rfl
                obtain ⟨hb204, h⟩ := tx_iald (len := 16) (p' := 205) h em3_204 rfl rfl
                replace hb204 : (0 : Int) ≤ (t1 - (1 : Int32)).toInt ∧ (t1 - (1 : Int32)).toInt < 16 := hb204
                replace h := tx_aload_n (p' := 206) h em3_205 rfl rfl
                replace h := tx_getc (c := 1) (j := 2) (p' := 209) h em3_206 ((congrFun xo_2 15).trans rfl) rfl rfl rfl
                replace h := tx_iload_n (p' := 210) h em3_209 rfl rfl
                obtain ⟨hb210, h⟩ := tx_iald (len := 16) (p' := 211) h em3_210 rfl rfl
                replace hb210 : (0 : Int) ≤ t1.toInt ∧ t1.toInt < 16 := hb210
                exfalso
                omega
              · replace c148 : ¬ ¬ (ω.1 10 p.toInt.toNat).toInt = 6 := c148
                replace h := tx_iinc (v := (-2)) (p' := 154) h em3_151 (by decide +kernel) rfl rfl
                replace h : eT xq_3 _ 154 [some (.inr (.inl (some 48))), some (.inl l), some (.inl (p + 1)), some (.inl (t + (-2))), some (.inl (ω.1 10 p.toInt.toNat)), some (.inl (ω.1 11 p.toInt.toNat))] [] ω r μ' := h
                have et2 : (t + -2).toInt = t.toInt - 2 := kb2 (by omega)
                obtain ⟨t2, ht2⟩ : ∃ z, z = t + -2 := ⟨_, rfl⟩
                rw [← ht2] at et2 h
                clear ht2
                replace h := tx_aload_n (p' := 155) h em3_154 rfl rfl
                replace h := tx_getc (c := 1) (j := 2) (p' := 158) h em3_155 ((congrFun xo_2 15).trans rfl) rfl rfl rfl
                replace h := tx_iload_n (p' := 159) h em3_158 rfl rfl
                obtain ⟨hb159, h⟩ := tx_iald (len := 16) (p' := 160) h em3_159 rfl rfl
                replace hb159 : (0 : Int) ≤ t2.toInt ∧ t2.toInt < 16 := hb159
                replace h := tx_aload_n (p' := 161) h em3_160 rfl rfl
                replace h := tx_getc (c := 1) (j := 2) (p' := 164) h em3_161 ((congrFun xo_2 15).trans rfl) rfl rfl rfl
                replace h := tx_iload_n (p' := 165) h em3_164 rfl rfl
                replace h := tx_iconst (v := 1) (p' := 166) h em3_165 (by decide +kernel) rfl
                replace h := tx_iadd (p' := 167) h em3_166 rfl
                obtain ⟨hb167, h⟩ := tx_iald (len := 16) (p' := 168) h em3_167 rfl rfl
                replace hb167 : (0 : Int) ≤ (t2 + (1 : Int32)).toInt ∧ (t2 + (1 : Int32)).toInt < 16 := hb167
                rcases tx_icmp (t := 175) (p' := 171) h em3_168 (by decide) rfl with ⟨c168, h⟩ | ⟨c168, h⟩
                · replace c168 : (ω.1 50 (t2 + (1 : Int32)).toInt.toNat).toInt ≤ (ω.1 50 t2.toInt.toNat).toInt := c168
                  replace h := tx_iload_n (p' := 176) h em3_175 rfl rfl
                  replace h := tx_iload (p' := 178) h em3_176 rfl rfl
                  replace h := tx_max (p' := 181) h em3_178 ((congrFun xo_2 48).trans rfl) rfl
                  replace h := tx_istore_n (p' := 182) h em3_181 rfl
                  replace h : eT xq_3 _ 182 [some (.inr (.inl (some 48))), some (.inl l), some (.inl (if (p + 1) < (ω.1 11 p.toInt.toNat) then (ω.1 11 p.toInt.toNat) else (p + 1))), some (.inl t2), some (.inl (ω.1 10 p.toInt.toNat)), some (.inl (ω.1 11 p.toInt.toNat))] [] ω r μ' := h
                  replace h := tx_goto (t := 215) h em3_182 (by decide)
                  obtain ⟨n2, hn2, h⟩ := tx_gotoS (t := 12) h em3_215 (by decide)
                  exfalso
                  omega
                · replace c168 : ¬ (ω.1 50 (t2 + (1 : Int32)).toInt.toNat).toInt ≤ (ω.1 50 t2.toInt.toNat).toInt := c168
                  replace h := tx_iload_n (p' := 172) h em3_171 rfl rfl
                  replace h := tx_goto (t := 181) h em3_172 (by decide)
                  replace h := tx_istore_n (p' := 182) h em3_181 rfl
                  replace h : eT xq_3 _ 182 [some (.inr (.inl (some 48))), some (.inl l), some (.inl (p + 1)), some (.inl t2), some (.inl (ω.1 10 p.toInt.toNat)), some (.inl (ω.1 11 p.toInt.toNat))] [] ω r μ' := h
                  replace h := tx_goto (t := 215) h em3_182 (by decide)
                  obtain ⟨n2, hn2, h⟩ := tx_gotoS (t := 12) h em3_215 (by decide)
                  exfalso
                  omega
            · replace c128 : ¬ ¬ (ω.1 10 p.toInt.toNat).toInt = 5 := c128
              replace h := tx_aload_n (p' := 132) h em3_131 rfl rfl
              replace h := tx_getc (c := 1) (j := 2) (p' := 135) h em3_132 ((congrFun xo_2 15).trans rfl) rfl rfl rfl
              replace h := tx_iload_n (p' := 136) h em3_135 rfl rfl
              replace h := tx_iconst (v := 1) (p' := 137) h em3_136 (by decide +kernel) rfl
              replace h := tx_isub (p' := 138) h em3_137 rfl
              obtain ⟨hb138, h⟩ := tx_iald (len := 16) (p' := 139) h em3_138 rfl rfl
              replace hb138 : (0 : Int) ≤ (t - (1 : Int32)).toInt ∧ (t - (1 : Int32)).toInt < 16 := hb138
              rcases tx_if (t := 144) (p' := 142) h em3_139 (by decide) rfl with ⟨c139, h⟩ | ⟨c139, h⟩
              · replace c139 : ¬ (ω.1 50 (t - (1 : Int32)).toInt.toNat).toInt = 0 := c139
                replace h := tx_iload (p' := 146) h em3_144 rfl rfl
                replace h := tx_bipush (v := 6) (p' := 148) h em3_146 (by decide +kernel) rfl
                rcases tx_icmp (t := 185) (p' := 151) h em3_148 (by decide) rfl with ⟨c148_1, h⟩ | ⟨c148_1, h⟩
                · replace c148_1 : ¬ (ω.1 10 p.toInt.toNat).toInt = 6 := c148_1
                  replace h := tx_iinc (v := (-1)) (p' := 188) h em3_185 (by decide +kernel) rfl rfl
                  replace h : eT xq_3 _ 188 [some (.inr (.inl (some 48))), some (.inl l), some (.inl (p + 1)), some (.inl (t + (-1))), some (.inl (ω.1 10 p.toInt.toNat)), some (.inl (ω.1 11 p.toInt.toNat))] [] ω r μ' := h
                  have et1 : (t + -1).toInt = t.toInt - 1 := ka1 (by omega)
                  obtain ⟨t1, ht1⟩ : ∃ z, z = t + -1 := ⟨_, rfl⟩
                  rw [← ht1] at et1 h
                  clear ht1
                  replace h := tx_aload_n (p' := 189) h em3_188 rfl rfl
                  replace h := tx_getc (c := 1) (j := 2) (p' := 192) h em3_189 ((congrFun xo_2 15).trans rfl) rfl rfl rfl
                  replace h := tx_iload_n (p' := 193) h em3_192 rfl rfl
                  replace h := tx_iconst (v := 1) (p' := 194) h em3_193 (by decide +kernel) rfl
                  replace h := tx_isub (p' := 195) h em3_194 rfl
                  replace h := tx_iload (p' := 197) h em3_195 rfl rfl
                  replace h := tx_aload_n (p' := 198) h em3_197 rfl rfl
                  replace h := tx_getc (c := 1) (j := 2) (p' := 201) h em3_198 ((congrFun xo_2 15).trans rfl) rfl rfl rfl
                  replace h := tx_iload_n (p' := 202) h em3_201 rfl rfl
                  replace h := tx_iconst (v := 1) (p' := 203) h em3_202 (by decide +kernel) rfl
                  replace h := tx_isub (p' := 204) h em3_203 rfl
                  obtain ⟨hb204_1, h⟩ := tx_iald (len := 16) (p' := 205) h em3_204 rfl rfl
                  replace hb204_1 : (0 : Int) ≤ (t1 - (1 : Int32)).toInt ∧ (t1 - (1 : Int32)).toInt < 16 := hb204_1
                  replace h := tx_aload_n (p' := 206) h em3_205 rfl rfl
                  replace h := tx_getc (c := 1) (j := 2) (p' := 209) h em3_206 ((congrFun xo_2 15).trans rfl) rfl rfl rfl
                  replace h := tx_iload_n (p' := 210) h em3_209 rfl rfl
                  obtain ⟨hb210_1, h⟩ := tx_iald (len := 16) (p' := 211) h em3_210 rfl rfl
                  replace hb210_1 : (0 : Int) ≤ t1.toInt ∧ t1.toInt < 16 := hb210_1
                  exfalso
                  omega
                · replace c148_1 : ¬ ¬ (ω.1 10 p.toInt.toNat).toInt = 6 := c148_1
                  replace h := tx_iinc (v := (-2)) (p' := 154) h em3_151 (by decide +kernel) rfl rfl
                  replace h : eT xq_3 _ 154 [some (.inr (.inl (some 48))), some (.inl l), some (.inl (p + 1)), some (.inl (t + (-2))), some (.inl (ω.1 10 p.toInt.toNat)), some (.inl (ω.1 11 p.toInt.toNat))] [] ω r μ' := h
                  have et2 : (t + -2).toInt = t.toInt - 2 := kb2 (by omega)
                  obtain ⟨t2, ht2⟩ : ∃ z, z = t + -2 := ⟨_, rfl⟩
                  rw [← ht2] at et2 h
                  clear ht2
                  replace h := tx_aload_n (p' := 155) h em3_154 rfl rfl
                  replace h := tx_getc (c := 1) (j := 2) (p' := 158) h em3_155 ((congrFun xo_2 15).trans rfl) rfl rfl rfl
                  replace h := tx_iload_n (p' := 159) h em3_158 rfl rfl
                  obtain ⟨hb159_1, h⟩ := tx_iald (len := 16) (p' := 160) h em3_159 rfl rfl
                  replace hb159_1 : (0 : Int) ≤ t2.toInt ∧ t2.toInt < 16 := hb159_1
                  replace h := tx_aload_n (p' := 161) h em3_160 rfl rfl
                  replace h := tx_getc (c := 1) (j := 2) (p' := 164) h em3_161 ((congrFun xo_2 15).trans rfl) rfl rfl rfl
                  replace h := tx_iload_n (p' := 165) h em3_164 rfl rfl
                  replace h := tx_iconst (v := 1) (p' := 166) h em3_165 (by decide +kernel) rfl
                  replace h := tx_iadd (p' := 167) h em3_166 rfl
                  obtain ⟨hb167_1, h⟩ := tx_iald (len := 16) (p' := 168) h em3_167 rfl rfl
                  replace hb167_1 : (0 : Int) ≤ (t2 + (1 : Int32)).toInt ∧ (t2 + (1 : Int32)).toInt < 16 := hb167_1
                  rcases tx_icmp (t := 175) (p' := 171) h em3_168 (by decide) rfl with ⟨c168_1, h⟩ | ⟨c168_1, h⟩
                  · replace c168_1 : (ω.1 50 (t2 + (1 : Int32)).toInt.toNat).toInt ≤ (ω.1 50 t2.toInt.toNat).toInt := c168_1
                    replace h := tx_iload_n (p' := 176) h em3_175 rfl rfl
                    replace h := tx_iload (p' := 178) h em3_176 rfl rfl
                    replace h := tx_max (p' := 181) h em3_178 ((congrFun xo_2 48).trans rfl) rfl
                    replace h := tx_istore_n (p' := 182) h em3_181 rfl
                    replace h : eT xq_3 _ 182 [some (.inr (.inl (some 48))), some (.inl l), some (.inl (if (p + 1) < (ω.1 11 p.toInt.toNat) then (ω.1 11 p.toInt.toNat) else (p + 1))), some (.inl t2), some (.inl (ω.1 10 p.toInt.toNat)), some (.inl (ω.1 11 p.toInt.toNat))] [] ω r μ' := h
                    replace h := tx_goto (t := 215) h em3_182 (by decide)
                    obtain ⟨n2, hn2, h⟩ := tx_gotoS (t := 12) h em3_215 (by decide)
                    exfalso
                    omega
                  · replace c168_1 : ¬ (ω.1 50 (t2 + (1 : Int32)).toInt.toNat).toInt ≤ (ω.1 50 t2.toInt.toNat).toInt := c168_1
                    replace h := tx_iload_n (p' := 172) h em3_171 rfl rfl
                    replace h := tx_goto (t := 181) h em3_172 (by decide)
                    replace h := tx_istore_n (p' := 182) h em3_181 rfl
                    replace h : eT xq_3 _ 182 [some (.inr (.inl (some 48))), some (.inl l), some (.inl (p + 1)), some (.inl t2), some (.inl (ω.1 10 p.toInt.toNat)), some (.inl (ω.1 11 p.toInt.toNat))] [] ω r μ' := h
                    replace h := tx_goto (t := 215) h em3_182 (by decide)
                    obtain ⟨n2, hn2, h⟩ := tx_gotoS (t := 12) h em3_215 (by decide)
                    exfalso
                    omega
              · replace c139 : ¬ ¬ (ω.1 50 (t - (1 : Int32)).toInt.toNat).toInt = 0 := c139
                replace h := tx_iconst (v := 0) (p' := 143) h em3_142 (by decide +kernel) rfl
                obtain ⟨rfl, hμ⟩ := tx_ireturn h em3_143
                exfalso
                omega
        · replace c100 : ¬ ¬ (ω.1 10 p.toInt.toNat).toInt = 7 := c100
          replace h := tx_iload_n (p' := 104) h em3_103 rfl rfl
          rcases tx_if (t := 118) (p' := 107) h em3_104 (by decide) rfl with ⟨c104, h⟩ | ⟨c104, h⟩
          · replace c104 : t.toInt ≤ 0 := c104
            replace h := tx_iconst (v := 0) (p' := 119) h em3_118 (by decide +kernel) rfl
            obtain ⟨rfl, hμ⟩ := tx_ireturn h em3_119
            exfalso
            omega
          · replace c104 : ¬ t.toInt ≤ 0 := c104
            replace h := tx_aload_n (p' := 108) h em3_107 rfl rfl
            replace h := tx_getc (c := 1) (j := 2) (p' := 111) h em3_108 ((congrFun xo_2 15).trans rfl) rfl rfl rfl
            replace h := tx_iload_n (p' := 112) h em3_111 rfl rfl
            replace h := tx_iconst (v := 1) (p' := 113) h em3_112 (by decide +kernel) rfl
            replace h := tx_isub (p' := 114) h em3_113 rfl
            obtain ⟨hb114, h⟩ := tx_iald (len := 16) (p' := 115) h em3_114 rfl rfl
            replace hb114 : (0 : Int) ≤ (t - (1 : Int32)).toInt ∧ (t - (1 : Int32)).toInt < 16 := hb114
            replace h := tx_goto (t := 119) h em3_115 (by decide)
            obtain ⟨rfl, hμ⟩ := tx_ireturn h em3_119
            exfalso
            omega
      · replace c56 : ¬ ¬ (ω.1 10 p.toInt.toNat).toInt = 1 := c56
        replace h := tx_iload_n (p' := 60) h em3_59 rfl rfl
        replace h := tx_bipush (v := 16) (p' := 62) h em3_60 (by decide +kernel) rfl
        rcases tx_icmp (t := 67) (p' := 65) h em3_62 (by decide) rfl with ⟨c62_1, h⟩ | ⟨c62_1, h⟩
        · replace c62_1 : t.toInt < 16 := c62_1
          replace h := tx_aload_n (p' := 68) h em3_67 rfl rfl
          replace h := tx_getc (c := 1) (j := 2) (p' := 71) h em3_68 ((congrFun xo_2 15).trans rfl) rfl rfl rfl
          replace h := tx_iload_n (p' := 72) h em3_71 rfl rfl
          replace h := tx_iload (p' := 74) h em3_72 rfl rfl
          rcases tx_if (t := 82) (p' := 77) h em3_74 (by decide) rfl with ⟨c74_1, h⟩ | ⟨c74_1, h⟩
          · replace c74_1 : ¬ (ω.1 10 p.toInt.toNat).toInt = 0 := c74_1
            replace h := tx_aload_n (p' := 83) h em3_82 rfl rfl
            replace h := tx_getc (c := 1) (j := 1) (p' := 86) h em3_83 ((congrFun xo_2 11).trans rfl) rfl rfl rfl
            replace h := tx_iload (p' := 88) h em3_86 rfl rfl
            obtain ⟨hb88_1, h⟩ := tx_iald (len := 9) (p' := 89) h em3_88 rfl rfl
            replace hb88_1 : (0 : Int) ≤ (ω.1 11 p.toInt.toNat).toInt ∧ (ω.1 11 p.toInt.toNat).toInt < 9 := hb88_1
            obtain ⟨hb89_2, h⟩ := tx_iast (len := 16) (p' := 90) h em3_89 rfl rfl
            replace hb89_2 : (0 : Int) ≤ t.toInt ∧ t.toInt < 16 := hb89_2
            replace h := tx_iinc (v := 1) (p' := 93) h em3_90 (by decide +kernel) rfl rfl
            replace h : eT xq_3 _ 93 [some (.inr (.inl (some 48))), some (.inl l), some (.inl (p + 1)), some (.inl (t + 1)), some (.inl (ω.1 10 p.toInt.toNat)), some (.inl (ω.1 11 p.toInt.toNat))] [] (xpi ω 50 t.toInt.toNat (ω.1 49 (ω.1 11 p.toInt.toNat).toInt.toNat)) r μ' := h
            replace h := tx_goto (t := 215) h em3_93 (by decide)
            obtain ⟨n2, hn2, h⟩ := tx_gotoS (t := 12) h em3_215 (by decide)
            exact ⟨_, _, _, h⟩
          · replace c74_1 : ¬ ¬ (ω.1 10 p.toInt.toNat).toInt = 0 := c74_1
            replace h := tx_iload (p' := 79) h em3_77 rfl rfl
            replace h := tx_goto (t := 89) h em3_79 (by decide)
            obtain ⟨hb89_3, h⟩ := tx_iast (len := 16) (p' := 90) h em3_89 rfl rfl
            replace hb89_3 : (0 : Int) ≤ t.toInt ∧ t.toInt < 16 := hb89_3
            replace h := tx_iinc (v := 1) (p' := 93) h em3_90 (by decide +kernel) rfl rfl
            replace h : eT xq_3 _ 93 [some (.inr (.inl (some 48))), some (.inl l), some (.inl (p + 1)), some (.inl (t + 1)), some (.inl (ω.1 10 p.toInt.toNat)), some (.inl (ω.1 11 p.toInt.toNat))] [] (xpi ω 50 t.toInt.toNat (ω.1 11 p.toInt.toNat)) r μ' := h
            replace h := tx_goto (t := 215) h em3_93 (by decide)
            obtain ⟨n2, hn2, h⟩ := tx_gotoS (t := 12) h em3_215 (by decide)
            exfalso
            omega
        · replace c62_1 : ¬ t.toInt < 16 := c62_1
          replace h := tx_iconst (v := 0) (p' := 66) h em3_65 (by decide +kernel) rfl
          obtain ⟨rfl, hμ⟩ := tx_ireturn h em3_66
          exfalso
          omega
set_option maxRecDepth 10000 in
set_option maxHeartbeats 4000000 in
theorem jd_full1 {n : Nat} {l p t : Int32} {o4 o5 : Option zV} {ω μ' : xM} {r : Option zV} (h : eT xq_3 n 12 [some (.inr (.inl (some 48))), some (.inl l), some (.inl p), some (.inl t), o4, o5] [] ω r μ') (hp : p.toInt < (ω.1 2 14).toInt) (hq : 0 ≤ p.toInt) (ho : (ω.1 10 p.toInt.toNat).toInt = 1) (ht : 16 ≤ t.toInt) : r = some (.inl 0) ∧ μ' = ω := by
  have e1i : (1 : Int32).toInt = 1 := by decide
  replace h := tx_iload_n (p' := 13) h em3_12 rfl rfl
  replace h := tx_aload_n (p' := 14) h em3_13 rfl rfl
  replace h := tx_getc (c := 1) (j := 0) (p' := 17) h em3_14 ((congrFun xo_2 18).trans rfl) rfl rfl rfl
  replace h := tx_getf (c := 6) (j := 14) (p' := 20) h em3_17 ((congrFun xo_2 78).trans rfl) rfl rfl (by decide) rfl
  rcases tx_icmp (t := 218) (p' := 23) h em3_20 (by decide) rfl with ⟨c20, h⟩ | ⟨c20, h⟩
  · replace c20 : (ω.1 2 14).toInt ≤ p.toInt := c20
    replace h := tx_iconst (v := 0) (p' := 219) h em3_218 (by decide +kernel) rfl
    obtain ⟨rfl, hμ⟩ := tx_ireturn h em3_219
    exfalso
    omega
  · replace c20 : ¬ (ω.1 2 14).toInt ≤ p.toInt := c20
    replace h := tx_aload_n (p' := 24) h em3_23 rfl rfl
    replace h := tx_getc (c := 1) (j := 0) (p' := 27) h em3_24 ((congrFun xo_2 18).trans rfl) rfl rfl rfl
    replace h := tx_getc (c := 6) (j := 12) (p' := 30) h em3_27 ((congrFun xo_2 81).trans rfl) rfl rfl rfl
    replace h := tx_iload_n (p' := 31) h em3_30 rfl rfl
    obtain ⟨hb31, h⟩ := tx_iald (len := 408) (p' := 32) h em3_31 rfl rfl
    replace hb31 : (0 : Int) ≤ p.toInt ∧ p.toInt < 408 := hb31
    replace h := tx_istore (p' := 34) h em3_32 rfl
    replace h : eT xq_3 _ 34 [some (.inr (.inl (some 48))), some (.inl l), some (.inl p), some (.inl t), some (.inl (ω.1 10 p.toInt.toNat)), o5] [] ω r μ' := h
    replace h := tx_aload_n (p' := 35) h em3_34 rfl rfl
    replace h := tx_getc (c := 1) (j := 0) (p' := 38) h em3_35 ((congrFun xo_2 18).trans rfl) rfl rfl rfl
    replace h := tx_getc (c := 6) (j := 13) (p' := 41) h em3_38 ((congrFun xo_2 84).trans rfl) rfl rfl rfl
    replace h := tx_iload_n (p' := 42) h em3_41 rfl rfl
    obtain ⟨hb42, h⟩ := tx_iald (len := 408) (p' := 43) h em3_42 rfl rfl
    replace hb42 : (0 : Int) ≤ p.toInt ∧ p.toInt < 408 := hb42
    replace h := tx_istore (p' := 45) h em3_43 rfl
    replace h : eT xq_3 _ 45 [some (.inr (.inl (some 48))), some (.inl l), some (.inl p), some (.inl t), some (.inl (ω.1 10 p.toInt.toNat)), some (.inl (ω.1 11 p.toInt.toNat))] [] ω r μ' := h
    replace h := tx_iinc (v := 1) (p' := 48) h em3_45 (by decide +kernel) rfl rfl
    replace h : eT xq_3 _ 48 [some (.inr (.inl (some 48))), some (.inl l), some (.inl (p + 1)), some (.inl t), some (.inl (ω.1 10 p.toInt.toNat)), some (.inl (ω.1 11 p.toInt.toNat))] [] ω r μ' := h
    replace h := tx_iload (p' := 50) h em3_48 rfl rfl
    rcases tx_if (t := 59) (p' := 53) h em3_50 (by decide) rfl with ⟨c50, h⟩ | ⟨c50, h⟩
    · replace c50 : (ω.1 10 p.toInt.toNat).toInt = 0 := c50
      replace h := tx_iload_n (p' := 60) h em3_59 rfl rfl
      replace h := tx_bipush (v := 16) (p' := 62) h em3_60 (by decide +kernel) rfl
      rcases tx_icmp (t := 67) (p' := 65) h em3_62 (by decide) rfl with ⟨c62, h⟩ | ⟨c62, h⟩
      · replace c62 : t.toInt < 16 := c62
        replace h := tx_aload_n (p' := 68) h em3_67 rfl rfl
        replace h := tx_getc (c := 1) (j := 2) (p' := 71) h em3_68 ((congrFun xo_2 15).trans rfl) rfl rfl rfl
        replace h := tx_iload_n (p' := 72) h em3_71 rfl rfl
        replace h := tx_iload (p' := 74) h em3_72 rfl rfl
        rcases tx_if (t := 82) (p' := 77) h em3_74 (by decide) rfl with ⟨c74, h⟩ | ⟨c74, h⟩
        · replace c74 : ¬ (ω.1 10 p.toInt.toNat).toInt = 0 := c74
          replace h := tx_aload_n (p' := 83) h em3_82 rfl rfl
          replace h := tx_getc (c := 1) (j := 1) (p' := 86) h em3_83 ((congrFun xo_2 11).trans rfl) rfl rfl rfl
          replace h := tx_iload (p' := 88) h em3_86 rfl rfl
          obtain ⟨hb88, h⟩ := tx_iald (len := 9) (p' := 89) h em3_88 rfl rfl
          replace hb88 : (0 : Int) ≤ (ω.1 11 p.toInt.toNat).toInt ∧ (ω.1 11 p.toInt.toNat).toInt < 9 := hb88
          obtain ⟨hb89, h⟩ := tx_iast (len := 16) (p' := 90) h em3_89 rfl rfl
          replace hb89 : (0 : Int) ≤ t.toInt ∧ t.toInt < 16 := hb89
          replace h := tx_iinc (v := 1) (p' := 93) h em3_90 (by decide +kernel) rfl rfl
          replace h : eT xq_3 _ 93 [some (.inr (.inl (some 48))), some (.inl l), some (.inl (p + 1)), some (.inl (t + 1)), some (.inl (ω.1 10 p.toInt.toNat)), some (.inl (ω.1 11 p.toInt.toNat))] [] (xpi ω 50 t.toInt.toNat (ω.1 49 (ω.1 11 p.toInt.toNat).toInt.toNat)) r μ' := h
          replace h := tx_goto (t := 215) h em3_93 (by decide)
          obtain ⟨n2, hn2, h⟩ := tx_gotoS (t := 12) h em3_215 (by decide)
          exfalso
          omega
        · replace c74 : ¬ ¬ (ω.1 10 p.toInt.toNat).toInt = 0 := c74
          replace h := tx_iload (p' := 79) h em3_77 rfl rfl
          replace h := tx_goto (t := 89) h em3_79 (by decide)
          obtain ⟨hb89_1, h⟩ := tx_iast (len := 16) (p' := 90) h em3_89 rfl rfl
          replace hb89_1 : (0 : Int) ≤ t.toInt ∧ t.toInt < 16 := hb89_1
          replace h := tx_iinc (v := 1) (p' := 93) h em3_90 (by decide +kernel) rfl rfl
          replace h : eT xq_3 _ 93 [some (.inr (.inl (some 48))), some (.inl l), some (.inl (p + 1)), some (.inl (t + 1)), some (.inl (ω.1 10 p.toInt.toNat)), some (.inl (ω.1 11 p.toInt.toNat))] [] (xpi ω 50 t.toInt.toNat (ω.1 11 p.toInt.toNat)) r μ' := h
          replace h := tx_goto (t := 215) h em3_93 (by decide)
          obtain ⟨n2, hn2, h⟩ := tx_gotoS (t := 12) h em3_215 (by decide)
          exfalso
          omega
      · replace c62 : ¬ t.toInt < 16 := c62
        replace h := tx_iconst (v := 0) (p' := 66) h em3_65 (by decide +kernel) rfl
        obtain ⟨rfl, hμ⟩ := tx_ireturn h em3_66
        exact ⟨rfl, hμ⟩
    · replace c50 : ¬ (ω.1 10 p.toInt.toNat).toInt = 0 := c50
      replace h := tx_iload (p' := 55) h em3_53 rfl rfl
      replace h := tx_iconst (v := 1) (p' := 56) h em3_55 (by decide +kernel) rfl
      rcases tx_icmp (t := 96) (p' := 59) h em3_56 (by decide) rfl with ⟨c56, h⟩ | ⟨c56, h⟩
      · replace c56 : ¬ (ω.1 10 p.toInt.toNat).toInt = 1 := c56
        replace h := tx_iload (p' := 98) h em3_96 rfl rfl
        replace h := tx_bipush (v := 7) (p' := 100) h em3_98 (by decide +kernel) rfl
        rcases tx_icmp (t := 120) (p' := 103) h em3_100 (by decide) rfl with ⟨c100, h⟩ | ⟨c100, h⟩
        · replace c100 : ¬ (ω.1 10 p.toInt.toNat).toInt = 7 := c100
          replace h := tx_iload_n (p' := 121) h em3_120 rfl rfl
          replace h := tx_iconst (v := 2) (p' := 122) h em3_121 (by decide +kernel) rfl
          rcases tx_icmp (t := 142) (p' := 125) h em3_122 (by decide) rfl with ⟨c122, h⟩ | ⟨c122, h⟩
          · replace c122 : t.toInt < 2 := c122
            replace h := tx_iconst (v := 0) (p' := 143) h em3_142 (by decide +kernel) rfl
            obtain ⟨rfl, hμ⟩ := tx_ireturn h em3_143
            exfalso
            omega
          · replace c122 : ¬ t.toInt < 2 := c122
            replace h := tx_iload (p' := 127) h em3_125 rfl rfl
            replace h := tx_iconst (v := 5) (p' := 128) h em3_127 (by decide +kernel) rfl
            rcases tx_icmp (t := 144) (p' := 131) h em3_128 (by decide) rfl with ⟨c128, h⟩ | ⟨c128, h⟩
            · replace c128 : ¬ (ω.1 10 p.toInt.toNat).toInt = 5 := c128
              replace h := tx_iload (p' := 146) h em3_144 rfl rfl
              replace h := tx_bipush (v := 6) (p' := 148) h em3_146 (by decide +kernel) rfl
              rcases tx_icmp (t := 185) (p' := 151) h em3_148 (by decide) rfl with ⟨c148, h⟩ | ⟨c148, h⟩
              · replace c148 : ¬ (ω.1 10 p.toInt.toNat).toInt = 6 := c148
                replace h := tx_iinc (v := (-1)) (p' := 188) h em3_185 (by decide +kernel) rfl rfl
                replace h : eT xq_3 _ 188 [some (.inr (.inl (some 48))), some (.inl l), some (.inl (p + 1)), some (.inl (t + (-1))), some (.inl (ω.1 10 p.toInt.toNat)), some (.inl (ω.1 11 p.toInt.toNat))] [] ω r μ' := h
                have et1 : (t + -1).toInt = t.toInt - 1 := ka1 (by omega)
                obtain ⟨t1, ht1⟩ : ∃ z, z = t + -1 := ⟨_, rfl⟩
                rw [← ht1] at et1 h
                clear ht1
                replace h := tx_aload_n (p' := 189) h em3_188 rfl rfl
                replace h := tx_getc (c := 1) (j := 2) (p' := 192) h em3_189 ((congrFun xo_2 15).trans rfl) rfl rfl rfl
                replace h := tx_iload_n (p' := 193) h em3_192 rfl rfl
                replace h := tx_iconst (v := 1) (p' := 194) h em3_193 (by decide +kernel) rfl
                replace h := tx_isub (p' := 195) h em3_194 rfl
                replace h := tx_iload (p' := 197) h em3_195 rfl rfl
                replace h := tx_aload_n (p' := 198) h em3_197 rfl rfl
                replace h := tx_getc (c := 1) (j := 2) (p' := 201) h em3_198 ((congrFun xo_2 15).trans rfl) rfl rfl rfl
                replace h := tx_iload_n (p' := 202) h em3_201 rfl rfl
                replace h := tx_iconst (v := 1) (p' := 203) h em3_202 (by decide +kernel) rfl
                replace h := tx_isub (p' := 204) h em3_203 rfl
                obtain ⟨hb204, h⟩ := tx_iald (len := 16) (p' := 205) h em3_204 rfl rfl
                replace hb204 : (0 : Int) ≤ (t1 - (1 : Int32)).toInt ∧ (t1 - (1 : Int32)).toInt < 16 := hb204
                replace h := tx_aload_n (p' := 206) h em3_205 rfl rfl
                replace h := tx_getc (c := 1) (j := 2) (p' := 209) h em3_206 ((congrFun xo_2 15).trans rfl) rfl rfl rfl
                replace h := tx_iload_n (p' := 210) h em3_209 rfl rfl
                obtain ⟨hb210, h⟩ := tx_iald (len := 16) (p' := 211) h em3_210 rfl rfl
                replace hb210 : (0 : Int) ≤ t1.toInt ∧ t1.toInt < 16 := hb210
                exfalso
                omega
              · replace c148 : ¬ ¬ (ω.1 10 p.toInt.toNat).toInt = 6 := c148
                replace h := tx_iinc (v := (-2)) (p' := 154) h em3_151 (by decide +kernel) rfl rfl
                replace h : eT xq_3 _ 154 [some (.inr (.inl (some 48))), some (.inl l), some (.inl (p + 1)), some (.inl (t + (-2))), some (.inl (ω.1 10 p.toInt.toNat)), some (.inl (ω.1 11 p.toInt.toNat))] [] ω r μ' := h
                have et2 : (t + -2).toInt = t.toInt - 2 := kb2 (by omega)
                obtain ⟨t2, ht2⟩ : ∃ z, z = t + -2 := ⟨_, rfl⟩
                rw [← ht2] at et2 h
                clear ht2
                replace h := tx_aload_n (p' := 155) h em3_154 rfl rfl
                replace h := tx_getc (c := 1) (j := 2) (p' := 158) h em3_155 ((congrFun xo_2 15).trans rfl) rfl rfl rfl
                replace h := tx_iload_n (p' := 159) h em3_158 rfl rfl
                obtain ⟨hb159, h⟩ := tx_iald (len := 16) (p' := 160) h em3_159 rfl rfl
                replace hb159 : (0 : Int) ≤ t2.toInt ∧ t2.toInt < 16 := hb159
                replace h := tx_aload_n (p' := 161) h em3_160 rfl rfl
                replace h := tx_getc (c := 1) (j := 2) (p' := 164) h em3_161 ((congrFun xo_2 15).trans rfl) rfl rfl rfl
                replace h := tx_iload_n (p' := 165) h em3_164 rfl rfl
                replace h := tx_iconst (v := 1) (p' := 166) h em3_165 (by decide +kernel) rfl
                replace h := tx_iadd (p' := 167) h em3_166 rfl
                obtain ⟨hb167, h⟩ := tx_iald (len := 16) (p' := 168) h em3_167 rfl rfl
                replace hb167 : (0 : Int) ≤ (t2 + (1 : Int32)).toInt ∧ (t2 + (1 : Int32)).toInt < 16 := hb167
                rcases tx_icmp (t := 175) (p' := 171) h em3_168 (by decide) rfl with ⟨c168, h⟩ | ⟨c168, h⟩
                · replace c168 : (ω.1 50 (t2 + (1 : Int32)).toInt.toNat).toInt ≤ (ω.1 50 t2.toInt.toNat).toInt := c168
                  replace h := tx_iload_n (p' := 176) h em3_175 rfl rfl
                  replace h := tx_iload (p' := 178) h em3_176 rfl rfl
                  replace h := tx_max (p' := 181) h em3_178 ((congrFun xo_2 48).trans rfl) rfl
                  replace h := tx_istore_n (p' := 182) h em3_181 rfl
                  replace h : eT xq_3 _ 182 [some (.inr (.inl (some 48))), some (.inl l), some (.inl (if (p + 1) < (ω.1 11 p.toInt.toNat) then (ω.1 11 p.toInt.toNat) else (p + 1))), some (.inl t2), some (.inl (ω.1 10 p.toInt.toNat)), some (.inl (ω.1 11 p.toInt.toNat))] [] ω r μ' := h
                  replace h := tx_goto (t := 215) h em3_182 (by decide)
                  obtain ⟨n2, hn2, h⟩ := tx_gotoS (t := 12) h em3_215 (by decide)
                  exfalso
                  omega
                · replace c168 : ¬ (ω.1 50 (t2 + (1 : Int32)).toInt.toNat).toInt ≤ (ω.1 50 t2.toInt.toNat).toInt := c168
                  replace h := tx_iload_n (p' := 172) h em3_171 rfl rfl
                  replace h := tx_goto (t := 181) h em3_172 (by decide)
                  replace h := tx_istore_n (p' := 182) h em3_181 rfl
                  replace h : eT xq_3 _ 182 [some (.inr (.inl (some 48))), some (.inl l), some (.inl (p + 1)), some (.inl t2), some (.inl (ω.1 10 p.toInt.toNat)), some (.inl (ω.1 11 p.toInt.toNat))] [] ω r μ' := h
                  replace h := tx_goto (t := 215) h em3_182 (by decide)
                  obtain ⟨n2, hn2, h⟩ := tx_gotoS (t := 12) h em3_215 (by decide)
                  exfalso
                  omega
            · replace c128 : ¬ ¬ (ω.1 10 p.toInt.toNat).toInt = 5 := c128
              replace h := tx_aload_n (p' := 132) h em3_131 rfl rfl
              replace h := tx_getc (c := 1) (j := 2) (p' := 135) h em3_132 ((congrFun xo_2 15).trans rfl) rfl rfl rfl
              replace h := tx_iload_n (p' := 136) h em3_135 rfl rfl
              replace h := tx_iconst (v := 1) (p' := 137) h em3_136 (by decide +kernel) rfl
              replace h := tx_isub (p' := 138) h em3_137 rfl
              obtain ⟨hb138, h⟩ := tx_iald (len := 16) (p' := 139) h em3_138 rfl rfl
              replace hb138 : (0 : Int) ≤ (t - (1 : Int32)).toInt ∧ (t - (1 : Int32)).toInt < 16 := hb138
              rcases tx_if (t := 144) (p' := 142) h em3_139 (by decide) rfl with ⟨c139, h⟩ | ⟨c139, h⟩
              · replace c139 : ¬ (ω.1 50 (t - (1 : Int32)).toInt.toNat).toInt = 0 := c139
                replace h := tx_iload (p' := 146) h em3_144 rfl rfl
                replace h := tx_bipush (v := 6) (p' := 148) h em3_146 (by decide +kernel) rfl
                rcases tx_icmp (t := 185) (p' := 151) h em3_148 (by decide) rfl with ⟨c148_1, h⟩ | ⟨c148_1, h⟩
                · replace c148_1 : ¬ (ω.1 10 p.toInt.toNat).toInt = 6 := c148_1
                  replace h := tx_iinc (v := (-1)) (p' := 188) h em3_185 (by decide +kernel) rfl rfl
                  replace h : eT xq_3 _ 188 [some (.inr (.inl (some 48))), some (.inl l), some (.inl (p + 1)), some (.inl (t + (-1))), some (.inl (ω.1 10 p.toInt.toNat)), some (.inl (ω.1 11 p.toInt.toNat))] [] ω r μ' := h
                  have et1 : (t + -1).toInt = t.toInt - 1 := ka1 (by omega)
                  obtain ⟨t1, ht1⟩ : ∃ z, z = t + -1 := ⟨_, rfl⟩
                  rw [← ht1] at et1 h
                  clear ht1
                  replace h := tx_aload_n (p' := 189) h em3_188 rfl rfl
                  replace h := tx_getc (c := 1) (j := 2) (p' := 192) h em3_189 ((congrFun xo_2 15).trans rfl) rfl rfl rfl
                  replace h := tx_iload_n (p' := 193) h em3_192 rfl rfl
                  replace h := tx_iconst (v := 1) (p' := 194) h em3_193 (by decide +kernel) rfl
                  replace h := tx_isub (p' := 195) h em3_194 rfl
                  replace h := tx_iload (p' := 197) h em3_195 rfl rfl
                  replace h := tx_aload_n (p' := 198) h em3_197 rfl rfl
                  replace h := tx_getc (c := 1) (j := 2) (p' := 201) h em3_198 ((congrFun xo_2 15).trans rfl) rfl rfl rfl
                  replace h := tx_iload_n (p' := 202) h em3_201 rfl rfl
                  replace h := tx_iconst (v := 1) (p' := 203) h em3_202 (by decide +kernel) rfl
                  replace h := tx_isub (p' := 204) h em3_203 rfl
                  obtain ⟨hb204_1, h⟩ := tx_iald (len := 16) (p' := 205) h em3_204 rfl rfl
                  replace hb204_1 : (0 : Int) ≤ (t1 - (1 : Int32)).toInt ∧ (t1 - (1 : Int32)).toInt < 16 := hb204_1
                  replace h := tx_aload_n (p' := 206) h em3_205 rfl rfl
                  replace h := tx_getc (c := 1) (j := 2) (p' := 209) h em3_206 ((congrFun xo_2 15).trans rfl) rfl rfl rfl
                  replace h := tx_iload_n (p' := 210) h em3_209 rfl rfl
                  obtain ⟨hb210_1, h⟩ := tx_iald (len := 16) (p' := 211) h em3_210 rfl rfl
                  replace hb210_1 : (0 : Int) ≤ t1.toInt ∧ t1.toInt < 16 := hb210_1
                  exfalso
                  omega
                · replace c148_1 : ¬ ¬ (ω.1 10 p.toInt.toNat).toInt = 6 := c148_1
                  replace h := tx_iinc (v := (-2)) (p' := 154) h em3_151 (by decide +kernel) rfl rfl
                  replace h : eT xq_3 _ 154 [some (.inr (.inl (some 48))), some (.inl l), some (.inl (p + 1)), some (.inl (t + (-2))), some (.inl (ω.1 10 p.toInt.toNat)), some (.inl (ω.1 11 p.toInt.toNat))] [] ω r μ' := h
                  have et2 : (t + -2).toInt = t.toInt - 2 := kb2 (by omega)
                  obtain ⟨t2, ht2⟩ : ∃ z, z = t + -2 := ⟨_, rfl⟩
                  rw [← ht2] at et2 h
                  clear ht2
                  replace h := tx_aload_n (p' := 155) h em3_154 rfl rfl
                  replace h := tx_getc (c := 1) (j := 2) (p' := 158) h em3_155 ((congrFun xo_2 15).trans rfl) rfl rfl rfl
                  replace h := tx_iload_n (p' := 159) h em3_158 rfl rfl
                  obtain ⟨hb159_1, h⟩ := tx_iald (len := 16) (p' := 160) h em3_159 rfl rfl
                  replace hb159_1 : (0 : Int) ≤ t2.toInt ∧ t2.toInt < 16 := hb159_1
                  replace h := tx_aload_n (p' := 161) h em3_160 rfl rfl
                  replace h := tx_getc (c := 1) (j := 2) (p' := 164) h em3_161 ((congrFun xo_2 15).trans rfl) rfl rfl rfl
                  replace h := tx_iload_n (p' := 165) h em3_164 rfl rfl
                  replace h := tx_iconst (v := 1) (p' := 166) h em3_165 (by decide +kernel) rfl
                  replace h := tx_iadd (p' := 167) h em3_166 rfl
                  obtain ⟨hb167_1, h⟩ := tx_iald (len := 16) (p' := 168) h em3_167 rfl rfl
                  replace hb167_1 : (0 : Int) ≤ (t2 + (1 : Int32)).toInt ∧ (t2 + (1 : Int32)).toInt < 16 := hb167_1
                  rcases tx_icmp (t := 175) (p' := 171) h em3_168 (by decide) rfl with ⟨c168_1, h⟩ | ⟨c168_1, h⟩
                  · replace c168_1 : (ω.1 50 (t2 + (1 : Int32)).toInt.toNat).toInt ≤ (ω.1 50 t2.toInt.toNat).toInt := c168_1
                    replace h := tx_iload_n (p' := 176) h em3_175 rfl rfl
                    replace h := tx_iload (p' := 178) h em3_176 rfl rfl
                    replace h := tx_max (p' := 181) h em3_178 ((congrFun xo_2 48).trans rfl) rfl
                    replace h := tx_istore_n (p' := 182) h em3_181 rfl
                    replace h : eT xq_3 _ 182 [some (.inr (.inl (some 48))), some (.inl l), some (.inl (if (p + 1) < (ω.1 11 p.toInt.toNat) then (ω.1 11 p.toInt.toNat) else (p + 1))), some (.inl t2), some (.inl (ω.1 10 p.toInt.toNat)), some (.inl (ω.1 11 p.toInt.toNat))] [] ω r μ' := h
                    replace h := tx_goto (t := 215) h em3_182 (by decide)
                    obtain ⟨n2, hn2, h⟩ := tx_gotoS (t := 12) h em3_215 (by decide)
                    exfalso
                    omega
                  · replace c168_1 : ¬ (ω.1 50 (t2 + (1 : Int32)).toInt.toNat).toInt ≤ (ω.1 50 t2.toInt.toNat).toInt := c168_1
                    replace h := tx_iload_n (p' := 172) h em3_171 rfl rfl
                    replace h := tx_goto (t := 181) h em3_172 (by decide)
                    replace h := tx_istore_n (p' := 182) h em3_181 rfl
                    replace h : eT xq_3 _ 182 [some (.inr (.inl (some 48))), some (.inl l), some (.inl (p + 1)), some (.inl t2), some (.inl (ω.1 10 p.toInt.toNat)), some (.inl (ω.1 11 p.toInt.toNat))] [] ω r μ' := h
                    replace h := tx_goto (t := 215) h em3_182 (by decide)
                    obtain ⟨n2, hn2, h⟩ := tx_gotoS (t := 12) h em3_215 (by decide)
                    exfalso
                    omega
              · replace c139 : ¬ ¬ (ω.1 50 (t - (1 : Int32)).toInt.toNat).toInt = 0 := c139
                replace h := tx_iconst (v := 0) (p' := 143) h em3_142 (by decide +kernel) rfl
                obtain ⟨rfl, hμ⟩ := tx_ireturn h em3_143
                exfalso
                omega
        · replace c100 : ¬ ¬ (ω.1 10 p.toInt.toNat).toInt = 7 := c100
          replace h := tx_iload_n (p' := 104) h em3_103 rfl rfl
          rcases tx_if (t := 118) (p' := 107) h em3_104 (by decide) rfl with ⟨c104, h⟩ | ⟨c104, h⟩
          · replace c104 : t.toInt ≤ 0 := c104
            replace h := tx_iconst (v := 0) (p' := 119) h em3_118 (by decide +kernel) rfl
            obtain ⟨rfl, hμ⟩ := tx_ireturn h em3_119
            exfalso
            omega
          · replace c104 : ¬ t.toInt ≤ 0 := c104
            replace h := tx_aload_n (p' := 108) h em3_107 rfl rfl
            replace h := tx_getc (c := 1) (j := 2) (p' := 111) h em3_108 ((congrFun xo_2 15).trans rfl) rfl rfl rfl
            replace h := tx_iload_n (p' := 112) h em3_111 rfl rfl
            replace h := tx_iconst (v := 1) (p' := 113) h em3_112 (by decide +kernel) rfl
            replace h := tx_isub (p' := 114) h em3_113 rfl
            obtain ⟨hb114, h⟩ := tx_iald (len := 16) (p' := 115) h em3_114 rfl rfl
            replace hb114 : (0 : Int) ≤ (t - (1 : Int32)).toInt ∧ (t - (1 : Int32)).toInt < 16 := hb114
            replace h := tx_goto (t := 119) h em3_115 (by decide)
            obtain ⟨rfl, hμ⟩ := tx_ireturn h em3_119
            exfalso
            omega
      · replace c56 : ¬ ¬ (ω.1 10 p.toInt.toNat).toInt = 1 := c56
        replace h := tx_iload_n (p' := 60) h em3_59 rfl rfl
        replace h := tx_bipush (v := 16) (p' := 62) h em3_60 (by decide +kernel) rfl
        rcases tx_icmp (t := 67) (p' := 65) h em3_62 (by decide) rfl with ⟨c62_1, h⟩ | ⟨c62_1, h⟩
        · replace c62_1 : t.toInt < 16 := c62_1
          replace h := tx_aload_n (p' := 68) h em3_67 rfl rfl
          replace h := tx_getc (c := 1) (j := 2) (p' := 71) h em3_68 ((congrFun xo_2 15).trans rfl) rfl rfl rfl
          replace h := tx_iload_n (p' := 72) h em3_71 rfl rfl
          replace h := tx_iload (p' := 74) h em3_72 rfl rfl
          rcases tx_if (t := 82) (p' := 77) h em3_74 (by decide) rfl with ⟨c74_1, h⟩ | ⟨c74_1, h⟩
          · replace c74_1 : ¬ (ω.1 10 p.toInt.toNat).toInt = 0 := c74_1
            replace h := tx_aload_n (p' := 83) h em3_82 rfl rfl
            replace h := tx_getc (c := 1) (j := 1) (p' := 86) h em3_83 ((congrFun xo_2 11).trans rfl) rfl rfl rfl
            replace h := tx_iload (p' := 88) h em3_86 rfl rfl
            obtain ⟨hb88_1, h⟩ := tx_iald (len := 9) (p' := 89) h em3_88 rfl rfl
            replace hb88_1 : (0 : Int) ≤ (ω.1 11 p.toInt.toNat).toInt ∧ (ω.1 11 p.toInt.toNat).toInt < 9 := hb88_1
            obtain ⟨hb89_2, h⟩ := tx_iast (len := 16) (p' := 90) h em3_89 rfl rfl
            replace hb89_2 : (0 : Int) ≤ t.toInt ∧ t.toInt < 16 := hb89_2
            replace h := tx_iinc (v := 1) (p' := 93) h em3_90 (by decide +kernel) rfl rfl
            replace h : eT xq_3 _ 93 [some (.inr (.inl (some 48))), some (.inl l), some (.inl (p + 1)), some (.inl (t + 1)), some (.inl (ω.1 10 p.toInt.toNat)), some (.inl (ω.1 11 p.toInt.toNat))] [] (xpi ω 50 t.toInt.toNat (ω.1 49 (ω.1 11 p.toInt.toNat).toInt.toNat)) r μ' := h
            replace h := tx_goto (t := 215) h em3_93 (by decide)
            obtain ⟨n2, hn2, h⟩ := tx_gotoS (t := 12) h em3_215 (by decide)
            exfalso
            omega
          · replace c74_1 : ¬ ¬ (ω.1 10 p.toInt.toNat).toInt = 0 := c74_1
            replace h := tx_iload (p' := 79) h em3_77 rfl rfl
            replace h := tx_goto (t := 89) h em3_79 (by decide)
            obtain ⟨hb89_3, h⟩ := tx_iast (len := 16) (p' := 90) h em3_89 rfl rfl
            replace hb89_3 : (0 : Int) ≤ t.toInt ∧ t.toInt < 16 := hb89_3
            replace h := tx_iinc (v := 1) (p' := 93) h em3_90 (by decide +kernel) rfl rfl
            replace h : eT xq_3 _ 93 [some (.inr (.inl (some 48))), some (.inl l), some (.inl (p + 1)), some (.inl (t + 1)), some (.inl (ω.1 10 p.toInt.toNat)), some (.inl (ω.1 11 p.toInt.toNat))] [] (xpi ω 50 t.toInt.toNat (ω.1 11 p.toInt.toNat)) r μ' := h
            replace h := tx_goto (t := 215) h em3_93 (by decide)
            obtain ⟨n2, hn2, h⟩ := tx_gotoS (t := 12) h em3_215 (by decide)
            exfalso
            omega
        · replace c62_1 : ¬ t.toInt < 16 := c62_1
          replace h := tx_iconst (v := 0) (p' := 66) h em3_65 (by decide +kernel) rfl
          obtain ⟨rfl, hμ⟩ := tx_ireturn h em3_66
          exact ⟨rfl, hμ⟩
set_option maxRecDepth 10000 in
set_option maxHeartbeats 4000000 in
theorem jd_ans {n : Nat} {l p t : Int32} {o4 o5 : Option zV} {ω μ' : xM} {r : Option zV} (h : eT xq_3 n 12 [some (.inr (.inl (some 48))), some (.inl l), some (.inl p), some (.inl t), o4, o5] [] ω r μ') (hp : p.toInt < (ω.1 2 14).toInt) (hq : 0 ≤ p.toInt) (ho : (ω.1 10 p.toInt.toNat).toInt = 7) (ht : 0 < t.toInt) : r = some (.inl (ω.1 50 (t.toInt - 1).toNat)) ∧ μ' = ω := by
  have e1i : (1 : Int32).toInt = 1 := by decide
  have eta : (t - (1 : Int32)).toInt = t.toInt - 1 := by rw [an_sub (by rw [e1i]; omega) (by rw [e1i]; have := an_hi t; omega), e1i]
  replace h := tx_iload_n (p' := 13) h em3_12 rfl rfl
  replace h := tx_aload_n (p' := 14) h em3_13 rfl rfl
  replace h := tx_getc (c := 1) (j := 0) (p' := 17) h em3_14 ((congrFun xo_2 18).trans rfl) rfl rfl rfl
  replace h := tx_getf (c := 6) (j := 14) (p' := 20) h em3_17 ((congrFun xo_2 78).trans rfl) rfl rfl (by decide) rfl
  rcases tx_icmp (t := 218) (p' := 23) h em3_20 (by decide) rfl with ⟨c20, h⟩ | ⟨c20, h⟩
  · replace c20 : (ω.1 2 14).toInt ≤ p.toInt := c20
    replace h := tx_iconst (v := 0) (p' := 219) h em3_218 (by decide +kernel) rfl
    obtain ⟨rfl, hμ⟩ := tx_ireturn h em3_219
    exfalso
    omega
  · replace c20 : ¬ (ω.1 2 14).toInt ≤ p.toInt := c20
    replace h := tx_aload_n (p' := 24) h em3_23 rfl rfl
    replace h := tx_getc (c := 1) (j := 0) (p' := 27) h em3_24 ((congrFun xo_2 18).trans rfl) rfl rfl rfl
    replace h := tx_getc (c := 6) (j := 12) (p' := 30) h em3_27 ((congrFun xo_2 81).trans rfl) rfl rfl rfl
    replace h := tx_iload_n (p' := 31) h em3_30 rfl rfl
    obtain ⟨hb31, h⟩ := tx_iald (len := 408) (p' := 32) h em3_31 rfl rfl
    replace hb31 : (0 : Int) ≤ p.toInt ∧ p.toInt < 408 := hb31
    replace h := tx_istore (p' := 34) h em3_32 rfl
    replace h : eT xq_3 _ 34 [some (.inr (.inl (some 48))), some (.inl l), some (.inl p), some (.inl t), some (.inl (ω.1 10 p.toInt.toNat)), o5] [] ω r μ' := h
    replace h := tx_aload_n (p' := 35) h em3_34 rfl rfl
    replace h := tx_getc (c := 1) (j := 0) (p' := 38) h em3_35 ((congrFun xo_2 18).trans rfl) rfl rfl rfl
    replace h := tx_getc (c := 6) (j := 13) (p' := 41) h em3_38 ((congrFun xo_2 84).trans rfl) rfl rfl rfl
    replace h := tx_iload_n (p' := 42) h em3_41 rfl rfl
    obtain ⟨hb42, h⟩ := tx_iald (len := 408) (p' := 43) h em3_42 rfl rfl
    replace hb42 : (0 : Int) ≤ p.toInt ∧ p.toInt < 408 := hb42
    replace h := tx_istore (p' := 45) h em3_43 rfl
    replace h : eT xq_3 _ 45 [some (.inr (.inl (some 48))), some (.inl l), some (.inl p), some (.inl t), some (.inl (ω.1 10 p.toInt.toNat)), some (.inl (ω.1 11 p.toInt.toNat))] [] ω r μ' := h
    replace h := tx_iinc (v := 1) (p' := 48) h em3_45 (by decide +kernel) rfl rfl
    replace h : eT xq_3 _ 48 [some (.inr (.inl (some 48))), some (.inl l), some (.inl (p + 1)), some (.inl t), some (.inl (ω.1 10 p.toInt.toNat)), some (.inl (ω.1 11 p.toInt.toNat))] [] ω r μ' := h
    replace h := tx_iload (p' := 50) h em3_48 rfl rfl
    rcases tx_if (t := 59) (p' := 53) h em3_50 (by decide) rfl with ⟨c50, h⟩ | ⟨c50, h⟩
    · replace c50 : (ω.1 10 p.toInt.toNat).toInt = 0 := c50
      replace h := tx_iload_n (p' := 60) h em3_59 rfl rfl
      replace h := tx_bipush (v := 16) (p' := 62) h em3_60 (by decide +kernel) rfl
      rcases tx_icmp (t := 67) (p' := 65) h em3_62 (by decide) rfl with ⟨c62, h⟩ | ⟨c62, h⟩
      · replace c62 : t.toInt < 16 := c62
        replace h := tx_aload_n (p' := 68) h em3_67 rfl rfl
        replace h := tx_getc (c := 1) (j := 2) (p' := 71) h em3_68 ((congrFun xo_2 15).trans rfl) rfl rfl rfl
        replace h := tx_iload_n (p' := 72) h em3_71 rfl rfl
        replace h := tx_iload (p' := 74) h em3_72 rfl rfl
        rcases tx_if (t := 82) (p' := 77) h em3_74 (by decide) rfl with ⟨c74, h⟩ | ⟨c74, h⟩
        · replace c74 : ¬ (ω.1 10 p.toInt.toNat).toInt = 0 := c74
          replace h := tx_aload_n (p' := 83) h em3_82 rfl rfl
          replace h := tx_getc (c := 1) (j := 1) (p' := 86) h em3_83 ((congrFun xo_2 11).trans rfl) rfl rfl rfl
          replace h := tx_iload (p' := 88) h em3_86 rfl rfl
          obtain ⟨hb88, h⟩ := tx_iald (len := 9) (p' := 89) h em3_88 rfl rfl
          replace hb88 : (0 : Int) ≤ (ω.1 11 p.toInt.toNat).toInt ∧ (ω.1 11 p.toInt.toNat).toInt < 9 := hb88
          obtain ⟨hb89, h⟩ := tx_iast (len := 16) (p' := 90) h em3_89 rfl rfl
          replace hb89 : (0 : Int) ≤ t.toInt ∧ t.toInt < 16 := hb89
          replace h := tx_iinc (v := 1) (p' := 93) h em3_90 (by decide +kernel) rfl rfl
          replace h : eT xq_3 _ 93 [some (.inr (.inl (some 48))), some (.inl l), some (.inl (p + 1)), some (.inl (t + 1)), some (.inl (ω.1 10 p.toInt.toNat)), some (.inl (ω.1 11 p.toInt.toNat))] [] (xpi ω 50 t.toInt.toNat (ω.1 49 (ω.1 11 p.toInt.toNat).toInt.toNat)) r μ' := h
          replace h := tx_goto (t := 215) h em3_93 (by decide)
          obtain ⟨n2, hn2, h⟩ := tx_gotoS (t := 12) h em3_215 (by decide)
          exfalso
          omega
        · replace c74 : ¬ ¬ (ω.1 10 p.toInt.toNat).toInt = 0 := c74
          replace h := tx_iload (p' := 79) h em3_77 rfl rfl
          replace h := tx_goto (t := 89) h em3_79 (by decide)
          obtain ⟨hb89_1, h⟩ := tx_iast (len := 16) (p' := 90) h em3_89 rfl rfl
          replace hb89_1 : (0 : Int) ≤ t.toInt ∧ t.toInt < 16 := hb89_1
          replace h := tx_iinc (v := 1) (p' := 93) h em3_90 (by decide +kernel) rfl rfl
          replace h : eT xq_3 _ 93 [some (.inr (.inl (some 48))), some (.inl l), some (.inl (p + 1)), some (.inl (t + 1)), some (.inl (ω.1 10 p.toInt.toNat)), some (.inl (ω.1 11 p.toInt.toNat))] [] (xpi ω 50 t.toInt.toNat (ω.1 11 p.toInt.toNat)) r μ' := h
          replace h := tx_goto (t := 215) h em3_93 (by decide)
          obtain ⟨n2, hn2, h⟩ := tx_gotoS (t := 12) h em3_215 (by decide)
          exfalso
          omega
      · replace c62 : ¬ t.toInt < 16 := c62
        replace h := tx_iconst (v := 0) (p' := 66) h em3_65 (by decide +kernel) rfl
        obtain ⟨rfl, hμ⟩ := tx_ireturn h em3_66
        exfalso
        omega
    · replace c50 : ¬ (ω.1 10 p.toInt.toNat).toInt = 0 := c50
      replace h := tx_iload (p' := 55) h em3_53 rfl rfl
      replace h := tx_iconst (v := 1) (p' := 56) h em3_55 (by decide +kernel) rfl
      rcases tx_icmp (t := 96) (p' := 59) h em3_56 (by decide) rfl with ⟨c56, h⟩ | ⟨c56, h⟩
      · replace c56 : ¬ (ω.1 10 p.toInt.toNat).toInt = 1 := c56
        replace h := tx_iload (p' := 98) h em3_96 rfl rfl
        replace h := tx_bipush (v := 7) (p' := 100) h em3_98 (by decide +kernel) rfl
        rcases tx_icmp (t := 120) (p' := 103) h em3_100 (by decide) rfl with ⟨c100, h⟩ | ⟨c100, h⟩
        · replace c100 : ¬ (ω.1 10 p.toInt.toNat).toInt = 7 := c100
          replace h := tx_iload_n (p' := 121) h em3_120 rfl rfl
          replace h := tx_iconst (v := 2) (p' := 122) h em3_121 (by decide +kernel) rfl
          rcases tx_icmp (t := 142) (p' := 125) h em3_122 (by decide) rfl with ⟨c122, h⟩ | ⟨c122, h⟩
          · replace c122 : t.toInt < 2 := c122
            replace h := tx_iconst (v := 0) (p' := 143) h em3_142 (by decide +kernel) rfl
            obtain ⟨rfl, hμ⟩ := tx_ireturn h em3_143
            exfalso
            omega
          · replace c122 : ¬ t.toInt < 2 := c122
            replace h := tx_iload (p' := 127) h em3_125 rfl rfl
            replace h := tx_iconst (v := 5) (p' := 128) h em3_127 (by decide +kernel) rfl
            rcases tx_icmp (t := 144) (p' := 131) h em3_128 (by decide) rfl with ⟨c128, h⟩ | ⟨c128, h⟩
            · replace c128 : ¬ (ω.1 10 p.toInt.toNat).toInt = 5 := c128
              replace h := tx_iload (p' := 146) h em3_144 rfl rfl
              replace h := tx_bipush (v := 6) (p' := 148) h em3_146 (by decide +kernel) rfl
              rcases tx_icmp (t := 185) (p' := 151) h em3_148 (by decide) rfl with ⟨c148, h⟩ | ⟨c148, h⟩
              · replace c148 : ¬ (ω.1 10 p.toInt.toNat).toInt = 6 := c148
                replace h := tx_iinc (v := (-1)) (p' := 188) h em3_185 (by decide +kernel) rfl rfl
                replace h : eT xq_3 _ 188 [some (.inr (.inl (some 48))), some (.inl l), some (.inl (p + 1)), some (.inl (t + (-1))), some (.inl (ω.1 10 p.toInt.toNat)), some (.inl (ω.1 11 p.toInt.toNat))] [] ω r μ' := h
                have et1 : (t + -1).toInt = t.toInt - 1 := ka1 (by omega)
                obtain ⟨t1, ht1⟩ : ∃ z, z = t + -1 := ⟨_, rfl⟩
                rw [← ht1] at et1 h
                clear ht1
                replace h := tx_aload_n (p' := 189) h em3_188 rfl rfl
                replace h := tx_getc (c := 1) (j := 2) (p' := 192) h em3_189 ((congrFun xo_2 15).trans rfl) rfl rfl rfl
                replace h := tx_iload_n (p' := 193) h em3_192 rfl rfl
                replace h := tx_iconst (v := 1) (p' := 194) h em3_193 (by decide +kernel) rfl
                replace h := tx_isub (p' := 195) h em3_194 rfl
                replace h := tx_iload (p' := 197) h em3_195 rfl rfl
                replace h := tx_aload_n (p' := 198) h em3_197 rfl rfl
                replace h := tx_getc (c := 1) (j := 2) (p' := 201) h em3_198 ((congrFun xo_2 15).trans rfl) rfl rfl rfl
                replace h := tx_iload_n (p' := 202) h em3_201 rfl rfl
                replace h := tx_iconst (v := 1) (p' := 203) h em3_202 (by decide +kernel) rfl
                replace h := tx_isub (p' := 204) h em3_203 rfl
                obtain ⟨hb204, h⟩ := tx_iald (len := 16) (p' := 205) h em3_204 rfl rfl
                replace hb204 : (0 : Int) ≤ (t1 - (1 : Int32)).toInt ∧ (t1 - (1 : Int32)).toInt < 16 := hb204
                replace h := tx_aload_n (p' := 206) h em3_205 rfl rfl
                replace h := tx_getc (c := 1) (j := 2) (p' := 209) h em3_206 ((congrFun xo_2 15).trans rfl) rfl rfl rfl
                replace h := tx_iload_n (p' := 210) h em3_209 rfl rfl
                obtain ⟨hb210, h⟩ := tx_iald (len := 16) (p' := 211) h em3_210 rfl rfl
                replace hb210 : (0 : Int) ≤ t1.toInt ∧ t1.toInt < 16 := hb210
                exfalso
                omega
              · replace c148 : ¬ ¬ (ω.1 10 p.toInt.toNat).toInt = 6 := c148
                replace h := tx_iinc (v := (-2)) (p' := 154) h em3_151 (by decide +kernel) rfl rfl
                replace h : eT xq_3 _ 154 [some (.inr (.inl (some 48))), some (.inl l), some (.inl (p + 1)), some (.inl (t + (-2))), some (.inl (ω.1 10 p.toInt.toNat)), some (.inl (ω.1 11 p.toInt.toNat))] [] ω r μ' := h
                have et2 : (t + -2).toInt = t.toInt - 2 := kb2 (by omega)
                obtain ⟨t2, ht2⟩ : ∃ z, z = t + -2 := ⟨_, rfl⟩
                rw [← ht2] at et2 h
                clear ht2
                replace h := tx_aload_n (p' := 155) h em3_154 rfl rfl
                replace h := tx_getc (c := 1) (j := 2) (p' := 158) h em3_155 ((congrFun xo_2 15).trans rfl) rfl rfl rfl
                replace h := tx_iload_n (p' := 159) h em3_158 rfl rfl
                obtain ⟨hb159, h⟩ := tx_iald (len := 16) (p' := 160) h em3_159 rfl rfl
                replace hb159 : (0 : Int) ≤ t2.toInt ∧ t2.toInt < 16 := hb159
                replace h := tx_aload_n (p' := 161) h em3_160 rfl rfl
                replace h := tx_getc (c := 1) (j := 2) (p' := 164) h em3_161 ((congrFun xo_2 15).trans rfl) rfl rfl rfl
                replace h := tx_iload_n (p' := 165) h em3_164 rfl rfl
                replace h := tx_iconst (v := 1) (p' := 166) h em3_165 (by decide +kernel) rfl
                replace h := tx_iadd (p' := 167) h em3_166 rfl
                obtain ⟨hb167, h⟩ := tx_iald (len := 16) (p' := 168) h em3_167 rfl rfl
                replace hb167 : (0 : Int) ≤ (t2 + (1 : Int32)).toInt ∧ (t2 + (1 : Int32)).toInt < 16 := hb167
                rcases tx_icmp (t := 175) (p' := 171) h em3_168 (by decide) rfl with ⟨c168, h⟩ | ⟨c168, h⟩
                · replace c168 : (ω.1 50 (t2 + (1 : Int32)).toInt.toNat).toInt ≤ (ω.1 50 t2.toInt.toNat).toInt := c168
                  replace h := tx_iload_n (p' := 176) h em3_175 rfl rfl
                  replace h := tx_iload (p' := 178) h em3_176 rfl rfl
                  replace h := tx_max (p' := 181) h em3_178 ((congrFun xo_2 48).trans rfl) rfl
                  replace h := tx_istore_n (p' := 182) h em3_181 rfl
                  replace h : eT xq_3 _ 182 [some (.inr (.inl (some 48))), some (.inl l), some (.inl (if (p + 1) < (ω.1 11 p.toInt.toNat) then (ω.1 11 p.toInt.toNat) else (p + 1))), some (.inl t2), some (.inl (ω.1 10 p.toInt.toNat)), some (.inl (ω.1 11 p.toInt.toNat))] [] ω r μ' := h
                  replace h := tx_goto (t := 215) h em3_182 (by decide)
                  obtain ⟨n2, hn2, h⟩ := tx_gotoS (t := 12) h em3_215 (by decide)
                  exfalso
                  omega
                · replace c168 : ¬ (ω.1 50 (t2 + (1 : Int32)).toInt.toNat).toInt ≤ (ω.1 50 t2.toInt.toNat).toInt := c168
                  replace h := tx_iload_n (p' := 172) h em3_171 rfl rfl
                  replace h := tx_goto (t := 181) h em3_172 (by decide)
                  replace h := tx_istore_n (p' := 182) h em3_181 rfl
                  replace h : eT xq_3 _ 182 [some (.inr (.inl (some 48))), some (.inl l), some (.inl (p + 1)), some (.inl t2), some (.inl (ω.1 10 p.toInt.toNat)), some (.inl (ω.1 11 p.toInt.toNat))] [] ω r μ' := h
                  replace h := tx_goto (t := 215) h em3_182 (by decide)
                  obtain ⟨n2, hn2, h⟩ := tx_gotoS (t := 12) h em3_215 (by decide)
                  exfalso
                  omega
            · replace c128 : ¬ ¬ (ω.1 10 p.toInt.toNat).toInt = 5 := c128
              replace h := tx_aload_n (p' := 132) h em3_131 rfl rfl
              replace h := tx_getc (c := 1) (j := 2) (p' := 135) h em3_132 ((congrFun xo_2 15).trans rfl) rfl rfl rfl
              replace h := tx_iload_n (p' := 136) h em3_135 rfl rfl
              replace h := tx_iconst (v := 1) (p' := 137) h em3_136 (by decide +kernel) rfl
              replace h := tx_isub (p' := 138) h em3_137 rfl
              obtain ⟨hb138, h⟩ := tx_iald (len := 16) (p' := 139) h em3_138 rfl rfl
              replace hb138 : (0 : Int) ≤ (t - (1 : Int32)).toInt ∧ (t - (1 : Int32)).toInt < 16 := hb138
              rcases tx_if (t := 144) (p' := 142) h em3_139 (by decide) rfl with ⟨c139, h⟩ | ⟨c139, h⟩
              · replace c139 : ¬ (ω.1 50 (t - (1 : Int32)).toInt.toNat).toInt = 0 := c139
                replace h := tx_iload (p' := 146) h em3_144 rfl rfl
                replace h := tx_bipush (v := 6) (p' := 148) h em3_146 (by decide +kernel) rfl
                rcases tx_icmp (t := 185) (p' := 151) h em3_148 (by decide) rfl with ⟨c148_1, h⟩ | ⟨c148_1, h⟩
                · replace c148_1 : ¬ (ω.1 10 p.toInt.toNat).toInt = 6 := c148_1
                  replace h := tx_iinc (v := (-1)) (p' := 188) h em3_185 (by decide +kernel) rfl rfl
                  replace h : eT xq_3 _ 188 [some (.inr (.inl (some 48))), some (.inl l), some (.inl (p + 1)), some (.inl (t + (-1))), some (.inl (ω.1 10 p.toInt.toNat)), some (.inl (ω.1 11 p.toInt.toNat))] [] ω r μ' := h
                  have et1 : (t + -1).toInt = t.toInt - 1 := ka1 (by omega)
                  obtain ⟨t1, ht1⟩ : ∃ z, z = t + -1 := ⟨_, rfl⟩
                  rw [← ht1] at et1 h
                  clear ht1
                  replace h := tx_aload_n (p' := 189) h em3_188 rfl rfl
                  replace h := tx_getc (c := 1) (j := 2) (p' := 192) h em3_189 ((congrFun xo_2 15).trans rfl) rfl rfl rfl
                  replace h := tx_iload_n (p' := 193) h em3_192 rfl rfl
                  replace h := tx_iconst (v := 1) (p' := 194) h em3_193 (by decide +kernel) rfl
                  replace h := tx_isub (p' := 195) h em3_194 rfl
                  replace h := tx_iload (p' := 197) h em3_195 rfl rfl
                  replace h := tx_aload_n (p' := 198) h em3_197 rfl rfl
                  replace h := tx_getc (c := 1) (j := 2) (p' := 201) h em3_198 ((congrFun xo_2 15).trans rfl) rfl rfl rfl
                  replace h := tx_iload_n (p' := 202) h em3_201 rfl rfl
                  replace h := tx_iconst (v := 1) (p' := 203) h em3_202 (by decide +kernel) rfl
                  replace h := tx_isub (p' := 204) h em3_203 rfl
                  obtain ⟨hb204_1, h⟩ := tx_iald (len := 16) (p' := 205) h em3_204 rfl rfl
                  replace hb204_1 : (0 : Int) ≤ (t1 - (1 : Int32)).toInt ∧ (t1 - (1 : Int32)).toInt < 16 := hb204_1
                  replace h := tx_aload_n (p' := 206) h em3_205 rfl rfl
                  replace h := tx_getc (c := 1) (j := 2) (p' := 209) h em3_206 ((congrFun xo_2 15).trans rfl) rfl rfl rfl
                  replace h := tx_iload_n (p' := 210) h em3_209 rfl rfl
                  obtain ⟨hb210_1, h⟩ := tx_iald (len := 16) (p' := 211) h em3_210 rfl rfl
                  replace hb210_1 : (0 : Int) ≤ t1.toInt ∧ t1.toInt < 16 := hb210_1
                  exfalso
                  omega
                · replace c148_1 : ¬ ¬ (ω.1 10 p.toInt.toNat).toInt = 6 := c148_1
                  replace h := tx_iinc (v := (-2)) (p' := 154) h em3_151 (by decide +kernel) rfl rfl
                  replace h : eT xq_3 _ 154 [some (.inr (.inl (some 48))), some (.inl l), some (.inl (p + 1)), some (.inl (t + (-2))), some (.inl (ω.1 10 p.toInt.toNat)), some (.inl (ω.1 11 p.toInt.toNat))] [] ω r μ' := h
                  have et2 : (t + -2).toInt = t.toInt - 2 := kb2 (by omega)
                  obtain ⟨t2, ht2⟩ : ∃ z, z = t + -2 := ⟨_, rfl⟩
                  rw [← ht2] at et2 h
                  clear ht2
                  replace h := tx_aload_n (p' := 155) h em3_154 rfl rfl
                  replace h := tx_getc (c := 1) (j := 2) (p' := 158) h em3_155 ((congrFun xo_2 15).trans rfl) rfl rfl rfl
                  replace h := tx_iload_n (p' := 159) h em3_158 rfl rfl
                  obtain ⟨hb159_1, h⟩ := tx_iald (len := 16) (p' := 160) h em3_159 rfl rfl
                  replace hb159_1 : (0 : Int) ≤ t2.toInt ∧ t2.toInt < 16 := hb159_1
                  replace h := tx_aload_n (p' := 161) h em3_160 rfl rfl
                  replace h := tx_getc (c := 1) (j := 2) (p' := 164) h em3_161 ((congrFun xo_2 15).trans rfl) rfl rfl rfl
                  replace h := tx_iload_n (p' := 165) h em3_164 rfl rfl
                  replace h := tx_iconst (v := 1) (p' := 166) h em3_165 (by decide +kernel) rfl
                  replace h := tx_iadd (p' := 167) h em3_166 rfl
                  obtain ⟨hb167_1, h⟩ := tx_iald (len := 16) (p' := 168) h em3_167 rfl rfl
                  replace hb167_1 : (0 : Int) ≤ (t2 + (1 : Int32)).toInt ∧ (t2 + (1 : Int32)).toInt < 16 := hb167_1
                  rcases tx_icmp (t := 175) (p' := 171) h em3_168 (by decide) rfl with ⟨c168_1, h⟩ | ⟨c168_1, h⟩
                  · replace c168_1 : (ω.1 50 (t2 + (1 : Int32)).toInt.toNat).toInt ≤ (ω.1 50 t2.toInt.toNat).toInt := c168_1
                    replace h := tx_iload_n (p' := 176) h em3_175 rfl rfl
                    replace h := tx_iload (p' := 178) h em3_176 rfl rfl
                    replace h := tx_max (p' := 181) h em3_178 ((congrFun xo_2 48).trans rfl) rfl
                    replace h := tx_istore_n (p' := 182) h em3_181 rfl
                    replace h : eT xq_3 _ 182 [some (.inr (.inl (some 48))), some (.inl l), some (.inl (if (p + 1) < (ω.1 11 p.toInt.toNat) then (ω.1 11 p.toInt.toNat) else (p + 1))), some (.inl t2), some (.inl (ω.1 10 p.toInt.toNat)), some (.inl (ω.1 11 p.toInt.toNat))] [] ω r μ' := h
                    replace h := tx_goto (t := 215) h em3_182 (by decide)
                    obtain ⟨n2, hn2, h⟩ := tx_gotoS (t := 12) h em3_215 (by decide)
                    exfalso
                    omega
                  · replace c168_1 : ¬ (ω.1 50 (t2 + (1 : Int32)).toInt.toNat).toInt ≤ (ω.1 50 t2.toInt.toNat).toInt := c168_1
                    replace h := tx_iload_n (p' := 172) h em3_171 rfl rfl
                    replace h := tx_goto (t := 181) h em3_172 (by decide)
                    replace h := tx_istore_n (p' := 182) h em3_181 rfl
                    replace h : eT xq_3 _ 182 [some (.inr (.inl (some 48))), some (.inl l), some (.inl (p + 1)), some (.inl t2), some (.inl (ω.1 10 p.toInt.toNat)), some (.inl (ω.1 11 p.toInt.toNat))] [] ω r μ' := h
                    replace h := tx_goto (t := 215) h em3_182 (by decide)
                    obtain ⟨n2, hn2, h⟩ := tx_gotoS (t := 12) h em3_215 (by decide)
                    exfalso
                    omega
              · replace c139 : ¬ ¬ (ω.1 50 (t - (1 : Int32)).toInt.toNat).toInt = 0 := c139
                replace h := tx_iconst (v := 0) (p' := 143) h em3_142 (by decide +kernel) rfl
                obtain ⟨rfl, hμ⟩ := tx_ireturn h em3_143
                exfalso
                omega
        · replace c100 : ¬ ¬ (ω.1 10 p.toInt.toNat).toInt = 7 := c100
          replace h := tx_iload_n (p' := 104) h em3_103 rfl rfl
          rcases tx_if (t := 118) (p' := 107) h em3_104 (by decide) rfl with ⟨c104, h⟩ | ⟨c104, h⟩
          · replace c104 : t.toInt ≤ 0 := c104
            replace h := tx_iconst (v := 0) (p' := 119) h em3_118 (by decide +kernel) rfl
            obtain ⟨rfl, hμ⟩ := tx_ireturn h em3_119
            exfalso
            omega
          · replace c104 : ¬ t.toInt ≤ 0 := c104
            replace h := tx_aload_n (p' := 108) h em3_107 rfl rfl
            replace h := tx_getc (c := 1) (j := 2) (p' := 111) h em3_108 ((congrFun xo_2 15).trans rfl) rfl rfl rfl
            replace h := tx_iload_n (p' := 112) h em3_111 rfl rfl
            replace h := tx_iconst (v := 1) (p' := 113) h em3_112 (by decide +kernel) rfl
            replace h := tx_isub (p' := 114) h em3_113 rfl
            obtain ⟨hb114, h⟩ := tx_iald (len := 16) (p' := 115) h em3_114 rfl rfl
            replace hb114 : (0 : Int) ≤ (t - (1 : Int32)).toInt ∧ (t - (1 : Int32)).toInt < 16 := hb114
            replace h := tx_goto (t := 119) h em3_115 (by decide)
            obtain ⟨rfl, hμ⟩ := tx_ireturn h em3_119
            rw [eta]
            exact ⟨rfl, hμ⟩
      · replace c56 : ¬ ¬ (ω.1 10 p.toInt.toNat).toInt = 1 := c56
        replace h := tx_iload_n (p' := 60) h em3_59 rfl rfl
        replace h := tx_bipush (v := 16) (p' := 62) h em3_60 (by decide +kernel) rfl
        rcases tx_icmp (t := 67) (p' := 65) h em3_62 (by decide) rfl with ⟨c62_1, h⟩ | ⟨c62_1, h⟩
        · replace c62_1 : t.toInt < 16 := c62_1
          replace h := tx_aload_n (p' := 68) h em3_67 rfl rfl
          replace h := tx_getc (c := 1) (j := 2) (p' := 71) h em3_68 ((congrFun xo_2 15).trans rfl) rfl rfl rfl
          replace h := tx_iload_n (p' := 72) h em3_71 rfl rfl
          replace h := tx_iload (p' := 74) h em3_72 rfl rfl
          rcases tx_if (t := 82) (p' := 77) h em3_74 (by decide) rfl with ⟨c74_1, h⟩ | ⟨c74_1, h⟩
          · replace c74_1 : ¬ (ω.1 10 p.toInt.toNat).toInt = 0 := c74_1
            replace h := tx_aload_n (p' := 83) h em3_82 rfl rfl
            replace h := tx_getc (c := 1) (j := 1) (p' := 86) h em3_83 ((congrFun xo_2 11).trans rfl) rfl rfl rfl
            replace h := tx_iload (p' := 88) h em3_86 rfl rfl
            obtain ⟨hb88_1, h⟩ := tx_iald (len := 9) (p' := 89) h em3_88 rfl rfl
            replace hb88_1 : (0 : Int) ≤ (ω.1 11 p.toInt.toNat).toInt ∧ (ω.1 11 p.toInt.toNat).toInt < 9 := hb88_1
            obtain ⟨hb89_2, h⟩ := tx_iast (len := 16) (p' := 90) h em3_89 rfl rfl
            replace hb89_2 : (0 : Int) ≤ t.toInt ∧ t.toInt < 16 := hb89_2
            replace h := tx_iinc (v := 1) (p' := 93) h em3_90 (by decide +kernel) rfl rfl
            replace h : eT xq_3 _ 93 [some (.inr (.inl (some 48))), some (.inl l), some (.inl (p + 1)), some (.inl (t + 1)), some (.inl (ω.1 10 p.toInt.toNat)), some (.inl (ω.1 11 p.toInt.toNat))] [] (xpi ω 50 t.toInt.toNat (ω.1 49 (ω.1 11 p.toInt.toNat).toInt.toNat)) r μ' := h
            replace h := tx_goto (t := 215) h em3_93 (by decide)
            obtain ⟨n2, hn2, h⟩ := tx_gotoS (t := 12) h em3_215 (by decide)
            exfalso
            omega
          · replace c74_1 : ¬ ¬ (ω.1 10 p.toInt.toNat).toInt = 0 := c74_1
            replace h := tx_iload (p' := 79) h em3_77 rfl rfl
            replace h := tx_goto (t := 89) h em3_79 (by decide)
            obtain ⟨hb89_3, h⟩ := tx_iast (len := 16) (p' := 90) h em3_89 rfl rfl
            replace hb89_3 : (0 : Int) ≤ t.toInt ∧ t.toInt < 16 := hb89_3
            replace h := tx_iinc (v := 1) (p' := 93) h em3_90 (by decide +kernel) rfl rfl
            replace h : eT xq_3 _ 93 [some (.inr (.inl (some 48))), some (.inl l), some (.inl (p + 1)), some (.inl (t + 1)), some (.inl (ω.1 10 p.toInt.toNat)), some (.inl (ω.1 11 p.toInt.toNat))] [] (xpi ω 50 t.toInt.toNat (ω.1 11 p.toInt.toNat)) r μ' := h
            replace h := tx_goto (t := 215) h em3_93 (by decide)
            obtain ⟨n2, hn2, h⟩ := tx_gotoS (t := 12) h em3_215 (by decide)
            exfalso
            omega
        · replace c62_1 : ¬ t.toInt < 16 := c62_1
          replace h := tx_iconst (v := 0) (p' := 66) h em3_65 (by decide +kernel) rfl
          obtain ⟨rfl, hμ⟩ := tx_ireturn h em3_66
          exfalso
          omega
set_option maxRecDepth 10000 in
set_option maxHeartbeats 4000000 in
theorem jd_few {n : Nat} {l p t : Int32} {o4 o5 : Option zV} {ω μ' : xM} {r : Option zV} (h : eT xq_3 n 12 [some (.inr (.inl (some 48))), some (.inl l), some (.inl p), some (.inl t), o4, o5] [] ω r μ') (hp : p.toInt < (ω.1 2 14).toInt) (hq : 0 ≤ p.toInt) (ho : 2 ≤ (ω.1 10 p.toInt.toNat).toInt ∧ (ω.1 10 p.toInt.toNat).toInt ≤ 6) (ht : t.toInt < 2) : r = some (.inl 0) ∧ μ' = ω := by
  have e1i : (1 : Int32).toInt = 1 := by decide
  replace h := tx_iload_n (p' := 13) h em3_12 rfl rfl
  replace h := tx_aload_n (p' := 14) h em3_13 rfl rfl
  replace h := tx_getc (c := 1) (j := 0) (p' := 17) h em3_14 ((congrFun xo_2 18).trans rfl) rfl rfl rfl
  replace h := tx_getf (c := 6) (j := 14) (p' := 20) h em3_17 ((congrFun xo_2 78).trans rfl) rfl rfl (by decide) rfl
  rcases tx_icmp (t := 218) (p' := 23) h em3_20 (by decide) rfl with ⟨c20, h⟩ | ⟨c20, h⟩
  · replace c20 : (ω.1 2 14).toInt ≤ p.toInt := c20
    replace h := tx_iconst (v := 0) (p' := 219) h em3_218 (by decide +kernel) rfl
    obtain ⟨rfl, hμ⟩ := tx_ireturn h em3_219
    exfalso
    omega
  · replace c20 : ¬ (ω.1 2 14).toInt ≤ p.toInt := c20
    replace h := tx_aload_n (p' := 24) h em3_23 rfl rfl
    replace h := tx_getc (c := 1) (j := 0) (p' := 27) h em3_24 ((congrFun xo_2 18).trans rfl) rfl rfl rfl
    replace h := tx_getc (c := 6) (j := 12) (p' := 30) h em3_27 ((congrFun xo_2 81).trans rfl) rfl rfl rfl
    replace h := tx_iload_n (p' := 31) h em3_30 rfl rfl
    obtain ⟨hb31, h⟩ := tx_iald (len := 408) (p' := 32) h em3_31 rfl rfl
    replace hb31 : (0 : Int) ≤ p.toInt ∧ p.toInt < 408 := hb31
    replace h := tx_istore (p' := 34) h em3_32 rfl
    replace h : eT xq_3 _ 34 [some (.inr (.inl (some 48))), some (.inl l), some (.inl p), some (.inl t), some (.inl (ω.1 10 p.toInt.toNat)), o5] [] ω r μ' := h
    replace h := tx_aload_n (p' := 35) h em3_34 rfl rfl
    replace h := tx_getc (c := 1) (j := 0) (p' := 38) h em3_35 ((congrFun xo_2 18).trans rfl) rfl rfl rfl
    replace h := tx_getc (c := 6) (j := 13) (p' := 41) h em3_38 ((congrFun xo_2 84).trans rfl) rfl rfl rfl
    replace h := tx_iload_n (p' := 42) h em3_41 rfl rfl
    obtain ⟨hb42, h⟩ := tx_iald (len := 408) (p' := 43) h em3_42 rfl rfl
    replace hb42 : (0 : Int) ≤ p.toInt ∧ p.toInt < 408 := hb42
    replace h := tx_istore (p' := 45) h em3_43 rfl
    replace h : eT xq_3 _ 45 [some (.inr (.inl (some 48))), some (.inl l), some (.inl p), some (.inl t), some (.inl (ω.1 10 p.toInt.toNat)), some (.inl (ω.1 11 p.toInt.toNat))] [] ω r μ' := h
    replace h := tx_iinc (v := 1) (p' := 48) h em3_45 (by decide +kernel) rfl rfl
    replace h : eT xq_3 _ 48 [some (.inr (.inl (some 48))), some (.inl l), some (.inl (p + 1)), some (.inl t), some (.inl (ω.1 10 p.toInt.toNat)), some (.inl (ω.1 11 p.toInt.toNat))] [] ω r μ' := h
    replace h := tx_iload (p' := 50) h em3_48 rfl rfl
    rcases tx_if (t := 59) (p' := 53) h em3_50 (by decide) rfl with ⟨c50, h⟩ | ⟨c50, h⟩
    · replace c50 : (ω.1 10 p.toInt.toNat).toInt = 0 := c50
      replace h := tx_iload_n (p' := 60) h em3_59 rfl rfl
      replace h := tx_bipush (v := 16) (p' := 62) h em3_60 (by decide +kernel) rfl
      rcases tx_icmp (t := 67) (p' := 65) h em3_62 (by decide) rfl with ⟨c62, h⟩ | ⟨c62, h⟩
      · replace c62 : t.toInt < 16 := c62
        replace h := tx_aload_n (p' := 68) h em3_67 rfl rfl
        replace h := tx_getc (c := 1) (j := 2) (p' := 71) h em3_68 ((congrFun xo_2 15).trans rfl) rfl rfl rfl
        replace h := tx_iload_n (p' := 72) h em3_71 rfl rfl
        replace h := tx_iload (p' := 74) h em3_72 rfl rfl
        rcases tx_if (t := 82) (p' := 77) h em3_74 (by decide) rfl with ⟨c74, h⟩ | ⟨c74, h⟩
        · replace c74 : ¬ (ω.1 10 p.toInt.toNat).toInt = 0 := c74
          replace h := tx_aload_n (p' := 83) h em3_82 rfl rfl
          replace h := tx_getc (c := 1) (j := 1) (p' := 86) h em3_83 ((congrFun xo_2 11).trans rfl) rfl rfl rfl
          replace h := tx_iload (p' := 88) h em3_86 rfl rfl
          obtain ⟨hb88, h⟩ := tx_iald (len := 9) (p' := 89) h em3_88 rfl rfl
          replace hb88 : (0 : Int) ≤ (ω.1 11 p.toInt.toNat).toInt ∧ (ω.1 11 p.toInt.toNat).toInt < 9 := hb88
          obtain ⟨hb89, h⟩ := tx_iast (len := 16) (p' := 90) h em3_89 rfl rfl
          replace hb89 : (0 : Int) ≤ t.toInt ∧ t.toInt < 16 := hb89
          replace h := tx_iinc (v := 1) (p' := 93) h em3_90 (by decide +kernel) rfl rfl
          replace h : eT xq_3 _ 93 [some (.inr (.inl (some 48))), some (.inl l), some (.inl (p + 1)), some (.inl (t + 1)), some (.inl (ω.1 10 p.toInt.toNat)), some (.inl (ω.1 11 p.toInt.toNat))] [] (xpi ω 50 t.toInt.toNat (ω.1 49 (ω.1 11 p.toInt.toNat).toInt.toNat)) r μ' := h
          replace h := tx_goto (t := 215) h em3_93 (by decide)
          obtain ⟨n2, hn2, h⟩ := tx_gotoS (t := 12) h em3_215 (by decide)
          exfalso
          omega
        · replace c74 : ¬ ¬ (ω.1 10 p.toInt.toNat).toInt = 0 := c74
          replace h := tx_iload (p' := 79) h em3_77 rfl rfl
          replace h := tx_goto (t := 89) h em3_79 (by decide)
          obtain ⟨hb89_1, h⟩ := tx_iast (len := 16) (p' := 90) h em3_89 rfl rfl
          replace hb89_1 : (0 : Int) ≤ t.toInt ∧ t.toInt < 16 := hb89_1
          replace h := tx_iinc (v := 1) (p' := 93) h em3_90 (by decide +kernel) rfl rfl
          replace h : eT xq_3 _ 93 [some (.inr (.inl (some 48))), some (.inl l), some (.inl (p + 1)), some (.inl (t + 1)), some (.inl (ω.1 10 p.toInt.toNat)), some (.inl (ω.1 11 p.toInt.toNat))] [] (xpi ω 50 t.toInt.toNat (ω.1 11 p.toInt.toNat)) r μ' := h
          replace h := tx_goto (t := 215) h em3_93 (by decide)
          obtain ⟨n2, hn2, h⟩ := tx_gotoS (t := 12) h em3_215 (by decide)
          exfalso
          omega
      · replace c62 : ¬ t.toInt < 16 := c62
        replace h := tx_iconst (v := 0) (p' := 66) h em3_65 (by decide +kernel) rfl
        obtain ⟨rfl, hμ⟩ := tx_ireturn h em3_66
        exfalso
        omega
    · replace c50 : ¬ (ω.1 10 p.toInt.toNat).toInt = 0 := c50
      replace h := tx_iload (p' := 55) h em3_53 rfl rfl
      replace h := tx_iconst (v := 1) (p' := 56) h em3_55 (by decide +kernel) rfl
      rcases tx_icmp (t := 96) (p' := 59) h em3_56 (by decide) rfl with ⟨c56, h⟩ | ⟨c56, h⟩
      · replace c56 : ¬ (ω.1 10 p.toInt.toNat).toInt = 1 := c56
        replace h := tx_iload (p' := 98) h em3_96 rfl rfl
        replace h := tx_bipush (v := 7) (p' := 100) h em3_98 (by decide +kernel) rfl
        rcases tx_icmp (t := 120) (p' := 103) h em3_100 (by decide) rfl with ⟨c100, h⟩ | ⟨c100, h⟩
        · replace c100 : ¬ (ω.1 10 p.toInt.toNat).toInt = 7 := c100
          replace h := tx_iload_n (p' := 121) h em3_120 rfl rfl
          replace h := tx_iconst (v := 2) (p' := 122) h em3_121 (by decide +kernel) rfl
          rcases tx_icmp (t := 142) (p' := 125) h em3_122 (by decide) rfl with ⟨c122, h⟩ | ⟨c122, h⟩
          · replace c122 : t.toInt < 2 := c122
            replace h := tx_iconst (v := 0) (p' := 143) h em3_142 (by decide +kernel) rfl
            obtain ⟨rfl, hμ⟩ := tx_ireturn h em3_143
            exact ⟨rfl, hμ⟩
          · replace c122 : ¬ t.toInt < 2 := c122
            replace h := tx_iload (p' := 127) h em3_125 rfl rfl
            replace h := tx_iconst (v := 5) (p' := 128) h em3_127 (by decide +kernel) rfl
            rcases tx_icmp (t := 144) (p' := 131) h em3_128 (by decide) rfl with ⟨c128, h⟩ | ⟨c128, h⟩
            · replace c128 : ¬ (ω.1 10 p.toInt.toNat).toInt = 5 := c128
              replace h := tx_iload (p' := 146) h em3_144 rfl rfl
              replace h := tx_bipush (v := 6) (p' := 148) h em3_146 (by decide +kernel) rfl
              rcases tx_icmp (t := 185) (p' := 151) h em3_148 (by decide) rfl with ⟨c148, h⟩ | ⟨c148, h⟩
              · replace c148 : ¬ (ω.1 10 p.toInt.toNat).toInt = 6 := c148
                replace h := tx_iinc (v := (-1)) (p' := 188) h em3_185 (by decide +kernel) rfl rfl
                replace h : eT xq_3 _ 188 [some (.inr (.inl (some 48))), some (.inl l), some (.inl (p + 1)), some (.inl (t + (-1))), some (.inl (ω.1 10 p.toInt.toNat)), some (.inl (ω.1 11 p.toInt.toNat))] [] ω r μ' := h
                have et1 : (t + -1).toInt = t.toInt - 1 := ka1 (by omega)
                obtain ⟨t1, ht1⟩ : ∃ z, z = t + -1 := ⟨_, rfl⟩
                rw [← ht1] at et1 h
                clear ht1
                replace h := tx_aload_n (p' := 189) h em3_188 rfl rfl
                replace h := tx_getc (c := 1) (j := 2) (p' := 192) h em3_189 ((congrFun xo_2 15).trans rfl) rfl rfl rfl
                replace h := tx_iload_n (p' := 193) h em3_192 rfl rfl
                replace h := tx_iconst (v := 1) (p' := 194) h em3_193 (by decide +kernel) rfl
                replace h := tx_isub (p' := 195) h em3_194 rfl
                replace h := tx_iload (p' := 197) h em3_195 rfl rfl
                replace h := tx_aload_n (p' := 198) h em3_197 rfl rfl
                replace h := tx_getc (c := 1) (j := 2) (p' := 201) h em3_198 ((congrFun xo_2 15).trans rfl) rfl rfl rfl
                replace h := tx_iload_n (p' := 202) h em3_201 rfl rfl
                replace h := tx_iconst (v := 1) (p' := 203) h em3_202 (by decide +kernel) rfl
                replace h := tx_isub (p' := 204) h em3_203 rfl
                obtain ⟨hb204, h⟩ := tx_iald (len := 16) (p' := 205) h em3_204 rfl rfl
                replace hb204 : (0 : Int) ≤ (t1 - (1 : Int32)).toInt ∧ (t1 - (1 : Int32)).toInt < 16 := hb204
                replace h := tx_aload_n (p' := 206) h em3_205 rfl rfl
                replace h := tx_getc (c := 1) (j := 2) (p' := 209) h em3_206 ((congrFun xo_2 15).trans rfl) rfl rfl rfl
                replace h := tx_iload_n (p' := 210) h em3_209 rfl rfl
                obtain ⟨hb210, h⟩ := tx_iald (len := 16) (p' := 211) h em3_210 rfl rfl
                replace hb210 : (0 : Int) ≤ t1.toInt ∧ t1.toInt < 16 := hb210
                exfalso
                omega
              · replace c148 : ¬ ¬ (ω.1 10 p.toInt.toNat).toInt = 6 := c148
                replace h := tx_iinc (v := (-2)) (p' := 154) h em3_151 (by decide +kernel) rfl rfl
                replace h : eT xq_3 _ 154 [some (.inr (.inl (some 48))), some (.inl l), some (.inl (p + 1)), some (.inl (t + (-2))), some (.inl (ω.1 10 p.toInt.toNat)), some (.inl (ω.1 11 p.toInt.toNat))] [] ω r μ' := h
                have et2 : (t + -2).toInt = t.toInt - 2 := kb2 (by omega)
                obtain ⟨t2, ht2⟩ : ∃ z, z = t + -2 := ⟨_, rfl⟩
                rw [← ht2] at et2 h
                clear ht2
                replace h := tx_aload_n (p' := 155) h em3_154 rfl rfl
                replace h := tx_getc (c := 1) (j := 2) (p' := 158) h em3_155 ((congrFun xo_2 15).trans rfl) rfl rfl rfl
                replace h := tx_iload_n (p' := 159) h em3_158 rfl rfl
                obtain ⟨hb159, h⟩ := tx_iald (len := 16) (p' := 160) h em3_159 rfl rfl
                replace hb159 : (0 : Int) ≤ t2.toInt ∧ t2.toInt < 16 := hb159
                replace h := tx_aload_n (p' := 161) h em3_160 rfl rfl
                replace h := tx_getc (c := 1) (j := 2) (p' := 164) h em3_161 ((congrFun xo_2 15).trans rfl) rfl rfl rfl
                replace h := tx_iload_n (p' := 165) h em3_164 rfl rfl
                replace h := tx_iconst (v := 1) (p' := 166) h em3_165 (by decide +kernel) rfl
                replace h := tx_iadd (p' := 167) h em3_166 rfl
                obtain ⟨hb167, h⟩ := tx_iald (len := 16) (p' := 168) h em3_167 rfl rfl
                replace hb167 : (0 : Int) ≤ (t2 + (1 : Int32)).toInt ∧ (t2 + (1 : Int32)).toInt < 16 := hb167
                rcases tx_icmp (t := 175) (p' := 171) h em3_168 (by decide) rfl with ⟨c168, h⟩ | ⟨c168, h⟩
                · replace c168 : (ω.1 50 (t2 + (1 : Int32)).toInt.toNat).toInt ≤ (ω.1 50 t2.toInt.toNat).toInt := c168
                  replace h := tx_iload_n (p' := 176) h em3_175 rfl rfl
                  replace h := tx_iload (p' := 178) h em3_176 rfl rfl
                  replace h := tx_max (p' := 181) h em3_178 ((congrFun xo_2 48).trans rfl) rfl
                  replace h := tx_istore_n (p' := 182) h em3_181 rfl
                  replace h : eT xq_3 _ 182 [some (.inr (.inl (some 48))), some (.inl l), some (.inl (if (p + 1) < (ω.1 11 p.toInt.toNat) then (ω.1 11 p.toInt.toNat) else (p + 1))), some (.inl t2), some (.inl (ω.1 10 p.toInt.toNat)), some (.inl (ω.1 11 p.toInt.toNat))] [] ω r μ' := h
                  replace h := tx_goto (t := 215) h em3_182 (by decide)
                  obtain ⟨n2, hn2, h⟩ := tx_gotoS (t := 12) h em3_215 (by decide)
                  exfalso
                  omega
                · replace c168 : ¬ (ω.1 50 (t2 + (1 : Int32)).toInt.toNat).toInt ≤ (ω.1 50 t2.toInt.toNat).toInt := c168
                  replace h := tx_iload_n (p' := 172) h em3_171 rfl rfl
                  replace h := tx_goto (t := 181) h em3_172 (by decide)
                  replace h := tx_istore_n (p' := 182) h em3_181 rfl
                  replace h : eT xq_3 _ 182 [some (.inr (.inl (some 48))), some (.inl l), some (.inl (p + 1)), some (.inl t2), some (.inl (ω.1 10 p.toInt.toNat)), some (.inl (ω.1 11 p.toInt.toNat))] [] ω r μ' := h
                  replace h := tx_goto (t := 215) h em3_182 (by decide)
                  obtain ⟨n2, hn2, h⟩ := tx_gotoS (t := 12) h em3_215 (by decide)
                  exfalso
                  omega
            · replace c128 : ¬ ¬ (ω.1 10 p.toInt.toNat).toInt = 5 := c128
              replace h := tx_aload_n (p' := 132) h em3_131 rfl rfl
              replace h := tx_getc (c := 1) (j := 2) (p' := 135) h em3_132 ((congrFun xo_2 15).trans rfl) rfl rfl rfl
              replace h := tx_iload_n (p' := 136) h em3_135 rfl rfl
              replace h := tx_iconst (v := 1) (p' := 137) h em3_136 (by decide +kernel) rfl
              replace h := tx_isub (p' := 138) h em3_137 rfl
              obtain ⟨hb138, h⟩ := tx_iald (len := 16) (p' := 139) h em3_138 rfl rfl
              replace hb138 : (0 : Int) ≤ (t - (1 : Int32)).toInt ∧ (t - (1 : Int32)).toInt < 16 := hb138
              rcases tx_if (t := 144) (p' := 142) h em3_139 (by decide) rfl with ⟨c139, h⟩ | ⟨c139, h⟩
              · replace c139 : ¬ (ω.1 50 (t - (1 : Int32)).toInt.toNat).toInt = 0 := c139
                replace h := tx_iload (p' := 146) h em3_144 rfl rfl
                replace h := tx_bipush (v := 6) (p' := 148) h em3_146 (by decide +kernel) rfl
                rcases tx_icmp (t := 185) (p' := 151) h em3_148 (by decide) rfl with ⟨c148_1, h⟩ | ⟨c148_1, h⟩
                · replace c148_1 : ¬ (ω.1 10 p.toInt.toNat).toInt = 6 := c148_1
                  replace h := tx_iinc (v := (-1)) (p' := 188) h em3_185 (by decide +kernel) rfl rfl
                  replace h : eT xq_3 _ 188 [some (.inr (.inl (some 48))), some (.inl l), some (.inl (p + 1)), some (.inl (t + (-1))), some (.inl (ω.1 10 p.toInt.toNat)), some (.inl (ω.1 11 p.toInt.toNat))] [] ω r μ' := h
                  have et1 : (t + -1).toInt = t.toInt - 1 := ka1 (by omega)
                  obtain ⟨t1, ht1⟩ : ∃ z, z = t + -1 := ⟨_, rfl⟩
                  rw [← ht1] at et1 h
                  clear ht1
                  replace h := tx_aload_n (p' := 189) h em3_188 rfl rfl
                  replace h := tx_getc (c := 1) (j := 2) (p' := 192) h em3_189 ((congrFun xo_2 15).trans rfl) rfl rfl rfl
                  replace h := tx_iload_n (p' := 193) h em3_192 rfl rfl
                  replace h := tx_iconst (v := 1) (p' := 194) h em3_193 (by decide +kernel) rfl
                  replace h := tx_isub (p' := 195) h em3_194 rfl
                  replace h := tx_iload (p' := 197) h em3_195 rfl rfl
                  replace h := tx_aload_n (p' := 198) h em3_197 rfl rfl
                  replace h := tx_getc (c := 1) (j := 2) (p' := 201) h em3_198 ((congrFun xo_2 15).trans rfl) rfl rfl rfl
                  replace h := tx_iload_n (p' := 202) h em3_201 rfl rfl
                  replace h := tx_iconst (v := 1) (p' := 203) h em3_202 (by decide +kernel) rfl
                  replace h := tx_isub (p' := 204) h em3_203 rfl
                  obtain ⟨hb204_1, h⟩ := tx_iald (len := 16) (p' := 205) h em3_204 rfl rfl
                  replace hb204_1 : (0 : Int) ≤ (t1 - (1 : Int32)).toInt ∧ (t1 - (1 : Int32)).toInt < 16 := hb204_1
                  replace h := tx_aload_n (p' := 206) h em3_205 rfl rfl
                  replace h := tx_getc (c := 1) (j := 2) (p' := 209) h em3_206 ((congrFun xo_2 15).trans rfl) rfl rfl rfl
                  replace h := tx_iload_n (p' := 210) h em3_209 rfl rfl
                  obtain ⟨hb210_1, h⟩ := tx_iald (len := 16) (p' := 211) h em3_210 rfl rfl
                  replace hb210_1 : (0 : Int) ≤ t1.toInt ∧ t1.toInt < 16 := hb210_1
                  exfalso
                  omega
                · replace c148_1 : ¬ ¬ (ω.1 10 p.toInt.toNat).toInt = 6 := c148_1
                  replace h := tx_iinc (v := (-2)) (p' := 154) h em3_151 (by decide +kernel) rfl rfl
                  replace h : eT xq_3 _ 154 [some (.inr (.inl (some 48))), some (.inl l), some (.inl (p + 1)), some (.inl (t + (-2))), some (.inl (ω.1 10 p.toInt.toNat)), some (.inl (ω.1 11 p.toInt.toNat))] [] ω r μ' := h
                  have et2 : (t + -2).toInt = t.toInt - 2 := kb2 (by omega)
                  obtain ⟨t2, ht2⟩ : ∃ z, z = t + -2 := ⟨_, rfl⟩
                  rw [← ht2] at et2 h
                  clear ht2
                  replace h := tx_aload_n (p' := 155) h em3_154 rfl rfl
                  replace h := tx_getc (c := 1) (j := 2) (p' := 158) h em3_155 ((congrFun xo_2 15).trans rfl) rfl rfl rfl
                  replace h := tx_iload_n (p' := 159) h em3_158 rfl rfl
                  obtain ⟨hb159_1, h⟩ := tx_iald (len := 16) (p' := 160) h em3_159 rfl rfl
                  replace hb159_1 : (0 : Int) ≤ t2.toInt ∧ t2.toInt < 16 := hb159_1
                  replace h := tx_aload_n (p' := 161) h em3_160 rfl rfl
                  replace h := tx_getc (c := 1) (j := 2) (p' := 164) h em3_161 ((congrFun xo_2 15).trans rfl) rfl rfl rfl
                  replace h := tx_iload_n (p' := 165) h em3_164 rfl rfl
                  replace h := tx_iconst (v := 1) (p' := 166) h em3_165 (by decide +kernel) rfl
                  replace h := tx_iadd (p' := 167) h em3_166 rfl
                  obtain ⟨hb167_1, h⟩ := tx_iald (len := 16) (p' := 168) h em3_167 rfl rfl
                  replace hb167_1 : (0 : Int) ≤ (t2 + (1 : Int32)).toInt ∧ (t2 + (1 : Int32)).toInt < 16 := hb167_1
                  rcases tx_icmp (t := 175) (p' := 171) h em3_168 (by decide) rfl with ⟨c168_1, h⟩ | ⟨c168_1, h⟩
                  · replace c168_1 : (ω.1 50 (t2 + (1 : Int32)).toInt.toNat).toInt ≤ (ω.1 50 t2.toInt.toNat).toInt := c168_1
                    replace h := tx_iload_n (p' := 176) h em3_175 rfl rfl
                    replace h := tx_iload (p' := 178) h em3_176 rfl rfl
                    replace h := tx_max (p' := 181) h em3_178 ((congrFun xo_2 48).trans rfl) rfl
                    replace h := tx_istore_n (p' := 182) h em3_181 rfl
                    replace h : eT xq_3 _ 182 [some (.inr (.inl (some 48))), some (.inl l), some (.inl (if (p + 1) < (ω.1 11 p.toInt.toNat) then (ω.1 11 p.toInt.toNat) else (p + 1))), some (.inl t2), some (.inl (ω.1 10 p.toInt.toNat)), some (.inl (ω.1 11 p.toInt.toNat))] [] ω r μ' := h
                    replace h := tx_goto (t := 215) h em3_182 (by decide)
                    obtain ⟨n2, hn2, h⟩ := tx_gotoS (t := 12) h em3_215 (by decide)
                    exfalso
                    omega
                  · replace c168_1 : ¬ (ω.1 50 (t2 + (1 : Int32)).toInt.toNat).toInt ≤ (ω.1 50 t2.toInt.toNat).toInt := c168_1
                    replace h := tx_iload_n (p' := 172) h em3_171 rfl rfl
                    replace h := tx_goto (t := 181) h em3_172 (by decide)
                    replace h := tx_istore_n (p' := 182) h em3_181 rfl
                    replace h : eT xq_3 _ 182 [some (.inr (.inl (some 48))), some (.inl l), some (.inl (p + 1)), some (.inl t2), some (.inl (ω.1 10 p.toInt.toNat)), some (.inl (ω.1 11 p.toInt.toNat))] [] ω r μ' := h
                    replace h := tx_goto (t := 215) h em3_182 (by decide)
                    obtain ⟨n2, hn2, h⟩ := tx_gotoS (t := 12) h em3_215 (by decide)
                    exfalso
                    omega
              · replace c139 : ¬ ¬ (ω.1 50 (t - (1 : Int32)).toInt.toNat).toInt = 0 := c139
                replace h := tx_iconst (v := 0) (p' := 143) h em3_142 (by decide +kernel) rfl
                obtain ⟨rfl, hμ⟩ := tx_ireturn h em3_143
                exfalso
                omega
        · replace c100 : ¬ ¬ (ω.1 10 p.toInt.toNat).toInt = 7 := c100
          replace h := tx_iload_n (p' := 104) h em3_103 rfl rfl
          rcases tx_if (t := 118) (p' := 107) h em3_104 (by decide) rfl with ⟨c104, h⟩ | ⟨c104, h⟩
          · replace c104 : t.toInt ≤ 0 := c104
            replace h := tx_iconst (v := 0) (p' := 119) h em3_118 (by decide +kernel) rfl
            obtain ⟨rfl, hμ⟩ := tx_ireturn h em3_119
            exfalso
            omega
          · replace c104 : ¬ t.toInt ≤ 0 := c104
            replace h := tx_aload_n (p' := 108) h em3_107 rfl rfl
            replace h := tx_getc (c := 1) (j := 2) (p' := 111) h em3_108 ((congrFun xo_2 15).trans rfl) rfl rfl rfl
            replace h := tx_iload_n (p' := 112) h em3_111 rfl rfl
            replace h := tx_iconst (v := 1) (p' := 113) h em3_112 (by decide +kernel) rfl
            replace h := tx_isub (p' := 114) h em3_113 rfl
            obtain ⟨hb114, h⟩ := tx_iald (len := 16) (p' := 115) h em3_114 rfl rfl
            replace hb114 : (0 : Int) ≤ (t - (1 : Int32)).toInt ∧ (t - (1 : Int32)).toInt < 16 := hb114
            replace h := tx_goto (t := 119) h em3_115 (by decide)
            obtain ⟨rfl, hμ⟩ := tx_ireturn h em3_119
            exfalso
            omega
      · replace c56 : ¬ ¬ (ω.1 10 p.toInt.toNat).toInt = 1 := c56
        replace h := tx_iload_n (p' := 60) h em3_59 rfl rfl
        replace h := tx_bipush (v := 16) (p' := 62) h em3_60 (by decide +kernel) rfl
        rcases tx_icmp (t := 67) (p' := 65) h em3_62 (by decide) rfl with ⟨c62_1, h⟩ | ⟨c62_1, h⟩
        · replace c62_1 : t.toInt < 16 := c62_1
          replace h := tx_aload_n (p' := 68) h em3_67 rfl rfl
          replace h := tx_getc (c := 1) (j := 2) (p' := 71) h em3_68 ((congrFun xo_2 15).trans rfl) rfl rfl rfl
          replace h := tx_iload_n (p' := 72) h em3_71 rfl rfl
          replace h := tx_iload (p' := 74) h em3_72 rfl rfl
          rcases tx_if (t := 82) (p' := 77) h em3_74 (by decide) rfl with ⟨c74_1, h⟩ | ⟨c74_1, h⟩
          · replace c74_1 : ¬ (ω.1 10 p.toInt.toNat).toInt = 0 := c74_1
            replace h := tx_aload_n (p' := 83) h em3_82 rfl rfl
            replace h := tx_getc (c := 1) (j := 1) (p' := 86) h em3_83 ((congrFun xo_2 11).trans rfl) rfl rfl rfl
            replace h := tx_iload (p' := 88) h em3_86 rfl rfl
            obtain ⟨hb88_1, h⟩ := tx_iald (len := 9) (p' := 89) h em3_88 rfl rfl
            replace hb88_1 : (0 : Int) ≤ (ω.1 11 p.toInt.toNat).toInt ∧ (ω.1 11 p.toInt.toNat).toInt < 9 := hb88_1
            obtain ⟨hb89_2, h⟩ := tx_iast (len := 16) (p' := 90) h em3_89 rfl rfl
            replace hb89_2 : (0 : Int) ≤ t.toInt ∧ t.toInt < 16 := hb89_2
            replace h := tx_iinc (v := 1) (p' := 93) h em3_90 (by decide +kernel) rfl rfl
            replace h : eT xq_3 _ 93 [some (.inr (.inl (some 48))), some (.inl l), some (.inl (p + 1)), some (.inl (t + 1)), some (.inl (ω.1 10 p.toInt.toNat)), some (.inl (ω.1 11 p.toInt.toNat))] [] (xpi ω 50 t.toInt.toNat (ω.1 49 (ω.1 11 p.toInt.toNat).toInt.toNat)) r μ' := h
            replace h := tx_goto (t := 215) h em3_93 (by decide)
            obtain ⟨n2, hn2, h⟩ := tx_gotoS (t := 12) h em3_215 (by decide)
            exfalso
            omega
          · replace c74_1 : ¬ ¬ (ω.1 10 p.toInt.toNat).toInt = 0 := c74_1
            replace h := tx_iload (p' := 79) h em3_77 rfl rfl
            replace h := tx_goto (t := 89) h em3_79 (by decide)
            obtain ⟨hb89_3, h⟩ := tx_iast (len := 16) (p' := 90) h em3_89 rfl rfl
            replace hb89_3 : (0 : Int) ≤ t.toInt ∧ t.toInt < 16 := hb89_3
            replace h := tx_iinc (v := 1) (p' := 93) h em3_90 (by decide +kernel) rfl rfl
            replace h : eT xq_3 _ 93 [some (.inr (.inl (some 48))), some (.inl l), some (.inl (p + 1)), some (.inl (t + 1)), some (.inl (ω.1 10 p.toInt.toNat)), some (.inl (ω.1 11 p.toInt.toNat))] [] (xpi ω 50 t.toInt.toNat (ω.1 11 p.toInt.toNat)) r μ' := h
            replace h := tx_goto (t := 215) h em3_93 (by decide)
            obtain ⟨n2, hn2, h⟩ := tx_gotoS (t := 12) h em3_215 (by decide)
            exfalso
            omega
        · replace c62_1 : ¬ t.toInt < 16 := c62_1
          replace h := tx_iconst (v := 0) (p' := 66) h em3_65 (by decide +kernel) rfl
          obtain ⟨rfl, hμ⟩ := tx_ireturn h em3_66
          exfalso
          omega
set_option maxRecDepth 10000 in
set_option maxHeartbeats 4000000 in
theorem jd_div0 {n : Nat} {l p t : Int32} {o4 o5 : Option zV} {ω μ' : xM} {r : Option zV} (h : eT xq_3 n 12 [some (.inr (.inl (some 48))), some (.inl l), some (.inl p), some (.inl t), o4, o5] [] ω r μ') (hp : p.toInt < (ω.1 2 14).toInt) (hq : 0 ≤ p.toInt) (ho : (ω.1 10 p.toInt.toNat).toInt = 5) (ht : 2 ≤ t.toInt) (hz : ω.1 50 (t.toInt - 1).toNat = 0) : r = some (.inl 0) ∧ μ' = ω := by
  have e1i : (1 : Int32).toInt = 1 := by decide
  have eta : (t - (1 : Int32)).toInt = t.toInt - 1 := by rw [an_sub (by rw [e1i]; omega) (by rw [e1i]; have := an_hi t; omega), e1i]
  replace h := tx_iload_n (p' := 13) h em3_12 rfl rfl
  replace h := tx_aload_n (p' := 14) h em3_13 rfl rfl
  replace h := tx_getc (c := 1) (j := 0) (p' := 17) h em3_14 ((congrFun xo_2 18).trans rfl) rfl rfl rfl
  replace h := tx_getf (c := 6) (j := 14) (p' := 20) h em3_17 ((congrFun xo_2 78).trans rfl) rfl rfl (by decide) rfl
  rcases tx_icmp (t := 218) (p' := 23) h em3_20 (by decide) rfl with ⟨c20, h⟩ | ⟨c20, h⟩
  · replace c20 : (ω.1 2 14).toInt ≤ p.toInt := c20
    replace h := tx_iconst (v := 0) (p' := 219) h em3_218 (by decide +kernel) rfl
    obtain ⟨rfl, hμ⟩ := tx_ireturn h em3_219
    exfalso
    omega
  · replace c20 : ¬ (ω.1 2 14).toInt ≤ p.toInt := c20
    replace h := tx_aload_n (p' := 24) h em3_23 rfl rfl
    replace h := tx_getc (c := 1) (j := 0) (p' := 27) h em3_24 ((congrFun xo_2 18).trans rfl) rfl rfl rfl
    replace h := tx_getc (c := 6) (j := 12) (p' := 30) h em3_27 ((congrFun xo_2 81).trans rfl) rfl rfl rfl
    replace h := tx_iload_n (p' := 31) h em3_30 rfl rfl
    obtain ⟨hb31, h⟩ := tx_iald (len := 408) (p' := 32) h em3_31 rfl rfl
    replace hb31 : (0 : Int) ≤ p.toInt ∧ p.toInt < 408 := hb31
    replace h := tx_istore (p' := 34) h em3_32 rfl
    replace h : eT xq_3 _ 34 [some (.inr (.inl (some 48))), some (.inl l), some (.inl p), some (.inl t), some (.inl (ω.1 10 p.toInt.toNat)), o5] [] ω r μ' := h
    replace h := tx_aload_n (p' := 35) h em3_34 rfl rfl
    replace h := tx_getc (c := 1) (j := 0) (p' := 38) h em3_35 ((congrFun xo_2 18).trans rfl) rfl rfl rfl
    replace h := tx_getc (c := 6) (j := 13) (p' := 41) h em3_38 ((congrFun xo_2 84).trans rfl) rfl rfl rfl
    replace h := tx_iload_n (p' := 42) h em3_41 rfl rfl
    obtain ⟨hb42, h⟩ := tx_iald (len := 408) (p' := 43) h em3_42 rfl rfl
    replace hb42 : (0 : Int) ≤ p.toInt ∧ p.toInt < 408 := hb42
    replace h := tx_istore (p' := 45) h em3_43 rfl
    replace h : eT xq_3 _ 45 [some (.inr (.inl (some 48))), some (.inl l), some (.inl p), some (.inl t), some (.inl (ω.1 10 p.toInt.toNat)), some (.inl (ω.1 11 p.toInt.toNat))] [] ω r μ' := h
    replace h := tx_iinc (v := 1) (p' := 48) h em3_45 (by decide +kernel) rfl rfl
    replace h : eT xq_3 _ 48 [some (.inr (.inl (some 48))), some (.inl l), some (.inl (p + 1)), some (.inl t), some (.inl (ω.1 10 p.toInt.toNat)), some (.inl (ω.1 11 p.toInt.toNat))] [] ω r μ' := h
    replace h := tx_iload (p' := 50) h em3_48 rfl rfl
    rcases tx_if (t := 59) (p' := 53) h em3_50 (by decide) rfl with ⟨c50, h⟩ | ⟨c50, h⟩
    · replace c50 : (ω.1 10 p.toInt.toNat).toInt = 0 := c50
      replace h := tx_iload_n (p' := 60) h em3_59 rfl rfl
      replace h := tx_bipush (v := 16) (p' := 62) h em3_60 (by decide +kernel) rfl
      rcases tx_icmp (t := 67) (p' := 65) h em3_62 (by decide) rfl with ⟨c62, h⟩ | ⟨c62, h⟩
      · replace c62 : t.toInt < 16 := c62
        replace h := tx_aload_n (p' := 68) h em3_67 rfl rfl
        replace h := tx_getc (c := 1) (j := 2) (p' := 71) h em3_68 ((congrFun xo_2 15).trans rfl) rfl rfl rfl
        replace h := tx_iload_n (p' := 72) h em3_71 rfl rfl
        replace h := tx_iload (p' := 74) h em3_72 rfl rfl
        rcases tx_if (t := 82) (p' := 77) h em3_74 (by decide) rfl with ⟨c74, h⟩ | ⟨c74, h⟩
        · replace c74 : ¬ (ω.1 10 p.toInt.toNat).toInt = 0 := c74
          replace h := tx_aload_n (p' := 83) h em3_82 rfl rfl
          replace h := tx_getc (c := 1) (j := 1) (p' := 86) h em3_83 ((congrFun xo_2 11).trans rfl) rfl rfl rfl
          replace h := tx_iload (p' := 88) h em3_86 rfl rfl
          obtain ⟨hb88, h⟩ := tx_iald (len := 9) (p' := 89) h em3_88 rfl rfl
          replace hb88 : (0 : Int) ≤ (ω.1 11 p.toInt.toNat).toInt ∧ (ω.1 11 p.toInt.toNat).toInt < 9 := hb88
          obtain ⟨hb89, h⟩ := tx_iast (len := 16) (p' := 90) h em3_89 rfl rfl
          replace hb89 : (0 : Int) ≤ t.toInt ∧ t.toInt < 16 := hb89
          replace h := tx_iinc (v := 1) (p' := 93) h em3_90 (by decide +kernel) rfl rfl
          replace h : eT xq_3 _ 93 [some (.inr (.inl (some 48))), some (.inl l), some (.inl (p + 1)), some (.inl (t + 1)), some (.inl (ω.1 10 p.toInt.toNat)), some (.inl (ω.1 11 p.toInt.toNat))] [] (xpi ω 50 t.toInt.toNat (ω.1 49 (ω.1 11 p.toInt.toNat).toInt.toNat)) r μ' := h
          replace h := tx_goto (t := 215) h em3_93 (by decide)
          obtain ⟨n2, hn2, h⟩ := tx_gotoS (t := 12) h em3_215 (by decide)
          exfalso
          omega
        · replace c74 : ¬ ¬ (ω.1 10 p.toInt.toNat).toInt = 0 := c74
          replace h := tx_iload (p' := 79) h em3_77 rfl rfl
          replace h := tx_goto (t := 89) h em3_79 (by decide)
          obtain ⟨hb89_1, h⟩ := tx_iast (len := 16) (p' := 90) h em3_89 rfl rfl
          replace hb89_1 : (0 : Int) ≤ t.toInt ∧ t.toInt < 16 := hb89_1
          replace h := tx_iinc (v := 1) (p' := 93) h em3_90 (by decide +kernel) rfl rfl
          replace h : eT xq_3 _ 93 [some (.inr (.inl (some 48))), some (.inl l), some (.inl (p + 1)), some (.inl (t + 1)), some (.inl (ω.1 10 p.toInt.toNat)), some (.inl (ω.1 11 p.toInt.toNat))] [] (xpi ω 50 t.toInt.toNat (ω.1 11 p.toInt.toNat)) r μ' := h
          replace h := tx_goto (t := 215) h em3_93 (by decide)
          obtain ⟨n2, hn2, h⟩ := tx_gotoS (t := 12) h em3_215 (by decide)
          exfalso
          omega
      · replace c62 : ¬ t.toInt < 16 := c62
        replace h := tx_iconst (v := 0) (p' := 66) h em3_65 (by decide +kernel) rfl
        obtain ⟨rfl, hμ⟩ := tx_ireturn h em3_66
        exfalso
        omega
    · replace c50 : ¬ (ω.1 10 p.toInt.toNat).toInt = 0 := c50
      replace h := tx_iload (p' := 55) h em3_53 rfl rfl
      replace h := tx_iconst (v := 1) (p' := 56) h em3_55 (by decide +kernel) rfl
      rcases tx_icmp (t := 96) (p' := 59) h em3_56 (by decide) rfl with ⟨c56, h⟩ | ⟨c56, h⟩
      · replace c56 : ¬ (ω.1 10 p.toInt.toNat).toInt = 1 := c56
        replace h := tx_iload (p' := 98) h em3_96 rfl rfl
        replace h := tx_bipush (v := 7) (p' := 100) h em3_98 (by decide +kernel) rfl
        rcases tx_icmp (t := 120) (p' := 103) h em3_100 (by decide) rfl with ⟨c100, h⟩ | ⟨c100, h⟩
        · replace c100 : ¬ (ω.1 10 p.toInt.toNat).toInt = 7 := c100
          replace h := tx_iload_n (p' := 121) h em3_120 rfl rfl
          replace h := tx_iconst (v := 2) (p' := 122) h em3_121 (by decide +kernel) rfl
          rcases tx_icmp (t := 142) (p' := 125) h em3_122 (by decide) rfl with ⟨c122, h⟩ | ⟨c122, h⟩
          · replace c122 : t.toInt < 2 := c122
            replace h := tx_iconst (v := 0) (p' := 143) h em3_142 (by decide +kernel) rfl
            obtain ⟨rfl, hμ⟩ := tx_ireturn h em3_143
            exfalso
            omega
          · replace c122 : ¬ t.toInt < 2 := c122
            replace h := tx_iload (p' := 127) h em3_125 rfl rfl
            replace h := tx_iconst (v := 5) (p' := 128) h em3_127 (by decide +kernel) rfl
            rcases tx_icmp (t := 144) (p' := 131) h em3_128 (by decide) rfl with ⟨c128, h⟩ | ⟨c128, h⟩
            · replace c128 : ¬ (ω.1 10 p.toInt.toNat).toInt = 5 := c128
              replace h := tx_iload (p' := 146) h em3_144 rfl rfl
              replace h := tx_bipush (v := 6) (p' := 148) h em3_146 (by decide +kernel) rfl
              rcases tx_icmp (t := 185) (p' := 151) h em3_148 (by decide) rfl with ⟨c148, h⟩ | ⟨c148, h⟩
              · replace c148 : ¬ (ω.1 10 p.toInt.toNat).toInt = 6 := c148
                replace h := tx_iinc (v := (-1)) (p' := 188) h em3_185 (by decide +kernel) rfl rfl
                replace h : eT xq_3 _ 188 [some (.inr (.inl (some 48))), some (.inl l), some (.inl (p + 1)), some (.inl (t + (-1))), some (.inl (ω.1 10 p.toInt.toNat)), some (.inl (ω.1 11 p.toInt.toNat))] [] ω r μ' := h
                have et1 : (t + -1).toInt = t.toInt - 1 := ka1 (by omega)
                obtain ⟨t1, ht1⟩ : ∃ z, z = t + -1 := ⟨_, rfl⟩
                rw [← ht1] at et1 h
                clear ht1
                replace h := tx_aload_n (p' := 189) h em3_188 rfl rfl
                replace h := tx_getc (c := 1) (j := 2) (p' := 192) h em3_189 ((congrFun xo_2 15).trans rfl) rfl rfl rfl
                replace h := tx_iload_n (p' := 193) h em3_192 rfl rfl
                replace h := tx_iconst (v := 1) (p' := 194) h em3_193 (by decide +kernel) rfl
                replace h := tx_isub (p' := 195) h em3_194 rfl
                replace h := tx_iload (p' := 197) h em3_195 rfl rfl
                replace h := tx_aload_n (p' := 198) h em3_197 rfl rfl
                replace h := tx_getc (c := 1) (j := 2) (p' := 201) h em3_198 ((congrFun xo_2 15).trans rfl) rfl rfl rfl
                replace h := tx_iload_n (p' := 202) h em3_201 rfl rfl
                replace h := tx_iconst (v := 1) (p' := 203) h em3_202 (by decide +kernel) rfl
                replace h := tx_isub (p' := 204) h em3_203 rfl
                obtain ⟨hb204, h⟩ := tx_iald (len := 16) (p' := 205) h em3_204 rfl rfl
                replace hb204 : (0 : Int) ≤ (t1 - (1 : Int32)).toInt ∧ (t1 - (1 : Int32)).toInt < 16 := hb204
                replace h := tx_aload_n (p' := 206) h em3_205 rfl rfl
                replace h := tx_getc (c := 1) (j := 2) (p' := 209) h em3_206 ((congrFun xo_2 15).trans rfl) rfl rfl rfl
                replace h := tx_iload_n (p' := 210) h em3_209 rfl rfl
                obtain ⟨hb210, h⟩ := tx_iald (len := 16) (p' := 211) h em3_210 rfl rfl
                replace hb210 : (0 : Int) ≤ t1.toInt ∧ t1.toInt < 16 := hb210
                exfalso
                omega
              · replace c148 : ¬ ¬ (ω.1 10 p.toInt.toNat).toInt = 6 := c148
                replace h := tx_iinc (v := (-2)) (p' := 154) h em3_151 (by decide +kernel) rfl rfl
                replace h : eT xq_3 _ 154 [some (.inr (.inl (some 48))), some (.inl l), some (.inl (p + 1)), some (.inl (t + (-2))), some (.inl (ω.1 10 p.toInt.toNat)), some (.inl (ω.1 11 p.toInt.toNat))] [] ω r μ' := h
                have et2 : (t + -2).toInt = t.toInt - 2 := kb2 (by omega)
                obtain ⟨t2, ht2⟩ : ∃ z, z = t + -2 := ⟨_, rfl⟩
                rw [← ht2] at et2 h
                clear ht2
                replace h := tx_aload_n (p' := 155) h em3_154 rfl rfl
                replace h := tx_getc (c := 1) (j := 2) (p' := 158) h em3_155 ((congrFun xo_2 15).trans rfl) rfl rfl rfl
                replace h := tx_iload_n (p' := 159) h em3_158 rfl rfl
                obtain ⟨hb159, h⟩ := tx_iald (len := 16) (p' := 160) h em3_159 rfl rfl
                replace hb159 : (0 : Int) ≤ t2.toInt ∧ t2.toInt < 16 := hb159
                replace h := tx_aload_n (p' := 161) h em3_160 rfl rfl
                replace h := tx_getc (c := 1) (j := 2) (p' := 164) h em3_161 ((congrFun xo_2 15).trans rfl) rfl rfl rfl
                replace h := tx_iload_n (p' := 165) h em3_164 rfl rfl
                replace h := tx_iconst (v := 1) (p' := 166) h em3_165 (by decide +kernel) rfl
                replace h := tx_iadd (p' := 167) h em3_166 rfl
                obtain ⟨hb167, h⟩ := tx_iald (len := 16) (p' := 168) h em3_167 rfl rfl
                replace hb167 : (0 : Int) ≤ (t2 + (1 : Int32)).toInt ∧ (t2 + (1 : Int32)).toInt < 16 := hb167
                rcases tx_icmp (t := 175) (p' := 171) h em3_168 (by decide) rfl with ⟨c168, h⟩ | ⟨c168, h⟩
                · replace c168 : (ω.1 50 (t2 + (1 : Int32)).toInt.toNat).toInt ≤ (ω.1 50 t2.toInt.toNat).toInt := c168
                  replace h := tx_iload_n (p' := 176) h em3_175 rfl rfl
                  replace h := tx_iload (p' := 178) h em3_176 rfl rfl
                  replace h := tx_max (p' := 181) h em3_178 ((congrFun xo_2 48).trans rfl) rfl
                  replace h := tx_istore_n (p' := 182) h em3_181 rfl
                  replace h : eT xq_3 _ 182 [some (.inr (.inl (some 48))), some (.inl l), some (.inl (if (p + 1) < (ω.1 11 p.toInt.toNat) then (ω.1 11 p.toInt.toNat) else (p + 1))), some (.inl t2), some (.inl (ω.1 10 p.toInt.toNat)), some (.inl (ω.1 11 p.toInt.toNat))] [] ω r μ' := h
                  replace h := tx_goto (t := 215) h em3_182 (by decide)
                  obtain ⟨n2, hn2, h⟩ := tx_gotoS (t := 12) h em3_215 (by decide)
                  exfalso
                  omega
                · replace c168 : ¬ (ω.1 50 (t2 + (1 : Int32)).toInt.toNat).toInt ≤ (ω.1 50 t2.toInt.toNat).toInt := c168
                  replace h := tx_iload_n (p' := 172) h em3_171 rfl rfl
                  replace h := tx_goto (t := 181) h em3_172 (by decide)
                  replace h := tx_istore_n (p' := 182) h em3_181 rfl
                  replace h : eT xq_3 _ 182 [some (.inr (.inl (some 48))), some (.inl l), some (.inl (p + 1)), some (.inl t2), some (.inl (ω.1 10 p.toInt.toNat)), some (.inl (ω.1 11 p.toInt.toNat))] [] ω r μ' := h
                  replace h := tx_goto (t := 215) h em3_182 (by decide)
                  obtain ⟨n2, hn2, h⟩ := tx_gotoS (t := 12) h em3_215 (by decide)
                  exfalso
                  omega
            · replace c128 : ¬ ¬ (ω.1 10 p.toInt.toNat).toInt = 5 := c128
              replace h := tx_aload_n (p' := 132) h em3_131 rfl rfl
              replace h := tx_getc (c := 1) (j := 2) (p' := 135) h em3_132 ((congrFun xo_2 15).trans rfl) rfl rfl rfl
              replace h := tx_iload_n (p' := 136) h em3_135 rfl rfl
              replace h := tx_iconst (v := 1) (p' := 137) h em3_136 (by decide +kernel) rfl
              replace h := tx_isub (p' := 138) h em3_137 rfl
              obtain ⟨hb138, h⟩ := tx_iald (len := 16) (p' := 139) h em3_138 rfl rfl
              replace hb138 : (0 : Int) ≤ (t - (1 : Int32)).toInt ∧ (t - (1 : Int32)).toInt < 16 := hb138
              rcases tx_if (t := 144) (p' := 142) h em3_139 (by decide) rfl with ⟨c139, h⟩ | ⟨c139, h⟩
              · replace c139 : ¬ (ω.1 50 (t - (1 : Int32)).toInt.toNat).toInt = 0 := c139
                replace h := tx_iload (p' := 146) h em3_144 rfl rfl
                replace h := tx_bipush (v := 6) (p' := 148) h em3_146 (by decide +kernel) rfl
                rcases tx_icmp (t := 185) (p' := 151) h em3_148 (by decide) rfl with ⟨c148_1, h⟩ | ⟨c148_1, h⟩
                · replace c148_1 : ¬ (ω.1 10 p.toInt.toNat).toInt = 6 := c148_1
                  replace h := tx_iinc (v := (-1)) (p' := 188) h em3_185 (by decide +kernel) rfl rfl
                  replace h : eT xq_3 _ 188 [some (.inr (.inl (some 48))), some (.inl l), some (.inl (p + 1)), some (.inl (t + (-1))), some (.inl (ω.1 10 p.toInt.toNat)), some (.inl (ω.1 11 p.toInt.toNat))] [] ω r μ' := h
                  have et1 : (t + -1).toInt = t.toInt - 1 := ka1 (by omega)
                  obtain ⟨t1, ht1⟩ : ∃ z, z = t + -1 := ⟨_, rfl⟩
                  rw [← ht1] at et1 h
                  clear ht1
                  replace h := tx_aload_n (p' := 189) h em3_188 rfl rfl
                  replace h := tx_getc (c := 1) (j := 2) (p' := 192) h em3_189 ((congrFun xo_2 15).trans rfl) rfl rfl rfl
                  replace h := tx_iload_n (p' := 193) h em3_192 rfl rfl
                  replace h := tx_iconst (v := 1) (p' := 194) h em3_193 (by decide +kernel) rfl
                  replace h := tx_isub (p' := 195) h em3_194 rfl
                  replace h := tx_iload (p' := 197) h em3_195 rfl rfl
                  replace h := tx_aload_n (p' := 198) h em3_197 rfl rfl
                  replace h := tx_getc (c := 1) (j := 2) (p' := 201) h em3_198 ((congrFun xo_2 15).trans rfl) rfl rfl rfl
                  replace h := tx_iload_n (p' := 202) h em3_201 rfl rfl
                  replace h := tx_iconst (v := 1) (p' := 203) h em3_202 (by decide +kernel) rfl
                  replace h := tx_isub (p' := 204) h em3_203 rfl
                  obtain ⟨hb204_1, h⟩ := tx_iald (len := 16) (p' := 205) h em3_204 rfl rfl
                  replace hb204_1 : (0 : Int) ≤ (t1 - (1 : Int32)).toInt ∧ (t1 - (1 : Int32)).toInt < 16 := hb204_1
                  replace h := tx_aload_n (p' := 206) h em3_205 rfl rfl
                  replace h := tx_getc (c := 1) (j := 2) (p' := 209) h em3_206 ((congrFun xo_2 15).trans rfl) rfl rfl rfl
                  replace h := tx_iload_n (p' := 210) h em3_209 rfl rfl
                  obtain ⟨hb210_1, h⟩ := tx_iald (len := 16) (p' := 211) h em3_210 rfl rfl
                  replace hb210_1 : (0 : Int) ≤ t1.toInt ∧ t1.toInt < 16 := hb210_1
                  exfalso
                  rw [eta] at c139
                  rw [hz] at c139
                  exact absurd (by decide) c139
                · replace c148_1 : ¬ ¬ (ω.1 10 p.toInt.toNat).toInt = 6 := c148_1
                  replace h := tx_iinc (v := (-2)) (p' := 154) h em3_151 (by decide +kernel) rfl rfl
                  replace h : eT xq_3 _ 154 [some (.inr (.inl (some 48))), some (.inl l), some (.inl (p + 1)), some (.inl (t + (-2))), some (.inl (ω.1 10 p.toInt.toNat)), some (.inl (ω.1 11 p.toInt.toNat))] [] ω r μ' := h
                  have et2 : (t + -2).toInt = t.toInt - 2 := kb2 (by omega)
                  obtain ⟨t2, ht2⟩ : ∃ z, z = t + -2 := ⟨_, rfl⟩
                  rw [← ht2] at et2 h
                  clear ht2
                  replace h := tx_aload_n (p' := 155) h em3_154 rfl rfl
                  replace h := tx_getc (c := 1) (j := 2) (p' := 158) h em3_155 ((congrFun xo_2 15).trans rfl) rfl rfl rfl
                  replace h := tx_iload_n (p' := 159) h em3_158 rfl rfl
                  obtain ⟨hb159_1, h⟩ := tx_iald (len := 16) (p' := 160) h em3_159 rfl rfl
                  replace hb159_1 : (0 : Int) ≤ t2.toInt ∧ t2.toInt < 16 := hb159_1
                  replace h := tx_aload_n (p' := 161) h em3_160 rfl rfl
                  replace h := tx_getc (c := 1) (j := 2) (p' := 164) h em3_161 ((congrFun xo_2 15).trans rfl) rfl rfl rfl
                  replace h := tx_iload_n (p' := 165) h em3_164 rfl rfl
                  replace h := tx_iconst (v := 1) (p' := 166) h em3_165 (by decide +kernel) rfl
                  replace h := tx_iadd (p' := 167) h em3_166 rfl
                  obtain ⟨hb167_1, h⟩ := tx_iald (len := 16) (p' := 168) h em3_167 rfl rfl
                  replace hb167_1 : (0 : Int) ≤ (t2 + (1 : Int32)).toInt ∧ (t2 + (1 : Int32)).toInt < 16 := hb167_1
                  rcases tx_icmp (t := 175) (p' := 171) h em3_168 (by decide) rfl with ⟨c168_1, h⟩ | ⟨c168_1, h⟩
                  · replace c168_1 : (ω.1 50 (t2 + (1 : Int32)).toInt.toNat).toInt ≤ (ω.1 50 t2.toInt.toNat).toInt := c168_1
                    replace h := tx_iload_n (p' := 176) h em3_175 rfl rfl
                    replace h := tx_iload (p' := 178) h em3_176 rfl rfl
                    replace h := tx_max (p' := 181) h em3_178 ((congrFun xo_2 48).trans rfl) rfl
                    replace h := tx_istore_n (p' := 182) h em3_181 rfl
                    replace h : eT xq_3 _ 182 [some (.inr (.inl (some 48))), some (.inl l), some (.inl (if (p + 1) < (ω.1 11 p.toInt.toNat) then (ω.1 11 p.toInt.toNat) else (p + 1))), some (.inl t2), some (.inl (ω.1 10 p.toInt.toNat)), some (.inl (ω.1 11 p.toInt.toNat))] [] ω r μ' := h
                    replace h := tx_goto (t := 215) h em3_182 (by decide)
                    obtain ⟨n2, hn2, h⟩ := tx_gotoS (t := 12) h em3_215 (by decide)
                    exfalso
                    rw [eta] at c139
                    rw [hz] at c139
                    exact absurd (by decide) c139
                  · replace c168_1 : ¬ (ω.1 50 (t2 + (1 : Int32)).toInt.toNat).toInt ≤ (ω.1 50 t2.toInt.toNat).toInt := c168_1
                    replace h := tx_iload_n (p' := 172) h em3_171 rfl rfl
                    replace h := tx_goto (t := 181) h em3_172 (by decide)
                    replace h := tx_istore_n (p' := 182) h em3_181 rfl
                    replace h : eT xq_3 _ 182 [some (.inr (.inl (some 48))), some (.inl l), some (.inl (p + 1)), some (.inl t2), some (.inl (ω.1 10 p.toInt.toNat)), some (.inl (ω.1 11 p.toInt.toNat))] [] ω r μ' := h
                    replace h := tx_goto (t := 215) h em3_182 (by decide)
                    obtain ⟨n2, hn2, h⟩ := tx_gotoS (t := 12) h em3_215 (by decide)
                    exfalso
                    rw [eta] at c139
                    rw [hz] at c139
                    exact absurd (by decide) c139
              · replace c139 : ¬ ¬ (ω.1 50 (t - (1 : Int32)).toInt.toNat).toInt = 0 := c139
                replace h := tx_iconst (v := 0) (p' := 143) h em3_142 (by decide +kernel) rfl
                obtain ⟨rfl, hμ⟩ := tx_ireturn h em3_143
                exact ⟨rfl, hμ⟩
        · replace c100 : ¬ ¬ (ω.1 10 p.toInt.toNat).toInt = 7 := c100
          replace h := tx_iload_n (p' := 104) h em3_103 rfl rfl
          rcases tx_if (t := 118) (p' := 107) h em3_104 (by decide) rfl with ⟨c104, h⟩ | ⟨c104, h⟩
          · replace c104 : t.toInt ≤ 0 := c104
            replace h := tx_iconst (v := 0) (p' := 119) h em3_118 (by decide +kernel) rfl
            obtain ⟨rfl, hμ⟩ := tx_ireturn h em3_119
            exfalso
            omega
          · replace c104 : ¬ t.toInt ≤ 0 := c104
            replace h := tx_aload_n (p' := 108) h em3_107 rfl rfl
            replace h := tx_getc (c := 1) (j := 2) (p' := 111) h em3_108 ((congrFun xo_2 15).trans rfl) rfl rfl rfl
            replace h := tx_iload_n (p' := 112) h em3_111 rfl rfl
            replace h := tx_iconst (v := 1) (p' := 113) h em3_112 (by decide +kernel) rfl
            replace h := tx_isub (p' := 114) h em3_113 rfl
            obtain ⟨hb114, h⟩ := tx_iald (len := 16) (p' := 115) h em3_114 rfl rfl
            replace hb114 : (0 : Int) ≤ (t - (1 : Int32)).toInt ∧ (t - (1 : Int32)).toInt < 16 := hb114
            replace h := tx_goto (t := 119) h em3_115 (by decide)
            obtain ⟨rfl, hμ⟩ := tx_ireturn h em3_119
            exfalso
            omega
      · replace c56 : ¬ ¬ (ω.1 10 p.toInt.toNat).toInt = 1 := c56
        replace h := tx_iload_n (p' := 60) h em3_59 rfl rfl
        replace h := tx_bipush (v := 16) (p' := 62) h em3_60 (by decide +kernel) rfl
        rcases tx_icmp (t := 67) (p' := 65) h em3_62 (by decide) rfl with ⟨c62_1, h⟩ | ⟨c62_1, h⟩
        · replace c62_1 : t.toInt < 16 := c62_1
          replace h := tx_aload_n (p' := 68) h em3_67 rfl rfl
          replace h := tx_getc (c := 1) (j := 2) (p' := 71) h em3_68 ((congrFun xo_2 15).trans rfl) rfl rfl rfl
          replace h := tx_iload_n (p' := 72) h em3_71 rfl rfl
          replace h := tx_iload (p' := 74) h em3_72 rfl rfl
          rcases tx_if (t := 82) (p' := 77) h em3_74 (by decide) rfl with ⟨c74_1, h⟩ | ⟨c74_1, h⟩
          · replace c74_1 : ¬ (ω.1 10 p.toInt.toNat).toInt = 0 := c74_1
            replace h := tx_aload_n (p' := 83) h em3_82 rfl rfl
            replace h := tx_getc (c := 1) (j := 1) (p' := 86) h em3_83 ((congrFun xo_2 11).trans rfl) rfl rfl rfl
            replace h := tx_iload (p' := 88) h em3_86 rfl rfl
            obtain ⟨hb88_1, h⟩ := tx_iald (len := 9) (p' := 89) h em3_88 rfl rfl
            replace hb88_1 : (0 : Int) ≤ (ω.1 11 p.toInt.toNat).toInt ∧ (ω.1 11 p.toInt.toNat).toInt < 9 := hb88_1
            obtain ⟨hb89_2, h⟩ := tx_iast (len := 16) (p' := 90) h em3_89 rfl rfl
            replace hb89_2 : (0 : Int) ≤ t.toInt ∧ t.toInt < 16 := hb89_2
            replace h := tx_iinc (v := 1) (p' := 93) h em3_90 (by decide +kernel) rfl rfl
            replace h : eT xq_3 _ 93 [some (.inr (.inl (some 48))), some (.inl l), some (.inl (p + 1)), some (.inl (t + 1)), some (.inl (ω.1 10 p.toInt.toNat)), some (.inl (ω.1 11 p.toInt.toNat))] [] (xpi ω 50 t.toInt.toNat (ω.1 49 (ω.1 11 p.toInt.toNat).toInt.toNat)) r μ' := h
            replace h := tx_goto (t := 215) h em3_93 (by decide)
            obtain ⟨n2, hn2, h⟩ := tx_gotoS (t := 12) h em3_215 (by decide)
            exfalso
            omega
          · replace c74_1 : ¬ ¬ (ω.1 10 p.toInt.toNat).toInt = 0 := c74_1
            replace h := tx_iload (p' := 79) h em3_77 rfl rfl
            replace h := tx_goto (t := 89) h em3_79 (by decide)
            obtain ⟨hb89_3, h⟩ := tx_iast (len := 16) (p' := 90) h em3_89 rfl rfl
            replace hb89_3 : (0 : Int) ≤ t.toInt ∧ t.toInt < 16 := hb89_3
            replace h := tx_iinc (v := 1) (p' := 93) h em3_90 (by decide +kernel) rfl rfl
            replace h : eT xq_3 _ 93 [some (.inr (.inl (some 48))), some (.inl l), some (.inl (p + 1)), some (.inl (t + 1)), some (.inl (ω.1 10 p.toInt.toNat)), some (.inl (ω.1 11 p.toInt.toNat))] [] (xpi ω 50 t.toInt.toNat (ω.1 11 p.toInt.toNat)) r μ' := h
            replace h := tx_goto (t := 215) h em3_93 (by decide)
            obtain ⟨n2, hn2, h⟩ := tx_gotoS (t := 12) h em3_215 (by decide)
            exfalso
            omega
        · replace c62_1 : ¬ t.toInt < 16 := c62_1
          replace h := tx_iconst (v := 0) (p' := 66) h em3_65 (by decide +kernel) rfl
          obtain ⟨rfl, hμ⟩ := tx_ireturn h em3_66
          exfalso
          omega
set_option maxRecDepth 10000 in
set_option maxHeartbeats 4000000 in
theorem jd_op2 {n : Nat} {l p t : Int32} {o4 o5 : Option zV} {ω μ' : xM} {r : Option zV} (h : eT xq_3 n 12 [some (.inr (.inl (some 48))), some (.inl l), some (.inl p), some (.inl t), o4, o5] [] ω r μ') (hp : p.toInt < (ω.1 2 14).toInt) (hq : 0 ≤ p.toInt) (ho : (ω.1 10 p.toInt.toNat).toInt = 2) (ht : 2 ≤ t.toInt) (ht6 : t.toInt ≤ 16) : ∃ n' o4' o5' t1, t1.toInt = t.toInt - 1 ∧ eT xq_3 n' 12 [some (.inr (.inl (some 48))), some (.inl l), some (.inl (p + 1)), some (.inl t1), o4', o5'] [] (xpi ω 50 (t.toInt - 2).toNat ((ω.1 50 (t.toInt - 2).toNat) + (ω.1 50 (t.toInt - 1).toNat))) r μ' := by
  have e1i : (1 : Int32).toInt = 1 := by decide
  have eta : (t - (1 : Int32)).toInt = t.toInt - 1 := by rw [an_sub (by rw [e1i]; omega) (by rw [e1i]; have := an_hi t; omega), e1i]
  replace h := tx_iload_n (p' := 13) h em3_12 rfl rfl
  replace h := tx_aload_n (p' := 14) h em3_13 rfl rfl
  replace h := tx_getc (c := 1) (j := 0) (p' := 17) h em3_14 ((congrFun xo_2 18).trans rfl) rfl rfl rfl
  replace h := tx_getf (c := 6) (j := 14) (p' := 20) h em3_17 ((congrFun xo_2 78).trans rfl) rfl rfl (by decide) rfl
  rcases tx_icmp (t := 218) (p' := 23) h em3_20 (by decide) rfl with ⟨c20, h⟩ | ⟨c20, h⟩
  · replace c20 : (ω.1 2 14).toInt ≤ p.toInt := c20
    replace h := tx_iconst (v := 0) (p' := 219) h em3_218 (by decide +kernel) rfl
    obtain ⟨rfl, hμ⟩ := tx_ireturn h em3_219
    exfalso
    omega
  · replace c20 : ¬ (ω.1 2 14).toInt ≤ p.toInt := c20
    replace h := tx_aload_n (p' := 24) h em3_23 rfl rfl
    replace h := tx_getc (c := 1) (j := 0) (p' := 27) h em3_24 ((congrFun xo_2 18).trans rfl) rfl rfl rfl
    replace h := tx_getc (c := 6) (j := 12) (p' := 30) h em3_27 ((congrFun xo_2 81).trans rfl) rfl rfl rfl
    replace h := tx_iload_n (p' := 31) h em3_30 rfl rfl
    obtain ⟨hb31, h⟩ := tx_iald (len := 408) (p' := 32) h em3_31 rfl rfl
    replace hb31 : (0 : Int) ≤ p.toInt ∧ p.toInt < 408 := hb31
    replace h := tx_istore (p' := 34) h em3_32 rfl
    replace h : eT xq_3 _ 34 [some (.inr (.inl (some 48))), some (.inl l), some (.inl p), some (.inl t), some (.inl (ω.1 10 p.toInt.toNat)), o5] [] ω r μ' := h
    replace h := tx_aload_n (p' := 35) h em3_34 rfl rfl
    replace h := tx_getc (c := 1) (j := 0) (p' := 38) h em3_35 ((congrFun xo_2 18).trans rfl) rfl rfl rfl
    replace h := tx_getc (c := 6) (j := 13) (p' := 41) h em3_38 ((congrFun xo_2 84).trans rfl) rfl rfl rfl
    replace h := tx_iload_n (p' := 42) h em3_41 rfl rfl
    obtain ⟨hb42, h⟩ := tx_iald (len := 408) (p' := 43) h em3_42 rfl rfl
    replace hb42 : (0 : Int) ≤ p.toInt ∧ p.toInt < 408 := hb42
    replace h := tx_istore (p' := 45) h em3_43 rfl
    replace h : eT xq_3 _ 45 [some (.inr (.inl (some 48))), some (.inl l), some (.inl p), some (.inl t), some (.inl (ω.1 10 p.toInt.toNat)), some (.inl (ω.1 11 p.toInt.toNat))] [] ω r μ' := h
    replace h := tx_iinc (v := 1) (p' := 48) h em3_45 (by decide +kernel) rfl rfl
    replace h : eT xq_3 _ 48 [some (.inr (.inl (some 48))), some (.inl l), some (.inl (p + 1)), some (.inl t), some (.inl (ω.1 10 p.toInt.toNat)), some (.inl (ω.1 11 p.toInt.toNat))] [] ω r μ' := h
    replace h := tx_iload (p' := 50) h em3_48 rfl rfl
    rcases tx_if (t := 59) (p' := 53) h em3_50 (by decide) rfl with ⟨c50, h⟩ | ⟨c50, h⟩
    · replace c50 : (ω.1 10 p.toInt.toNat).toInt = 0 := c50
      replace h := tx_iload_n (p' := 60) h em3_59 rfl rfl
      replace h := tx_bipush (v := 16) (p' := 62) h em3_60 (by decide +kernel) rfl
      rcases tx_icmp (t := 67) (p' := 65) h em3_62 (by decide) rfl with ⟨c62, h⟩ | ⟨c62, h⟩
      · replace c62 : t.toInt < 16 := c62
        replace h := tx_aload_n (p' := 68) h em3_67 rfl rfl
        replace h := tx_getc (c := 1) (j := 2) (p' := 71) h em3_68 ((congrFun xo_2 15).trans rfl) rfl rfl rfl
        replace h := tx_iload_n (p' := 72) h em3_71 rfl rfl
        replace h := tx_iload (p' := 74) h em3_72 rfl rfl
        rcases tx_if (t := 82) (p' := 77) h em3_74 (by decide) rfl with ⟨c74, h⟩ | ⟨c74, h⟩
        · replace c74 : ¬ (ω.1 10 p.toInt.toNat).toInt = 0 := c74
          replace h := tx_aload_n (p' := 83) h em3_82 rfl rfl
          replace h := tx_getc (c := 1) (j := 1) (p' := 86) h em3_83 ((congrFun xo_2 11).trans rfl) rfl rfl rfl
          replace h := tx_iload (p' := 88) h em3_86 rfl rfl
          obtain ⟨hb88, h⟩ := tx_iald (len := 9) (p' := 89) h em3_88 rfl rfl
          replace hb88 : (0 : Int) ≤ (ω.1 11 p.toInt.toNat).toInt ∧ (ω.1 11 p.toInt.toNat).toInt < 9 := hb88
          obtain ⟨hb89, h⟩ := tx_iast (len := 16) (p' := 90) h em3_89 rfl rfl
          replace hb89 : (0 : Int) ≤ t.toInt ∧ t.toInt < 16 := hb89
          replace h := tx_iinc (v := 1) (p' := 93) h em3_90 (by decide +kernel) rfl rfl
          replace h : eT xq_3 _ 93 [some (.inr (.inl (some 48))), some (.inl l), some (.inl (p + 1)), some (.inl (t + 1)), some (.inl (ω.1 10 p.toInt.toNat)), some (.inl (ω.1 11 p.toInt.toNat))] [] (xpi ω 50 t.toInt.toNat (ω.1 49 (ω.1 11 p.toInt.toNat).toInt.toNat)) r μ' := h
          replace h := tx_goto (t := 215) h em3_93 (by decide)
          obtain ⟨n2, hn2, h⟩ := tx_gotoS (t := 12) h em3_215 (by decide)
          exfalso
          omega
        · replace c74 : ¬ ¬ (ω.1 10 p.toInt.toNat).toInt = 0 := c74
          replace h := tx_iload (p' := 79) h em3_77 rfl rfl
          replace h := tx_goto (t := 89) h em3_79 (by decide)
          obtain ⟨hb89_1, h⟩ := tx_iast (len := 16) (p' := 90) h em3_89 rfl rfl
          replace hb89_1 : (0 : Int) ≤ t.toInt ∧ t.toInt < 16 := hb89_1
          replace h := tx_iinc (v := 1) (p' := 93) h em3_90 (by decide +kernel) rfl rfl
          replace h : eT xq_3 _ 93 [some (.inr (.inl (some 48))), some (.inl l), some (.inl (p + 1)), some (.inl (t + 1)), some (.inl (ω.1 10 p.toInt.toNat)), some (.inl (ω.1 11 p.toInt.toNat))] [] (xpi ω 50 t.toInt.toNat (ω.1 11 p.toInt.toNat)) r μ' := h
          replace h := tx_goto (t := 215) h em3_93 (by decide)
          obtain ⟨n2, hn2, h⟩ := tx_gotoS (t := 12) h em3_215 (by decide)
          exfalso
          omega
      · replace c62 : ¬ t.toInt < 16 := c62
        replace h := tx_iconst (v := 0) (p' := 66) h em3_65 (by decide +kernel) rfl
        obtain ⟨rfl, hμ⟩ := tx_ireturn h em3_66
        exfalso
        omega
    · replace c50 : ¬ (ω.1 10 p.toInt.toNat).toInt = 0 := c50
      replace h := tx_iload (p' := 55) h em3_53 rfl rfl
      replace h := tx_iconst (v := 1) (p' := 56) h em3_55 (by decide +kernel) rfl
      rcases tx_icmp (t := 96) (p' := 59) h em3_56 (by decide) rfl with ⟨c56, h⟩ | ⟨c56, h⟩
      · replace c56 : ¬ (ω.1 10 p.toInt.toNat).toInt = 1 := c56
        replace h := tx_iload (p' := 98) h em3_96 rfl rfl
        replace h := tx_bipush (v := 7) (p' := 100) h em3_98 (by decide +kernel) rfl
        rcases tx_icmp (t := 120) (p' := 103) h em3_100 (by decide) rfl with ⟨c100, h⟩ | ⟨c100, h⟩
        · replace c100 : ¬ (ω.1 10 p.toInt.toNat).toInt = 7 := c100
          replace h := tx_iload_n (p' := 121) h em3_120 rfl rfl
          replace h := tx_iconst (v := 2) (p' := 122) h em3_121 (by decide +kernel) rfl
          rcases tx_icmp (t := 142) (p' := 125) h em3_122 (by decide) rfl with ⟨c122, h⟩ | ⟨c122, h⟩
          · replace c122 : t.toInt < 2 := c122
            replace h := tx_iconst (v := 0) (p' := 143) h em3_142 (by decide +kernel) rfl
            obtain ⟨rfl, hμ⟩ := tx_ireturn h em3_143
            exfalso
            omega
          · replace c122 : ¬ t.toInt < 2 := c122
            replace h := tx_iload (p' := 127) h em3_125 rfl rfl
            replace h := tx_iconst (v := 5) (p' := 128) h em3_127 (by decide +kernel) rfl
            rcases tx_icmp (t := 144) (p' := 131) h em3_128 (by decide) rfl with ⟨c128, h⟩ | ⟨c128, h⟩
            · replace c128 : ¬ (ω.1 10 p.toInt.toNat).toInt = 5 := c128
              replace h := tx_iload (p' := 146) h em3_144 rfl rfl
              replace h := tx_bipush (v := 6) (p' := 148) h em3_146 (by decide +kernel) rfl
              rcases tx_icmp (t := 185) (p' := 151) h em3_148 (by decide) rfl with ⟨c148, h⟩ | ⟨c148, h⟩
              · replace c148 : ¬ (ω.1 10 p.toInt.toNat).toInt = 6 := c148
                replace h := tx_iinc (v := (-1)) (p' := 188) h em3_185 (by decide +kernel) rfl rfl
                replace h : eT xq_3 _ 188 [some (.inr (.inl (some 48))), some (.inl l), some (.inl (p + 1)), some (.inl (t + (-1))), some (.inl (ω.1 10 p.toInt.toNat)), some (.inl (ω.1 11 p.toInt.toNat))] [] ω r μ' := h
                have et1 : (t + -1).toInt = t.toInt - 1 := ka1 (by omega)
                obtain ⟨t1, ht1⟩ : ∃ z, z = t + -1 := ⟨_, rfl⟩
                rw [← ht1] at et1 h
                clear ht1
                replace h := tx_aload_n (p' := 189) h em3_188 rfl rfl
                replace h := tx_getc (c := 1) (j := 2) (p' := 192) h em3_189 ((congrFun xo_2 15).trans rfl) rfl rfl rfl
                replace h := tx_iload_n (p' := 193) h em3_192 rfl rfl
                replace h := tx_iconst (v := 1) (p' := 194) h em3_193 (by decide +kernel) rfl
                replace h := tx_isub (p' := 195) h em3_194 rfl
                replace h := tx_iload (p' := 197) h em3_195 rfl rfl
                replace h := tx_aload_n (p' := 198) h em3_197 rfl rfl
                replace h := tx_getc (c := 1) (j := 2) (p' := 201) h em3_198 ((congrFun xo_2 15).trans rfl) rfl rfl rfl
                replace h := tx_iload_n (p' := 202) h em3_201 rfl rfl
                replace h := tx_iconst (v := 1) (p' := 203) h em3_202 (by decide +kernel) rfl
                replace h := tx_isub (p' := 204) h em3_203 rfl
                obtain ⟨hb204, h⟩ := tx_iald (len := 16) (p' := 205) h em3_204 rfl rfl
                replace hb204 : (0 : Int) ≤ (t1 - (1 : Int32)).toInt ∧ (t1 - (1 : Int32)).toInt < 16 := hb204
                replace h := tx_aload_n (p' := 206) h em3_205 rfl rfl
                replace h := tx_getc (c := 1) (j := 2) (p' := 209) h em3_206 ((congrFun xo_2 15).trans rfl) rfl rfl rfl
                replace h := tx_iload_n (p' := 210) h em3_209 rfl rfl
                obtain ⟨hb210, h⟩ := tx_iald (len := 16) (p' := 211) h em3_210 rfl rfl
                replace hb210 : (0 : Int) ≤ t1.toInt ∧ t1.toInt < 16 := hb210
                obtain ⟨r211, μ211, hE211, h⟩ := tx_invS (na := 3) (mn := 243) (as := [.inl (ω.1 10 p.toInt.toNat), .inl (ω.1 50 (t1 - (1 : Int32)).toInt.toNat), .inl (ω.1 50 t1.toInt.toNat)]) (rest := [.inl (t1 - (1 : Int32)), .inr (.inl (some 50))]) (p' := 214) h em3_211 ((congrFun xo_2 87).trans rfl) xm_243 rfl rfl
                have et2 : (t1 - (1 : Int32)).toInt = t.toInt - 2 := by rw [an_sub (by rw [e1i]; omega) (by rw [e1i]; omega), e1i]; omega
                rw [et2, et1] at hE211
                obtain ⟨hm, rfl⟩ := ex_rck2 hE211 (by omega)
                rw [hm] at h
                replace h : eT xq_3 _ 214 [some (.inr (.inl (some 48))), some (.inl l), some (.inl (p + 1)), some (.inl t1), some (.inl (ω.1 10 p.toInt.toNat)), some (.inl (ω.1 11 p.toInt.toNat))] [.inl ((ω.1 50 (t.toInt - 2).toNat) + (ω.1 50 (t.toInt - 1).toNat)), .inl (t1 - (1 : Int32)), .inr (.inl (some 50))] ω r μ' := h
                obtain ⟨hb214, h⟩ := tx_iast (len := 16) (p' := 215) h em3_214 rfl rfl
                replace hb214 : (0 : Int) ≤ (t1 - (1 : Int32)).toInt ∧ (t1 - (1 : Int32)).toInt < 16 := hb214
                obtain ⟨n2, hn2, h⟩ := tx_gotoS (t := 12) h em3_215 (by decide)
                rw [et2] at h
                exact ⟨_, _, _, t1, et1, h⟩
              · replace c148 : ¬ ¬ (ω.1 10 p.toInt.toNat).toInt = 6 := c148
                replace h := tx_iinc (v := (-2)) (p' := 154) h em3_151 (by decide +kernel) rfl rfl
                replace h : eT xq_3 _ 154 [some (.inr (.inl (some 48))), some (.inl l), some (.inl (p + 1)), some (.inl (t + (-2))), some (.inl (ω.1 10 p.toInt.toNat)), some (.inl (ω.1 11 p.toInt.toNat))] [] ω r μ' := h
                have et2 : (t + -2).toInt = t.toInt - 2 := kb2 (by omega)
                obtain ⟨t2, ht2⟩ : ∃ z, z = t + -2 := ⟨_, rfl⟩
                rw [← ht2] at et2 h
                clear ht2
                replace h := tx_aload_n (p' := 155) h em3_154 rfl rfl
                replace h := tx_getc (c := 1) (j := 2) (p' := 158) h em3_155 ((congrFun xo_2 15).trans rfl) rfl rfl rfl
                replace h := tx_iload_n (p' := 159) h em3_158 rfl rfl
                obtain ⟨hb159, h⟩ := tx_iald (len := 16) (p' := 160) h em3_159 rfl rfl
                replace hb159 : (0 : Int) ≤ t2.toInt ∧ t2.toInt < 16 := hb159
                replace h := tx_aload_n (p' := 161) h em3_160 rfl rfl
                replace h := tx_getc (c := 1) (j := 2) (p' := 164) h em3_161 ((congrFun xo_2 15).trans rfl) rfl rfl rfl
                replace h := tx_iload_n (p' := 165) h em3_164 rfl rfl
                replace h := tx_iconst (v := 1) (p' := 166) h em3_165 (by decide +kernel) rfl
                replace h := tx_iadd (p' := 167) h em3_166 rfl
                obtain ⟨hb167, h⟩ := tx_iald (len := 16) (p' := 168) h em3_167 rfl rfl
                replace hb167 : (0 : Int) ≤ (t2 + (1 : Int32)).toInt ∧ (t2 + (1 : Int32)).toInt < 16 := hb167
                rcases tx_icmp (t := 175) (p' := 171) h em3_168 (by decide) rfl with ⟨c168, h⟩ | ⟨c168, h⟩
                · replace c168 : (ω.1 50 (t2 + (1 : Int32)).toInt.toNat).toInt ≤ (ω.1 50 t2.toInt.toNat).toInt := c168
                  replace h := tx_iload_n (p' := 176) h em3_175 rfl rfl
                  replace h := tx_iload (p' := 178) h em3_176 rfl rfl
                  replace h := tx_max (p' := 181) h em3_178 ((congrFun xo_2 48).trans rfl) rfl
                  replace h := tx_istore_n (p' := 182) h em3_181 rfl
                  replace h : eT xq_3 _ 182 [some (.inr (.inl (some 48))), some (.inl l), some (.inl (if (p + 1) < (ω.1 11 p.toInt.toNat) then (ω.1 11 p.toInt.toNat) else (p + 1))), some (.inl t2), some (.inl (ω.1 10 p.toInt.toNat)), some (.inl (ω.1 11 p.toInt.toNat))] [] ω r μ' := h
                  replace h := tx_goto (t := 215) h em3_182 (by decide)
                  obtain ⟨n2, hn2, h⟩ := tx_gotoS (t := 12) h em3_215 (by decide)
                  exfalso
                  omega
                · replace c168 : ¬ (ω.1 50 (t2 + (1 : Int32)).toInt.toNat).toInt ≤ (ω.1 50 t2.toInt.toNat).toInt := c168
                  replace h := tx_iload_n (p' := 172) h em3_171 rfl rfl
                  replace h := tx_goto (t := 181) h em3_172 (by decide)
                  replace h := tx_istore_n (p' := 182) h em3_181 rfl
                  replace h : eT xq_3 _ 182 [some (.inr (.inl (some 48))), some (.inl l), some (.inl (p + 1)), some (.inl t2), some (.inl (ω.1 10 p.toInt.toNat)), some (.inl (ω.1 11 p.toInt.toNat))] [] ω r μ' := h
                  replace h := tx_goto (t := 215) h em3_182 (by decide)
                  obtain ⟨n2, hn2, h⟩ := tx_gotoS (t := 12) h em3_215 (by decide)
                  exfalso
                  omega
            · replace c128 : ¬ ¬ (ω.1 10 p.toInt.toNat).toInt = 5 := c128
              replace h := tx_aload_n (p' := 132) h em3_131 rfl rfl
              replace h := tx_getc (c := 1) (j := 2) (p' := 135) h em3_132 ((congrFun xo_2 15).trans rfl) rfl rfl rfl
              replace h := tx_iload_n (p' := 136) h em3_135 rfl rfl
              replace h := tx_iconst (v := 1) (p' := 137) h em3_136 (by decide +kernel) rfl
              replace h := tx_isub (p' := 138) h em3_137 rfl
              obtain ⟨hb138, h⟩ := tx_iald (len := 16) (p' := 139) h em3_138 rfl rfl
              replace hb138 : (0 : Int) ≤ (t - (1 : Int32)).toInt ∧ (t - (1 : Int32)).toInt < 16 := hb138
              rcases tx_if (t := 144) (p' := 142) h em3_139 (by decide) rfl with ⟨c139, h⟩ | ⟨c139, h⟩
              · replace c139 : ¬ (ω.1 50 (t - (1 : Int32)).toInt.toNat).toInt = 0 := c139
                replace h := tx_iload (p' := 146) h em3_144 rfl rfl
                replace h := tx_bipush (v := 6) (p' := 148) h em3_146 (by decide +kernel) rfl
                rcases tx_icmp (t := 185) (p' := 151) h em3_148 (by decide) rfl with ⟨c148_1, h⟩ | ⟨c148_1, h⟩
                · replace c148_1 : ¬ (ω.1 10 p.toInt.toNat).toInt = 6 := c148_1
                  replace h := tx_iinc (v := (-1)) (p' := 188) h em3_185 (by decide +kernel) rfl rfl
                  replace h : eT xq_3 _ 188 [some (.inr (.inl (some 48))), some (.inl l), some (.inl (p + 1)), some (.inl (t + (-1))), some (.inl (ω.1 10 p.toInt.toNat)), some (.inl (ω.1 11 p.toInt.toNat))] [] ω r μ' := h
                  have et1 : (t + -1).toInt = t.toInt - 1 := ka1 (by omega)
                  obtain ⟨t1, ht1⟩ : ∃ z, z = t + -1 := ⟨_, rfl⟩
                  rw [← ht1] at et1 h
                  clear ht1
                  replace h := tx_aload_n (p' := 189) h em3_188 rfl rfl
                  replace h := tx_getc (c := 1) (j := 2) (p' := 192) h em3_189 ((congrFun xo_2 15).trans rfl) rfl rfl rfl
                  replace h := tx_iload_n (p' := 193) h em3_192 rfl rfl
                  replace h := tx_iconst (v := 1) (p' := 194) h em3_193 (by decide +kernel) rfl
                  replace h := tx_isub (p' := 195) h em3_194 rfl
                  replace h := tx_iload (p' := 197) h em3_195 rfl rfl
                  replace h := tx_aload_n (p' := 198) h em3_197 rfl rfl
                  replace h := tx_getc (c := 1) (j := 2) (p' := 201) h em3_198 ((congrFun xo_2 15).trans rfl) rfl rfl rfl
                  replace h := tx_iload_n (p' := 202) h em3_201 rfl rfl
                  replace h := tx_iconst (v := 1) (p' := 203) h em3_202 (by decide +kernel) rfl
                  replace h := tx_isub (p' := 204) h em3_203 rfl
                  obtain ⟨hb204_1, h⟩ := tx_iald (len := 16) (p' := 205) h em3_204 rfl rfl
                  replace hb204_1 : (0 : Int) ≤ (t1 - (1 : Int32)).toInt ∧ (t1 - (1 : Int32)).toInt < 16 := hb204_1
                  replace h := tx_aload_n (p' := 206) h em3_205 rfl rfl
                  replace h := tx_getc (c := 1) (j := 2) (p' := 209) h em3_206 ((congrFun xo_2 15).trans rfl) rfl rfl rfl
                  replace h := tx_iload_n (p' := 210) h em3_209 rfl rfl
                  obtain ⟨hb210_1, h⟩ := tx_iald (len := 16) (p' := 211) h em3_210 rfl rfl
                  replace hb210_1 : (0 : Int) ≤ t1.toInt ∧ t1.toInt < 16 := hb210_1
                  obtain ⟨r211_1, μ211_1, hE211_1, h⟩ := tx_invS (na := 3) (mn := 243) (as := [.inl (ω.1 10 p.toInt.toNat), .inl (ω.1 50 (t1 - (1 : Int32)).toInt.toNat), .inl (ω.1 50 t1.toInt.toNat)]) (rest := [.inl (t1 - (1 : Int32)), .inr (.inl (some 50))]) (p' := 214) h em3_211 ((congrFun xo_2 87).trans rfl) xm_243 rfl rfl
                  have et2 : (t1 - (1 : Int32)).toInt = t.toInt - 2 := by rw [an_sub (by rw [e1i]; omega) (by rw [e1i]; omega), e1i]; omega
                  rw [et2, et1] at hE211_1
                  obtain ⟨hm, rfl⟩ := ex_rck2 hE211_1 (by omega)
                  rw [hm] at h
                  replace h : eT xq_3 _ 214 [some (.inr (.inl (some 48))), some (.inl l), some (.inl (p + 1)), some (.inl t1), some (.inl (ω.1 10 p.toInt.toNat)), some (.inl (ω.1 11 p.toInt.toNat))] [.inl ((ω.1 50 (t.toInt - 2).toNat) + (ω.1 50 (t.toInt - 1).toNat)), .inl (t1 - (1 : Int32)), .inr (.inl (some 50))] ω r μ' := h
                  obtain ⟨hb214_1, h⟩ := tx_iast (len := 16) (p' := 215) h em3_214 rfl rfl
                  replace hb214_1 : (0 : Int) ≤ (t1 - (1 : Int32)).toInt ∧ (t1 - (1 : Int32)).toInt < 16 := hb214_1
                  obtain ⟨n2, hn2, h⟩ := tx_gotoS (t := 12) h em3_215 (by decide)
                  rw [et2] at h
                  exact ⟨_, _, _, t1, et1, h⟩
                · replace c148_1 : ¬ ¬ (ω.1 10 p.toInt.toNat).toInt = 6 := c148_1
                  replace h := tx_iinc (v := (-2)) (p' := 154) h em3_151 (by decide +kernel) rfl rfl
                  replace h : eT xq_3 _ 154 [some (.inr (.inl (some 48))), some (.inl l), some (.inl (p + 1)), some (.inl (t + (-2))), some (.inl (ω.1 10 p.toInt.toNat)), some (.inl (ω.1 11 p.toInt.toNat))] [] ω r μ' := h
                  have et2 : (t + -2).toInt = t.toInt - 2 := kb2 (by omega)
                  obtain ⟨t2, ht2⟩ : ∃ z, z = t + -2 := ⟨_, rfl⟩
                  rw [← ht2] at et2 h
                  clear ht2
                  replace h := tx_aload_n (p' := 155) h em3_154 rfl rfl
                  replace h := tx_getc (c := 1) (j := 2) (p' := 158) h em3_155 ((congrFun xo_2 15).trans rfl) rfl rfl rfl
                  replace h := tx_iload_n (p' := 159) h em3_158 rfl rfl
                  obtain ⟨hb159_1, h⟩ := tx_iald (len := 16) (p' := 160) h em3_159 rfl rfl
                  replace hb159_1 : (0 : Int) ≤ t2.toInt ∧ t2.toInt < 16 := hb159_1
                  replace h := tx_aload_n (p' := 161) h em3_160 rfl rfl
                  replace h := tx_getc (c := 1) (j := 2) (p' := 164) h em3_161 ((congrFun xo_2 15).trans rfl) rfl rfl rfl
                  replace h := tx_iload_n (p' := 165) h em3_164 rfl rfl
                  replace h := tx_iconst (v := 1) (p' := 166) h em3_165 (by decide +kernel) rfl
                  replace h := tx_iadd (p' := 167) h em3_166 rfl
                  obtain ⟨hb167_1, h⟩ := tx_iald (len := 16) (p' := 168) h em3_167 rfl rfl
                  replace hb167_1 : (0 : Int) ≤ (t2 + (1 : Int32)).toInt ∧ (t2 + (1 : Int32)).toInt < 16 := hb167_1
                  rcases tx_icmp (t := 175) (p' := 171) h em3_168 (by decide) rfl with ⟨c168_1, h⟩ | ⟨c168_1, h⟩
                  · replace c168_1 : (ω.1 50 (t2 + (1 : Int32)).toInt.toNat).toInt ≤ (ω.1 50 t2.toInt.toNat).toInt := c168_1
                    replace h := tx_iload_n (p' := 176) h em3_175 rfl rfl
                    replace h := tx_iload (p' := 178) h em3_176 rfl rfl
                    replace h := tx_max (p' := 181) h em3_178 ((congrFun xo_2 48).trans rfl) rfl
                    replace h := tx_istore_n (p' := 182) h em3_181 rfl
                    replace h : eT xq_3 _ 182 [some (.inr (.inl (some 48))), some (.inl l), some (.inl (if (p + 1) < (ω.1 11 p.toInt.toNat) then (ω.1 11 p.toInt.toNat) else (p + 1))), some (.inl t2), some (.inl (ω.1 10 p.toInt.toNat)), some (.inl (ω.1 11 p.toInt.toNat))] [] ω r μ' := h
                    replace h := tx_goto (t := 215) h em3_182 (by decide)
                    obtain ⟨n2, hn2, h⟩ := tx_gotoS (t := 12) h em3_215 (by decide)
                    exfalso
                    omega
                  · replace c168_1 : ¬ (ω.1 50 (t2 + (1 : Int32)).toInt.toNat).toInt ≤ (ω.1 50 t2.toInt.toNat).toInt := c168_1
                    replace h := tx_iload_n (p' := 172) h em3_171 rfl rfl
                    replace h := tx_goto (t := 181) h em3_172 (by decide)
                    replace h := tx_istore_n (p' := 182) h em3_181 rfl
                    replace h : eT xq_3 _ 182 [some (.inr (.inl (some 48))), some (.inl l), some (.inl (p + 1)), some (.inl t2), some (.inl (ω.1 10 p.toInt.toNat)), some (.inl (ω.1 11 p.toInt.toNat))] [] ω r μ' := h
                    replace h := tx_goto (t := 215) h em3_182 (by decide)
                    obtain ⟨n2, hn2, h⟩ := tx_gotoS (t := 12) h em3_215 (by decide)
                    exfalso
                    omega
              · replace c139 : ¬ ¬ (ω.1 50 (t - (1 : Int32)).toInt.toNat).toInt = 0 := c139
                replace h := tx_iconst (v := 0) (p' := 143) h em3_142 (by decide +kernel) rfl
                obtain ⟨rfl, hμ⟩ := tx_ireturn h em3_143
                exfalso
                omega
        · replace c100 : ¬ ¬ (ω.1 10 p.toInt.toNat).toInt = 7 := c100
          replace h := tx_iload_n (p' := 104) h em3_103 rfl rfl
          rcases tx_if (t := 118) (p' := 107) h em3_104 (by decide) rfl with ⟨c104, h⟩ | ⟨c104, h⟩
          · replace c104 : t.toInt ≤ 0 := c104
            replace h := tx_iconst (v := 0) (p' := 119) h em3_118 (by decide +kernel) rfl
            obtain ⟨rfl, hμ⟩ := tx_ireturn h em3_119
            exfalso
            omega
          · replace c104 : ¬ t.toInt ≤ 0 := c104
            replace h := tx_aload_n (p' := 108) h em3_107 rfl rfl
            replace h := tx_getc (c := 1) (j := 2) (p' := 111) h em3_108 ((congrFun xo_2 15).trans rfl) rfl rfl rfl
            replace h := tx_iload_n (p' := 112) h em3_111 rfl rfl
            replace h := tx_iconst (v := 1) (p' := 113) h em3_112 (by decide +kernel) rfl
            replace h := tx_isub (p' := 114) h em3_113 rfl
            obtain ⟨hb114, h⟩ := tx_iald (len := 16) (p' := 115) h em3_114 rfl rfl
            replace hb114 : (0 : Int) ≤ (t - (1 : Int32)).toInt ∧ (t - (1 : Int32)).toInt < 16 := hb114
            replace h := tx_goto (t := 119) h em3_115 (by decide)
            obtain ⟨rfl, hμ⟩ := tx_ireturn h em3_119
            exfalso
            omega
      · replace c56 : ¬ ¬ (ω.1 10 p.toInt.toNat).toInt = 1 := c56
        replace h := tx_iload_n (p' := 60) h em3_59 rfl rfl
        replace h := tx_bipush (v := 16) (p' := 62) h em3_60 (by decide +kernel) rfl
        rcases tx_icmp (t := 67) (p' := 65) h em3_62 (by decide) rfl with ⟨c62_1, h⟩ | ⟨c62_1, h⟩
        · replace c62_1 : t.toInt < 16 := c62_1
          replace h := tx_aload_n (p' := 68) h em3_67 rfl rfl
          replace h := tx_getc (c := 1) (j := 2) (p' := 71) h em3_68 ((congrFun xo_2 15).trans rfl) rfl rfl rfl
          replace h := tx_iload_n (p' := 72) h em3_71 rfl rfl
          replace h := tx_iload (p' := 74) h em3_72 rfl rfl
          rcases tx_if (t := 82) (p' := 77) h em3_74 (by decide) rfl with ⟨c74_1, h⟩ | ⟨c74_1, h⟩
          · replace c74_1 : ¬ (ω.1 10 p.toInt.toNat).toInt = 0 := c74_1
            replace h := tx_aload_n (p' := 83) h em3_82 rfl rfl
            replace h := tx_getc (c := 1) (j := 1) (p' := 86) h em3_83 ((congrFun xo_2 11).trans rfl) rfl rfl rfl
            replace h := tx_iload (p' := 88) h em3_86 rfl rfl
            obtain ⟨hb88_1, h⟩ := tx_iald (len := 9) (p' := 89) h em3_88 rfl rfl
            replace hb88_1 : (0 : Int) ≤ (ω.1 11 p.toInt.toNat).toInt ∧ (ω.1 11 p.toInt.toNat).toInt < 9 := hb88_1
            obtain ⟨hb89_2, h⟩ := tx_iast (len := 16) (p' := 90) h em3_89 rfl rfl
            replace hb89_2 : (0 : Int) ≤ t.toInt ∧ t.toInt < 16 := hb89_2
            replace h := tx_iinc (v := 1) (p' := 93) h em3_90 (by decide +kernel) rfl rfl
            replace h : eT xq_3 _ 93 [some (.inr (.inl (some 48))), some (.inl l), some (.inl (p + 1)), some (.inl (t + 1)), some (.inl (ω.1 10 p.toInt.toNat)), some (.inl (ω.1 11 p.toInt.toNat))] [] (xpi ω 50 t.toInt.toNat (ω.1 49 (ω.1 11 p.toInt.toNat).toInt.toNat)) r μ' := h
            replace h := tx_goto (t := 215) h em3_93 (by decide)
            obtain ⟨n2, hn2, h⟩ := tx_gotoS (t := 12) h em3_215 (by decide)
            exfalso
            omega
          · replace c74_1 : ¬ ¬ (ω.1 10 p.toInt.toNat).toInt = 0 := c74_1
            replace h := tx_iload (p' := 79) h em3_77 rfl rfl
            replace h := tx_goto (t := 89) h em3_79 (by decide)
            obtain ⟨hb89_3, h⟩ := tx_iast (len := 16) (p' := 90) h em3_89 rfl rfl
            replace hb89_3 : (0 : Int) ≤ t.toInt ∧ t.toInt < 16 := hb89_3
            replace h := tx_iinc (v := 1) (p' := 93) h em3_90 (by decide +kernel) rfl rfl
            replace h : eT xq_3 _ 93 [some (.inr (.inl (some 48))), some (.inl l), some (.inl (p + 1)), some (.inl (t + 1)), some (.inl (ω.1 10 p.toInt.toNat)), some (.inl (ω.1 11 p.toInt.toNat))] [] (xpi ω 50 t.toInt.toNat (ω.1 11 p.toInt.toNat)) r μ' := h
            replace h := tx_goto (t := 215) h em3_93 (by decide)
            obtain ⟨n2, hn2, h⟩ := tx_gotoS (t := 12) h em3_215 (by decide)
            exfalso
            omega
        · replace c62_1 : ¬ t.toInt < 16 := c62_1
          replace h := tx_iconst (v := 0) (p' := 66) h em3_65 (by decide +kernel) rfl
          obtain ⟨rfl, hμ⟩ := tx_ireturn h em3_66
          exfalso
          omega
set_option maxRecDepth 10000 in
set_option maxHeartbeats 4000000 in
theorem jd_op3 {n : Nat} {l p t : Int32} {o4 o5 : Option zV} {ω μ' : xM} {r : Option zV} (h : eT xq_3 n 12 [some (.inr (.inl (some 48))), some (.inl l), some (.inl p), some (.inl t), o4, o5] [] ω r μ') (hp : p.toInt < (ω.1 2 14).toInt) (hq : 0 ≤ p.toInt) (ho : (ω.1 10 p.toInt.toNat).toInt = 3) (ht : 2 ≤ t.toInt) (ht6 : t.toInt ≤ 16) : ∃ n' o4' o5' t1, t1.toInt = t.toInt - 1 ∧ eT xq_3 n' 12 [some (.inr (.inl (some 48))), some (.inl l), some (.inl (p + 1)), some (.inl t1), o4', o5'] [] (xpi ω 50 (t.toInt - 2).toNat ((ω.1 50 (t.toInt - 2).toNat) - (ω.1 50 (t.toInt - 1).toNat))) r μ' := by
  have e1i : (1 : Int32).toInt = 1 := by decide
  have eta : (t - (1 : Int32)).toInt = t.toInt - 1 := by rw [an_sub (by rw [e1i]; omega) (by rw [e1i]; have := an_hi t; omega), e1i]
  replace h := tx_iload_n (p' := 13) h em3_12 rfl rfl
  replace h := tx_aload_n (p' := 14) h em3_13 rfl rfl
  replace h := tx_getc (c := 1) (j := 0) (p' := 17) h em3_14 ((congrFun xo_2 18).trans rfl) rfl rfl rfl
  replace h := tx_getf (c := 6) (j := 14) (p' := 20) h em3_17 ((congrFun xo_2 78).trans rfl) rfl rfl (by decide) rfl
  rcases tx_icmp (t := 218) (p' := 23) h em3_20 (by decide) rfl with ⟨c20, h⟩ | ⟨c20, h⟩
  · replace c20 : (ω.1 2 14).toInt ≤ p.toInt := c20
    replace h := tx_iconst (v := 0) (p' := 219) h em3_218 (by decide +kernel) rfl
    obtain ⟨rfl, hμ⟩ := tx_ireturn h em3_219
    exfalso
    omega
  · replace c20 : ¬ (ω.1 2 14).toInt ≤ p.toInt := c20
    replace h := tx_aload_n (p' := 24) h em3_23 rfl rfl
    replace h := tx_getc (c := 1) (j := 0) (p' := 27) h em3_24 ((congrFun xo_2 18).trans rfl) rfl rfl rfl
    replace h := tx_getc (c := 6) (j := 12) (p' := 30) h em3_27 ((congrFun xo_2 81).trans rfl) rfl rfl rfl
    replace h := tx_iload_n (p' := 31) h em3_30 rfl rfl
    obtain ⟨hb31, h⟩ := tx_iald (len := 408) (p' := 32) h em3_31 rfl rfl
    replace hb31 : (0 : Int) ≤ p.toInt ∧ p.toInt < 408 := hb31
    replace h := tx_istore (p' := 34) h em3_32 rfl
    replace h : eT xq_3 _ 34 [some (.inr (.inl (some 48))), some (.inl l), some (.inl p), some (.inl t), some (.inl (ω.1 10 p.toInt.toNat)), o5] [] ω r μ' := h
    replace h := tx_aload_n (p' := 35) h em3_34 rfl rfl
    replace h := tx_getc (c := 1) (j := 0) (p' := 38) h em3_35 ((congrFun xo_2 18).trans rfl) rfl rfl rfl
    replace h := tx_getc (c := 6) (j := 13) (p' := 41) h em3_38 ((congrFun xo_2 84).trans rfl) rfl rfl rfl
    replace h := tx_iload_n (p' := 42) h em3_41 rfl rfl
    obtain ⟨hb42, h⟩ := tx_iald (len := 408) (p' := 43) h em3_42 rfl rfl
    replace hb42 : (0 : Int) ≤ p.toInt ∧ p.toInt < 408 := hb42
    replace h := tx_istore (p' := 45) h em3_43 rfl
    replace h : eT xq_3 _ 45 [some (.inr (.inl (some 48))), some (.inl l), some (.inl p), some (.inl t), some (.inl (ω.1 10 p.toInt.toNat)), some (.inl (ω.1 11 p.toInt.toNat))] [] ω r μ' := h
    replace h := tx_iinc (v := 1) (p' := 48) h em3_45 (by decide +kernel) rfl rfl
    replace h : eT xq_3 _ 48 [some (.inr (.inl (some 48))), some (.inl l), some (.inl (p + 1)), some (.inl t), some (.inl (ω.1 10 p.toInt.toNat)), some (.inl (ω.1 11 p.toInt.toNat))] [] ω r μ' := h
    replace h := tx_iload (p' := 50) h em3_48 rfl rfl
    rcases tx_if (t := 59) (p' := 53) h em3_50 (by decide) rfl with ⟨c50, h⟩ | ⟨c50, h⟩
    · replace c50 : (ω.1 10 p.toInt.toNat).toInt = 0 := c50
      replace h := tx_iload_n (p' := 60) h em3_59 rfl rfl
      replace h := tx_bipush (v := 16) (p' := 62) h em3_60 (by decide +kernel) rfl
      rcases tx_icmp (t := 67) (p' := 65) h em3_62 (by decide) rfl with ⟨c62, h⟩ | ⟨c62, h⟩
      · replace c62 : t.toInt < 16 := c62
        replace h := tx_aload_n (p' := 68) h em3_67 rfl rfl
        replace h := tx_getc (c := 1) (j := 2) (p' := 71) h em3_68 ((congrFun xo_2 15).trans rfl) rfl rfl rfl
        replace h := tx_iload_n (p' := 72) h em3_71 rfl rfl
        replace h := tx_iload (p' := 74) h em3_72 rfl rfl
        rcases tx_if (t := 82) (p' := 77) h em3_74 (by decide) rfl with ⟨c74, h⟩ | ⟨c74, h⟩
        · replace c74 : ¬ (ω.1 10 p.toInt.toNat).toInt = 0 := c74
          replace h := tx_aload_n (p' := 83) h em3_82 rfl rfl
          replace h := tx_getc (c := 1) (j := 1) (p' := 86) h em3_83 ((congrFun xo_2 11).trans rfl) rfl rfl rfl
          replace h := tx_iload (p' := 88) h em3_86 rfl rfl
          obtain ⟨hb88, h⟩ := tx_iald (len := 9) (p' := 89) h em3_88 rfl rfl
          replace hb88 : (0 : Int) ≤ (ω.1 11 p.toInt.toNat).toInt ∧ (ω.1 11 p.toInt.toNat).toInt < 9 := hb88
          obtain ⟨hb89, h⟩ := tx_iast (len := 16) (p' := 90) h em3_89 rfl rfl
          replace hb89 : (0 : Int) ≤ t.toInt ∧ t.toInt < 16 := hb89
          replace h := tx_iinc (v := 1) (p' := 93) h em3_90 (by decide +kernel) rfl rfl
          replace h : eT xq_3 _ 93 [some (.inr (.inl (some 48))), some (.inl l), some (.inl (p + 1)), some (.inl (t + 1)), some (.inl (ω.1 10 p.toInt.toNat)), some (.inl (ω.1 11 p.toInt.toNat))] [] (xpi ω 50 t.toInt.toNat (ω.1 49 (ω.1 11 p.toInt.toNat).toInt.toNat)) r μ' := h
          replace h := tx_goto (t := 215) h em3_93 (by decide)
          obtain ⟨n2, hn2, h⟩ := tx_gotoS (t := 12) h em3_215 (by decide)
          exfalso
          omega
        · replace c74 : ¬ ¬ (ω.1 10 p.toInt.toNat).toInt = 0 := c74
          replace h := tx_iload (p' := 79) h em3_77 rfl rfl
          replace h := tx_goto (t := 89) h em3_79 (by decide)
          obtain ⟨hb89_1, h⟩ := tx_iast (len := 16) (p' := 90) h em3_89 rfl rfl
          replace hb89_1 : (0 : Int) ≤ t.toInt ∧ t.toInt < 16 := hb89_1
          replace h := tx_iinc (v := 1) (p' := 93) h em3_90 (by decide +kernel) rfl rfl
          replace h : eT xq_3 _ 93 [some (.inr (.inl (some 48))), some (.inl l), some (.inl (p + 1)), some (.inl (t + 1)), some (.inl (ω.1 10 p.toInt.toNat)), some (.inl (ω.1 11 p.toInt.toNat))] [] (xpi ω 50 t.toInt.toNat (ω.1 11 p.toInt.toNat)) r μ' := h
          replace h := tx_goto (t := 215) h em3_93 (by decide)
          obtain ⟨n2, hn2, h⟩ := tx_gotoS (t := 12) h em3_215 (by decide)
          exfalso
          omega
      · replace c62 : ¬ t.toInt < 16 := c62
        replace h := tx_iconst (v := 0) (p' := 66) h em3_65 (by decide +kernel) rfl
        obtain ⟨rfl, hμ⟩ := tx_ireturn h em3_66
        exfalso
        omega
    · replace c50 : ¬ (ω.1 10 p.toInt.toNat).toInt = 0 := c50
      replace h := tx_iload (p' := 55) h em3_53 rfl rfl
      replace h := tx_iconst (v := 1) (p' := 56) h em3_55 (by decide +kernel) rfl
      rcases tx_icmp (t := 96) (p' := 59) h em3_56 (by decide) rfl with ⟨c56, h⟩ | ⟨c56, h⟩
      · replace c56 : ¬ (ω.1 10 p.toInt.toNat).toInt = 1 := c56
        replace h := tx_iload (p' := 98) h em3_96 rfl rfl
        replace h := tx_bipush (v := 7) (p' := 100) h em3_98 (by decide +kernel) rfl
        rcases tx_icmp (t := 120) (p' := 103) h em3_100 (by decide) rfl with ⟨c100, h⟩ | ⟨c100, h⟩
        · replace c100 : ¬ (ω.1 10 p.toInt.toNat).toInt = 7 := c100
          replace h := tx_iload_n (p' := 121) h em3_120 rfl rfl
          replace h := tx_iconst (v := 2) (p' := 122) h em3_121 (by decide +kernel) rfl
          rcases tx_icmp (t := 142) (p' := 125) h em3_122 (by decide) rfl with ⟨c122, h⟩ | ⟨c122, h⟩
          · replace c122 : t.toInt < 2 := c122
            replace h := tx_iconst (v := 0) (p' := 143) h em3_142 (by decide +kernel) rfl
            obtain ⟨rfl, hμ⟩ := tx_ireturn h em3_143
            exfalso
            omega
          · replace c122 : ¬ t.toInt < 2 := c122
            replace h := tx_iload (p' := 127) h em3_125 rfl rfl
            replace h := tx_iconst (v := 5) (p' := 128) h em3_127 (by decide +kernel) rfl
            rcases tx_icmp (t := 144) (p' := 131) h em3_128 (by decide) rfl with ⟨c128, h⟩ | ⟨c128, h⟩
            · replace c128 : ¬ (ω.1 10 p.toInt.toNat).toInt = 5 := c128
              replace h := tx_iload (p' := 146) h em3_144 rfl rfl
              replace h := tx_bipush (v := 6) (p' := 148) h em3_146 (by decide +kernel) rfl
              rcases tx_icmp (t := 185) (p' := 151) h em3_148 (by decide) rfl with ⟨c148, h⟩ | ⟨c148, h⟩
              · replace c148 : ¬ (ω.1 10 p.toInt.toNat).toInt = 6 := c148
                replace h := tx_iinc (v := (-1)) (p' := 188) h em3_185 (by decide +kernel) rfl rfl
                replace h : eT xq_3 _ 188 [some (.inr (.inl (some 48))), some (.inl l), some (.inl (p + 1)), some (.inl (t + (-1))), some (.inl (ω.1 10 p.toInt.toNat)), some (.inl (ω.1 11 p.toInt.toNat))] [] ω r μ' := h
                have et1 : (t + -1).toInt = t.toInt - 1 := ka1 (by omega)
                obtain ⟨t1, ht1⟩ : ∃ z, z = t + -1 := ⟨_, rfl⟩
                rw [← ht1] at et1 h
                clear ht1
                replace h := tx_aload_n (p' := 189) h em3_188 rfl rfl
                replace h := tx_getc (c := 1) (j := 2) (p' := 192) h em3_189 ((congrFun xo_2 15).trans rfl) rfl rfl rfl
                replace h := tx_iload_n (p' := 193) h em3_192 rfl rfl
                replace h := tx_iconst (v := 1) (p' := 194) h em3_193 (by decide +kernel) rfl
                replace h := tx_isub (p' := 195) h em3_194 rfl
                replace h := tx_iload (p' := 197) h em3_195 rfl rfl
                replace h := tx_aload_n (p' := 198) h em3_197 rfl rfl
                replace h := tx_getc (c := 1) (j := 2) (p' := 201) h em3_198 ((congrFun xo_2 15).trans rfl) rfl rfl rfl
                replace h := tx_iload_n (p' := 202) h em3_201 rfl rfl
                replace h := tx_iconst (v := 1) (p' := 203) h em3_202 (by decide +kernel) rfl
                replace h := tx_isub (p' := 204) h em3_203 rfl
                obtain ⟨hb204, h⟩ := tx_iald (len := 16) (p' := 205) h em3_204 rfl rfl
                replace hb204 : (0 : Int) ≤ (t1 - (1 : Int32)).toInt ∧ (t1 - (1 : Int32)).toInt < 16 := hb204
                replace h := tx_aload_n (p' := 206) h em3_205 rfl rfl
                replace h := tx_getc (c := 1) (j := 2) (p' := 209) h em3_206 ((congrFun xo_2 15).trans rfl) rfl rfl rfl
                replace h := tx_iload_n (p' := 210) h em3_209 rfl rfl
                obtain ⟨hb210, h⟩ := tx_iald (len := 16) (p' := 211) h em3_210 rfl rfl
                replace hb210 : (0 : Int) ≤ t1.toInt ∧ t1.toInt < 16 := hb210
                obtain ⟨r211, μ211, hE211, h⟩ := tx_invS (na := 3) (mn := 243) (as := [.inl (ω.1 10 p.toInt.toNat), .inl (ω.1 50 (t1 - (1 : Int32)).toInt.toNat), .inl (ω.1 50 t1.toInt.toNat)]) (rest := [.inl (t1 - (1 : Int32)), .inr (.inl (some 50))]) (p' := 214) h em3_211 ((congrFun xo_2 87).trans rfl) xm_243 rfl rfl
                have et2 : (t1 - (1 : Int32)).toInt = t.toInt - 2 := by rw [an_sub (by rw [e1i]; omega) (by rw [e1i]; omega), e1i]; omega
                rw [et2, et1] at hE211
                obtain ⟨hm, rfl⟩ := ex_rck3 hE211 (by omega)
                rw [hm] at h
                replace h : eT xq_3 _ 214 [some (.inr (.inl (some 48))), some (.inl l), some (.inl (p + 1)), some (.inl t1), some (.inl (ω.1 10 p.toInt.toNat)), some (.inl (ω.1 11 p.toInt.toNat))] [.inl ((ω.1 50 (t.toInt - 2).toNat) - (ω.1 50 (t.toInt - 1).toNat)), .inl (t1 - (1 : Int32)), .inr (.inl (some 50))] ω r μ' := h
                obtain ⟨hb214, h⟩ := tx_iast (len := 16) (p' := 215) h em3_214 rfl rfl
                replace hb214 : (0 : Int) ≤ (t1 - (1 : Int32)).toInt ∧ (t1 - (1 : Int32)).toInt < 16 := hb214
                obtain ⟨n2, hn2, h⟩ := tx_gotoS (t := 12) h em3_215 (by decide)
                rw [et2] at h
                exact ⟨_, _, _, t1, et1, h⟩
              · replace c148 : ¬ ¬ (ω.1 10 p.toInt.toNat).toInt = 6 := c148
                replace h := tx_iinc (v := (-2)) (p' := 154) h em3_151 (by decide +kernel) rfl rfl
                replace h : eT xq_3 _ 154 [some (.inr (.inl (some 48))), some (.inl l), some (.inl (p + 1)), some (.inl (t + (-2))), some (.inl (ω.1 10 p.toInt.toNat)), some (.inl (ω.1 11 p.toInt.toNat))] [] ω r μ' := h
                have et2 : (t + -2).toInt = t.toInt - 2 := kb2 (by omega)
                obtain ⟨t2, ht2⟩ : ∃ z, z = t + -2 := ⟨_, rfl⟩
                rw [← ht2] at et2 h
                clear ht2
                replace h := tx_aload_n (p' := 155) h em3_154 rfl rfl
                replace h := tx_getc (c := 1) (j := 2) (p' := 158) h em3_155 ((congrFun xo_2 15).trans rfl) rfl rfl rfl
                replace h := tx_iload_n (p' := 159) h em3_158 rfl rfl
                obtain ⟨hb159, h⟩ := tx_iald (len := 16) (p' := 160) h em3_159 rfl rfl
                replace hb159 : (0 : Int) ≤ t2.toInt ∧ t2.toInt < 16 := hb159
                replace h := tx_aload_n (p' := 161) h em3_160 rfl rfl
                replace h := tx_getc (c := 1) (j := 2) (p' := 164) h em3_161 ((congrFun xo_2 15).trans rfl) rfl rfl rfl
                replace h := tx_iload_n (p' := 165) h em3_164 rfl rfl
                replace h := tx_iconst (v := 1) (p' := 166) h em3_165 (by decide +kernel) rfl
                replace h := tx_iadd (p' := 167) h em3_166 rfl
                obtain ⟨hb167, h⟩ := tx_iald (len := 16) (p' := 168) h em3_167 rfl rfl
                replace hb167 : (0 : Int) ≤ (t2 + (1 : Int32)).toInt ∧ (t2 + (1 : Int32)).toInt < 16 := hb167
                rcases tx_icmp (t := 175) (p' := 171) h em3_168 (by decide) rfl with ⟨c168, h⟩ | ⟨c168, h⟩
                · replace c168 : (ω.1 50 (t2 + (1 : Int32)).toInt.toNat).toInt ≤ (ω.1 50 t2.toInt.toNat).toInt := c168
                  replace h := tx_iload_n (p' := 176) h em3_175 rfl rfl
                  replace h := tx_iload (p' := 178) h em3_176 rfl rfl
                  replace h := tx_max (p' := 181) h em3_178 ((congrFun xo_2 48).trans rfl) rfl
                  replace h := tx_istore_n (p' := 182) h em3_181 rfl
                  replace h : eT xq_3 _ 182 [some (.inr (.inl (some 48))), some (.inl l), some (.inl (if (p + 1) < (ω.1 11 p.toInt.toNat) then (ω.1 11 p.toInt.toNat) else (p + 1))), some (.inl t2), some (.inl (ω.1 10 p.toInt.toNat)), some (.inl (ω.1 11 p.toInt.toNat))] [] ω r μ' := h
                  replace h := tx_goto (t := 215) h em3_182 (by decide)
                  obtain ⟨n2, hn2, h⟩ := tx_gotoS (t := 12) h em3_215 (by decide)
                  exfalso
                  omega
                · replace c168 : ¬ (ω.1 50 (t2 + (1 : Int32)).toInt.toNat).toInt ≤ (ω.1 50 t2.toInt.toNat).toInt := c168
                  replace h := tx_iload_n (p' := 172) h em3_171 rfl rfl
                  replace h := tx_goto (t := 181) h em3_172 (by decide)
                  replace h := tx_istore_n (p' := 182) h em3_181 rfl
                  replace h : eT xq_3 _ 182 [some (.inr (.inl (some 48))), some (.inl l), some (.inl (p + 1)), some (.inl t2), some (.inl (ω.1 10 p.toInt.toNat)), some (.inl (ω.1 11 p.toInt.toNat))] [] ω r μ' := h
                  replace h := tx_goto (t := 215) h em3_182 (by decide)
                  obtain ⟨n2, hn2, h⟩ := tx_gotoS (t := 12) h em3_215 (by decide)
                  exfalso
                  omega
            · replace c128 : ¬ ¬ (ω.1 10 p.toInt.toNat).toInt = 5 := c128
              replace h := tx_aload_n (p' := 132) h em3_131 rfl rfl
              replace h := tx_getc (c := 1) (j := 2) (p' := 135) h em3_132 ((congrFun xo_2 15).trans rfl) rfl rfl rfl
              replace h := tx_iload_n (p' := 136) h em3_135 rfl rfl
              replace h := tx_iconst (v := 1) (p' := 137) h em3_136 (by decide +kernel) rfl
              replace h := tx_isub (p' := 138) h em3_137 rfl
              obtain ⟨hb138, h⟩ := tx_iald (len := 16) (p' := 139) h em3_138 rfl rfl
              replace hb138 : (0 : Int) ≤ (t - (1 : Int32)).toInt ∧ (t - (1 : Int32)).toInt < 16 := hb138
              rcases tx_if (t := 144) (p' := 142) h em3_139 (by decide) rfl with ⟨c139, h⟩ | ⟨c139, h⟩
              · replace c139 : ¬ (ω.1 50 (t - (1 : Int32)).toInt.toNat).toInt = 0 := c139
                replace h := tx_iload (p' := 146) h em3_144 rfl rfl
                replace h := tx_bipush (v := 6) (p' := 148) h em3_146 (by decide +kernel) rfl
                rcases tx_icmp (t := 185) (p' := 151) h em3_148 (by decide) rfl with ⟨c148_1, h⟩ | ⟨c148_1, h⟩
                · replace c148_1 : ¬ (ω.1 10 p.toInt.toNat).toInt = 6 := c148_1
                  replace h := tx_iinc (v := (-1)) (p' := 188) h em3_185 (by decide +kernel) rfl rfl
                  replace h : eT xq_3 _ 188 [some (.inr (.inl (some 48))), some (.inl l), some (.inl (p + 1)), some (.inl (t + (-1))), some (.inl (ω.1 10 p.toInt.toNat)), some (.inl (ω.1 11 p.toInt.toNat))] [] ω r μ' := h
                  have et1 : (t + -1).toInt = t.toInt - 1 := ka1 (by omega)
                  obtain ⟨t1, ht1⟩ : ∃ z, z = t + -1 := ⟨_, rfl⟩
                  rw [← ht1] at et1 h
                  clear ht1
                  replace h := tx_aload_n (p' := 189) h em3_188 rfl rfl
                  replace h := tx_getc (c := 1) (j := 2) (p' := 192) h em3_189 ((congrFun xo_2 15).trans rfl) rfl rfl rfl
                  replace h := tx_iload_n (p' := 193) h em3_192 rfl rfl
                  replace h := tx_iconst (v := 1) (p' := 194) h em3_193 (by decide +kernel) rfl
                  replace h := tx_isub (p' := 195) h em3_194 rfl
                  replace h := tx_iload (p' := 197) h em3_195 rfl rfl
                  replace h := tx_aload_n (p' := 198) h em3_197 rfl rfl
                  replace h := tx_getc (c := 1) (j := 2) (p' := 201) h em3_198 ((congrFun xo_2 15).trans rfl) rfl rfl rfl
                  replace h := tx_iload_n (p' := 202) h em3_201 rfl rfl
                  replace h := tx_iconst (v := 1) (p' := 203) h em3_202 (by decide +kernel) rfl
                  replace h := tx_isub (p' := 204) h em3_203 rfl
                  obtain ⟨hb204_1, h⟩ := tx_iald (len := 16) (p' := 205) h em3_204 rfl rfl
                  replace hb204_1 : (0 : Int) ≤ (t1 - (1 : Int32)).toInt ∧ (t1 - (1 : Int32)).toInt < 16 := hb204_1
                  replace h := tx_aload_n (p' := 206) h em3_205 rfl rfl
                  replace h := tx_getc (c := 1) (j := 2) (p' := 209) h em3_206 ((congrFun xo_2 15).trans rfl) rfl rfl rfl
                  replace h := tx_iload_n (p' := 210) h em3_209 rfl rfl
                  obtain ⟨hb210_1, h⟩ := tx_iald (len := 16) (p' := 211) h em3_210 rfl rfl
                  replace hb210_1 : (0 : Int) ≤ t1.toInt ∧ t1.toInt < 16 := hb210_1
                  obtain ⟨r211_1, μ211_1, hE211_1, h⟩ := tx_invS (na := 3) (mn := 243) (as := [.inl (ω.1 10 p.toInt.toNat), .inl (ω.1 50 (t1 - (1 : Int32)).toInt.toNat), .inl (ω.1 50 t1.toInt.toNat)]) (rest := [.inl (t1 - (1 : Int32)), .inr (.inl (some 50))]) (p' := 214) h em3_211 ((congrFun xo_2 87).trans rfl) xm_243 rfl rfl
                  have et2 : (t1 - (1 : Int32)).toInt = t.toInt - 2 := by rw [an_sub (by rw [e1i]; omega) (by rw [e1i]; omega), e1i]; omega
                  rw [et2, et1] at hE211_1
                  obtain ⟨hm, rfl⟩ := ex_rck3 hE211_1 (by omega)
                  rw [hm] at h
                  replace h : eT xq_3 _ 214 [some (.inr (.inl (some 48))), some (.inl l), some (.inl (p + 1)), some (.inl t1), some (.inl (ω.1 10 p.toInt.toNat)), some (.inl (ω.1 11 p.toInt.toNat))] [.inl ((ω.1 50 (t.toInt - 2).toNat) - (ω.1 50 (t.toInt - 1).toNat)), .inl (t1 - (1 : Int32)), .inr (.inl (some 50))] ω r μ' := h
                  obtain ⟨hb214_1, h⟩ := tx_iast (len := 16) (p' := 215) h em3_214 rfl rfl
                  replace hb214_1 : (0 : Int) ≤ (t1 - (1 : Int32)).toInt ∧ (t1 - (1 : Int32)).toInt < 16 := hb214_1
                  obtain ⟨n2, hn2, h⟩ := tx_gotoS (t := 12) h em3_215 (by decide)
                  rw [et2] at h
                  exact ⟨_, _, _, t1, et1, h⟩
                · replace c148_1 : ¬ ¬ (ω.1 10 p.toInt.toNat).toInt = 6 := c148_1
                  replace h := tx_iinc (v := (-2)) (p' := 154) h em3_151 (by decide +kernel) rfl rfl
                  replace h : eT xq_3 _ 154 [some (.inr (.inl (some 48))), some (.inl l), some (.inl (p + 1)), some (.inl (t + (-2))), some (.inl (ω.1 10 p.toInt.toNat)), some (.inl (ω.1 11 p.toInt.toNat))] [] ω r μ' := h
                  have et2 : (t + -2).toInt = t.toInt - 2 := kb2 (by omega)
                  obtain ⟨t2, ht2⟩ : ∃ z, z = t + -2 := ⟨_, rfl⟩
                  rw [← ht2] at et2 h
                  clear ht2
                  replace h := tx_aload_n (p' := 155) h em3_154 rfl rfl
                  replace h := tx_getc (c := 1) (j := 2) (p' := 158) h em3_155 ((congrFun xo_2 15).trans rfl) rfl rfl rfl
                  replace h := tx_iload_n (p' := 159) h em3_158 rfl rfl
                  obtain ⟨hb159_1, h⟩ := tx_iald (len := 16) (p' := 160) h em3_159 rfl rfl
                  replace hb159_1 : (0 : Int) ≤ t2.toInt ∧ t2.toInt < 16 := hb159_1
                  replace h := tx_aload_n (p' := 161) h em3_160 rfl rfl
                  replace h := tx_getc (c := 1) (j := 2) (p' := 164) h em3_161 ((congrFun xo_2 15).trans rfl) rfl rfl rfl
                  replace h := tx_iload_n (p' := 165) h em3_164 rfl rfl
                  replace h := tx_iconst (v := 1) (p' := 166) h em3_165 (by decide +kernel) rfl
                  replace h := tx_iadd (p' := 167) h em3_166 rfl
                  obtain ⟨hb167_1, h⟩ := tx_iald (len := 16) (p' := 168) h em3_167 rfl rfl
                  replace hb167_1 : (0 : Int) ≤ (t2 + (1 : Int32)).toInt ∧ (t2 + (1 : Int32)).toInt < 16 := hb167_1
                  rcases tx_icmp (t := 175) (p' := 171) h em3_168 (by decide) rfl with ⟨c168_1, h⟩ | ⟨c168_1, h⟩
                  · replace c168_1 : (ω.1 50 (t2 + (1 : Int32)).toInt.toNat).toInt ≤ (ω.1 50 t2.toInt.toNat).toInt := c168_1
                    replace h := tx_iload_n (p' := 176) h em3_175 rfl rfl
                    replace h := tx_iload (p' := 178) h em3_176 rfl rfl
                    replace h := tx_max (p' := 181) h em3_178 ((congrFun xo_2 48).trans rfl) rfl
                    replace h := tx_istore_n (p' := 182) h em3_181 rfl
                    replace h : eT xq_3 _ 182 [some (.inr (.inl (some 48))), some (.inl l), some (.inl (if (p + 1) < (ω.1 11 p.toInt.toNat) then (ω.1 11 p.toInt.toNat) else (p + 1))), some (.inl t2), some (.inl (ω.1 10 p.toInt.toNat)), some (.inl (ω.1 11 p.toInt.toNat))] [] ω r μ' := h
                    replace h := tx_goto (t := 215) h em3_182 (by decide)
                    obtain ⟨n2, hn2, h⟩ := tx_gotoS (t := 12) h em3_215 (by decide)
                    exfalso
                    omega
                  · replace c168_1 : ¬ (ω.1 50 (t2 + (1 : Int32)).toInt.toNat).toInt ≤ (ω.1 50 t2.toInt.toNat).toInt := c168_1
                    replace h := tx_iload_n (p' := 172) h em3_171 rfl rfl
                    replace h := tx_goto (t := 181) h em3_172 (by decide)
                    replace h := tx_istore_n (p' := 182) h em3_181 rfl
                    replace h : eT xq_3 _ 182 [some (.inr (.inl (some 48))), some (.inl l), some (.inl (p + 1)), some (.inl t2), some (.inl (ω.1 10 p.toInt.toNat)), some (.inl (ω.1 11 p.toInt.toNat))] [] ω r μ' := h
                    replace h := tx_goto (t := 215) h em3_182 (by decide)
                    obtain ⟨n2, hn2, h⟩ := tx_gotoS (t := 12) h em3_215 (by decide)
                    exfalso
                    omega
              · replace c139 : ¬ ¬ (ω.1 50 (t - (1 : Int32)).toInt.toNat).toInt = 0 := c139
                replace h := tx_iconst (v := 0) (p' := 143) h em3_142 (by decide +kernel) rfl
                obtain ⟨rfl, hμ⟩ := tx_ireturn h em3_143
                exfalso
                omega
        · replace c100 : ¬ ¬ (ω.1 10 p.toInt.toNat).toInt = 7 := c100
          replace h := tx_iload_n (p' := 104) h em3_103 rfl rfl
          rcases tx_if (t := 118) (p' := 107) h em3_104 (by decide) rfl with ⟨c104, h⟩ | ⟨c104, h⟩
          · replace c104 : t.toInt ≤ 0 := c104
            replace h := tx_iconst (v := 0) (p' := 119) h em3_118 (by decide +kernel) rfl
            obtain ⟨rfl, hμ⟩ := tx_ireturn h em3_119
            exfalso
            omega
          · replace c104 : ¬ t.toInt ≤ 0 := c104
            replace h := tx_aload_n (p' := 108) h em3_107 rfl rfl
            replace h := tx_getc (c := 1) (j := 2) (p' := 111) h em3_108 ((congrFun xo_2 15).trans rfl) rfl rfl rfl
            replace h := tx_iload_n (p' := 112) h em3_111 rfl rfl
            replace h := tx_iconst (v := 1) (p' := 113) h em3_112 (by decide +kernel) rfl
            replace h := tx_isub (p' := 114) h em3_113 rfl
            obtain ⟨hb114, h⟩ := tx_iald (len := 16) (p' := 115) h em3_114 rfl rfl
            replace hb114 : (0 : Int) ≤ (t - (1 : Int32)).toInt ∧ (t - (1 : Int32)).toInt < 16 := hb114
            replace h := tx_goto (t := 119) h em3_115 (by decide)
            obtain ⟨rfl, hμ⟩ := tx_ireturn h em3_119
            exfalso
            omega
      · replace c56 : ¬ ¬ (ω.1 10 p.toInt.toNat).toInt = 1 := c56
        replace h := tx_iload_n (p' := 60) h em3_59 rfl rfl
        replace h := tx_bipush (v := 16) (p' := 62) h em3_60 (by decide +kernel) rfl
        rcases tx_icmp (t := 67) (p' := 65) h em3_62 (by decide) rfl with ⟨c62_1, h⟩ | ⟨c62_1, h⟩
        · replace c62_1 : t.toInt < 16 := c62_1
          replace h := tx_aload_n (p' := 68) h em3_67 rfl rfl
          replace h := tx_getc (c := 1) (j := 2) (p' := 71) h em3_68 ((congrFun xo_2 15).trans rfl) rfl rfl rfl
          replace h := tx_iload_n (p' := 72) h em3_71 rfl rfl
          replace h := tx_iload (p' := 74) h em3_72 rfl rfl
          rcases tx_if (t := 82) (p' := 77) h em3_74 (by decide) rfl with ⟨c74_1, h⟩ | ⟨c74_1, h⟩
          · replace c74_1 : ¬ (ω.1 10 p.toInt.toNat).toInt = 0 := c74_1
            replace h := tx_aload_n (p' := 83) h em3_82 rfl rfl
            replace h := tx_getc (c := 1) (j := 1) (p' := 86) h em3_83 ((congrFun xo_2 11).trans rfl) rfl rfl rfl
            replace h := tx_iload (p' := 88) h em3_86 rfl rfl
            obtain ⟨hb88_1, h⟩ := tx_iald (len := 9) (p' := 89) h em3_88 rfl rfl
            replace hb88_1 : (0 : Int) ≤ (ω.1 11 p.toInt.toNat).toInt ∧ (ω.1 11 p.toInt.toNat).toInt < 9 := hb88_1
            obtain ⟨hb89_2, h⟩ := tx_iast (len := 16) (p' := 90) h em3_89 rfl rfl
            replace hb89_2 : (0 : Int) ≤ t.toInt ∧ t.toInt < 16 := hb89_2
            replace h := tx_iinc (v := 1) (p' := 93) h em3_90 (by decide +kernel) rfl rfl
            replace h : eT xq_3 _ 93 [some (.inr (.inl (some 48))), some (.inl l), some (.inl (p + 1)), some (.inl (t + 1)), some (.inl (ω.1 10 p.toInt.toNat)), some (.inl (ω.1 11 p.toInt.toNat))] [] (xpi ω 50 t.toInt.toNat (ω.1 49 (ω.1 11 p.toInt.toNat).toInt.toNat)) r μ' := h
            replace h := tx_goto (t := 215) h em3_93 (by decide)
            obtain ⟨n2, hn2, h⟩ := tx_gotoS (t := 12) h em3_215 (by decide)
            exfalso
            omega
          · replace c74_1 : ¬ ¬ (ω.1 10 p.toInt.toNat).toInt = 0 := c74_1
            replace h := tx_iload (p' := 79) h em3_77 rfl rfl
            replace h := tx_goto (t := 89) h em3_79 (by decide)
            obtain ⟨hb89_3, h⟩ := tx_iast (len := 16) (p' := 90) h em3_89 rfl rfl
            replace hb89_3 : (0 : Int) ≤ t.toInt ∧ t.toInt < 16 := hb89_3
            replace h := tx_iinc (v := 1) (p' := 93) h em3_90 (by decide +kernel) rfl rfl
            replace h : eT xq_3 _ 93 [some (.inr (.inl (some 48))), some (.inl l), some (.inl (p + 1)), some (.inl (t + 1)), some (.inl (ω.1 10 p.toInt.toNat)), some (.inl (ω.1 11 p.toInt.toNat))] [] (xpi ω 50 t.toInt.toNat (ω.1 11 p.toInt.toNat)) r μ' := h
            replace h := tx_goto (t := 215) h em3_93 (by decide)
            obtain ⟨n2, hn2, h⟩ := tx_gotoS (t := 12) h em3_215 (by decide)
            exfalso
            omega
        · replace c62_1 : ¬ t.toInt < 16 := c62_1
          replace h := tx_iconst (v := 0) (p' := 66) h em3_65 (by decide +kernel) rfl
          obtain ⟨rfl, hμ⟩ := tx_ireturn h em3_66
          exfalso
          omega
set_option maxRecDepth 10000 in
set_option maxHeartbeats 4000000 in
theorem jd_op4 {n : Nat} {l p t : Int32} {o4 o5 : Option zV} {ω μ' : xM} {r : Option zV} (h : eT xq_3 n 12 [some (.inr (.inl (some 48))), some (.inl l), some (.inl p), some (.inl t), o4, o5] [] ω r μ') (hp : p.toInt < (ω.1 2 14).toInt) (hq : 0 ≤ p.toInt) (ho : (ω.1 10 p.toInt.toNat).toInt = 4) (ht : 2 ≤ t.toInt) (ht6 : t.toInt ≤ 16) : ∃ n' o4' o5' t1, t1.toInt = t.toInt - 1 ∧ eT xq_3 n' 12 [some (.inr (.inl (some 48))), some (.inl l), some (.inl (p + 1)), some (.inl t1), o4', o5'] [] (xpi ω 50 (t.toInt - 2).toNat ((ω.1 50 (t.toInt - 2).toNat) * (ω.1 50 (t.toInt - 1).toNat))) r μ' := by
  have e1i : (1 : Int32).toInt = 1 := by decide
  have eta : (t - (1 : Int32)).toInt = t.toInt - 1 := by rw [an_sub (by rw [e1i]; omega) (by rw [e1i]; have := an_hi t; omega), e1i]
  replace h := tx_iload_n (p' := 13) h em3_12 rfl rfl
  replace h := tx_aload_n (p' := 14) h em3_13 rfl rfl
  replace h := tx_getc (c := 1) (j := 0) (p' := 17) h em3_14 ((congrFun xo_2 18).trans rfl) rfl rfl rfl
  replace h := tx_getf (c := 6) (j := 14) (p' := 20) h em3_17 ((congrFun xo_2 78).trans rfl) rfl rfl (by decide) rfl
  rcases tx_icmp (t := 218) (p' := 23) h em3_20 (by decide) rfl with ⟨c20, h⟩ | ⟨c20, h⟩
  · replace c20 : (ω.1 2 14).toInt ≤ p.toInt := c20
    replace h := tx_iconst (v := 0) (p' := 219) h em3_218 (by decide +kernel) rfl
    obtain ⟨rfl, hμ⟩ := tx_ireturn h em3_219
    exfalso
    omega
  · replace c20 : ¬ (ω.1 2 14).toInt ≤ p.toInt := c20
    replace h := tx_aload_n (p' := 24) h em3_23 rfl rfl
    replace h := tx_getc (c := 1) (j := 0) (p' := 27) h em3_24 ((congrFun xo_2 18).trans rfl) rfl rfl rfl
    replace h := tx_getc (c := 6) (j := 12) (p' := 30) h em3_27 ((congrFun xo_2 81).trans rfl) rfl rfl rfl
    replace h := tx_iload_n (p' := 31) h em3_30 rfl rfl
    obtain ⟨hb31, h⟩ := tx_iald (len := 408) (p' := 32) h em3_31 rfl rfl
    replace hb31 : (0 : Int) ≤ p.toInt ∧ p.toInt < 408 := hb31
    replace h := tx_istore (p' := 34) h em3_32 rfl
    replace h : eT xq_3 _ 34 [some (.inr (.inl (some 48))), some (.inl l), some (.inl p), some (.inl t), some (.inl (ω.1 10 p.toInt.toNat)), o5] [] ω r μ' := h
    replace h := tx_aload_n (p' := 35) h em3_34 rfl rfl
    replace h := tx_getc (c := 1) (j := 0) (p' := 38) h em3_35 ((congrFun xo_2 18).trans rfl) rfl rfl rfl
    replace h := tx_getc (c := 6) (j := 13) (p' := 41) h em3_38 ((congrFun xo_2 84).trans rfl) rfl rfl rfl
    replace h := tx_iload_n (p' := 42) h em3_41 rfl rfl
    obtain ⟨hb42, h⟩ := tx_iald (len := 408) (p' := 43) h em3_42 rfl rfl
    replace hb42 : (0 : Int) ≤ p.toInt ∧ p.toInt < 408 := hb42
    replace h := tx_istore (p' := 45) h em3_43 rfl
    replace h : eT xq_3 _ 45 [some (.inr (.inl (some 48))), some (.inl l), some (.inl p), some (.inl t), some (.inl (ω.1 10 p.toInt.toNat)), some (.inl (ω.1 11 p.toInt.toNat))] [] ω r μ' := h
    replace h := tx_iinc (v := 1) (p' := 48) h em3_45 (by decide +kernel) rfl rfl
    replace h : eT xq_3 _ 48 [some (.inr (.inl (some 48))), some (.inl l), some (.inl (p + 1)), some (.inl t), some (.inl (ω.1 10 p.toInt.toNat)), some (.inl (ω.1 11 p.toInt.toNat))] [] ω r μ' := h
    replace h := tx_iload (p' := 50) h em3_48 rfl rfl
    rcases tx_if (t := 59) (p' := 53) h em3_50 (by decide) rfl with ⟨c50, h⟩ | ⟨c50, h⟩
    · replace c50 : (ω.1 10 p.toInt.toNat).toInt = 0 := c50
      replace h := tx_iload_n (p' := 60) h em3_59 rfl rfl
      replace h := tx_bipush (v := 16) (p' := 62) h em3_60 (by decide +kernel) rfl
      rcases tx_icmp (t := 67) (p' := 65) h em3_62 (by decide) rfl with ⟨c62, h⟩ | ⟨c62, h⟩
      · replace c62 : t.toInt < 16 := c62
        replace h := tx_aload_n (p' := 68) h em3_67 rfl rfl
        replace h := tx_getc (c := 1) (j := 2) (p' := 71) h em3_68 ((congrFun xo_2 15).trans rfl) rfl rfl rfl
        replace h := tx_iload_n (p' := 72) h em3_71 rfl rfl
        replace h := tx_iload (p' := 74) h em3_72 rfl rfl
        rcases tx_if (t := 82) (p' := 77) h em3_74 (by decide) rfl with ⟨c74, h⟩ | ⟨c74, h⟩
        · replace c74 : ¬ (ω.1 10 p.toInt.toNat).toInt = 0 := c74
          replace h := tx_aload_n (p' := 83) h em3_82 rfl rfl
          replace h := tx_getc (c := 1) (j := 1) (p' := 86) h em3_83 ((congrFun xo_2 11).trans rfl) rfl rfl rfl
          replace h := tx_iload (p' := 88) h em3_86 rfl rfl
          obtain ⟨hb88, h⟩ := tx_iald (len := 9) (p' := 89) h em3_88 rfl rfl
          replace hb88 : (0 : Int) ≤ (ω.1 11 p.toInt.toNat).toInt ∧ (ω.1 11 p.toInt.toNat).toInt < 9 := hb88
          obtain ⟨hb89, h⟩ := tx_iast (len := 16) (p' := 90) h em3_89 rfl rfl
          replace hb89 : (0 : Int) ≤ t.toInt ∧ t.toInt < 16 := hb89
          replace h := tx_iinc (v := 1) (p' := 93) h em3_90 (by decide +kernel) rfl rfl
          replace h : eT xq_3 _ 93 [some (.inr (.inl (some 48))), some (.inl l), some (.inl (p + 1)), some (.inl (t + 1)), some (.inl (ω.1 10 p.toInt.toNat)), some (.inl (ω.1 11 p.toInt.toNat))] [] (xpi ω 50 t.toInt.toNat (ω.1 49 (ω.1 11 p.toInt.toNat).toInt.toNat)) r μ' := h
          replace h := tx_goto (t := 215) h em3_93 (by decide)
          obtain ⟨n2, hn2, h⟩ := tx_gotoS (t := 12) h em3_215 (by decide)
          exfalso
          omega
        · replace c74 : ¬ ¬ (ω.1 10 p.toInt.toNat).toInt = 0 := c74
          replace h := tx_iload (p' := 79) h em3_77 rfl rfl
          replace h := tx_goto (t := 89) h em3_79 (by decide)
          obtain ⟨hb89_1, h⟩ := tx_iast (len := 16) (p' := 90) h em3_89 rfl rfl
          replace hb89_1 : (0 : Int) ≤ t.toInt ∧ t.toInt < 16 := hb89_1
          replace h := tx_iinc (v := 1) (p' := 93) h em3_90 (by decide +kernel) rfl rfl
          replace h : eT xq_3 _ 93 [some (.inr (.inl (some 48))), some (.inl l), some (.inl (p + 1)), some (.inl (t + 1)), some (.inl (ω.1 10 p.toInt.toNat)), some (.inl (ω.1 11 p.toInt.toNat))] [] (xpi ω 50 t.toInt.toNat (ω.1 11 p.toInt.toNat)) r μ' := h
          replace h := tx_goto (t := 215) h em3_93 (by decide)
          obtain ⟨n2, hn2, h⟩ := tx_gotoS (t := 12) h em3_215 (by decide)
          exfalso
          omega
      · replace c62 : ¬ t.toInt < 16 := c62
        replace h := tx_iconst (v := 0) (p' := 66) h em3_65 (by decide +kernel) rfl
        obtain ⟨rfl, hμ⟩ := tx_ireturn h em3_66
        exfalso
        omega
    · replace c50 : ¬ (ω.1 10 p.toInt.toNat).toInt = 0 := c50
      replace h := tx_iload (p' := 55) h em3_53 rfl rfl
      replace h := tx_iconst (v := 1) (p' := 56) h em3_55 (by decide +kernel) rfl
      rcases tx_icmp (t := 96) (p' := 59) h em3_56 (by decide) rfl with ⟨c56, h⟩ | ⟨c56, h⟩
      · replace c56 : ¬ (ω.1 10 p.toInt.toNat).toInt = 1 := c56
        replace h := tx_iload (p' := 98) h em3_96 rfl rfl
        replace h := tx_bipush (v := 7) (p' := 100) h em3_98 (by decide +kernel) rfl
        rcases tx_icmp (t := 120) (p' := 103) h em3_100 (by decide) rfl with ⟨c100, h⟩ | ⟨c100, h⟩
        · replace c100 : ¬ (ω.1 10 p.toInt.toNat).toInt = 7 := c100
          replace h := tx_iload_n (p' := 121) h em3_120 rfl rfl
          replace h := tx_iconst (v := 2) (p' := 122) h em3_121 (by decide +kernel) rfl
          rcases tx_icmp (t := 142) (p' := 125) h em3_122 (by decide) rfl with ⟨c122, h⟩ | ⟨c122, h⟩
          · replace c122 : t.toInt < 2 := c122
            replace h := tx_iconst (v := 0) (p' := 143) h em3_142 (by decide +kernel) rfl
            obtain ⟨rfl, hμ⟩ := tx_ireturn h em3_143
            exfalso
            omega
          · replace c122 : ¬ t.toInt < 2 := c122
            replace h := tx_iload (p' := 127) h em3_125 rfl rfl
            replace h := tx_iconst (v := 5) (p' := 128) h em3_127 (by decide +kernel) rfl
            rcases tx_icmp (t := 144) (p' := 131) h em3_128 (by decide) rfl with ⟨c128, h⟩ | ⟨c128, h⟩
            · replace c128 : ¬ (ω.1 10 p.toInt.toNat).toInt = 5 := c128
              replace h := tx_iload (p' := 146) h em3_144 rfl rfl
              replace h := tx_bipush (v := 6) (p' := 148) h em3_146 (by decide +kernel) rfl
              rcases tx_icmp (t := 185) (p' := 151) h em3_148 (by decide) rfl with ⟨c148, h⟩ | ⟨c148, h⟩
              · replace c148 : ¬ (ω.1 10 p.toInt.toNat).toInt = 6 := c148
                replace h := tx_iinc (v := (-1)) (p' := 188) h em3_185 (by decide +kernel) rfl rfl
                replace h : eT xq_3 _ 188 [some (.inr (.inl (some 48))), some (.inl l), some (.inl (p + 1)), some (.inl (t + (-1))), some (.inl (ω.1 10 p.toInt.toNat)), some (.inl (ω.1 11 p.toInt.toNat))] [] ω r μ' := h
                have et1 : (t + -1).toInt = t.toInt - 1 := ka1 (by omega)
                obtain ⟨t1, ht1⟩ : ∃ z, z = t + -1 := ⟨_, rfl⟩
                rw [← ht1] at et1 h
                clear ht1
                replace h := tx_aload_n (p' := 189) h em3_188 rfl rfl
                replace h := tx_getc (c := 1) (j := 2) (p' := 192) h em3_189 ((congrFun xo_2 15).trans rfl) rfl rfl rfl
                replace h := tx_iload_n (p' := 193) h em3_192 rfl rfl
                replace h := tx_iconst (v := 1) (p' := 194) h em3_193 (by decide +kernel) rfl
                replace h := tx_isub (p' := 195) h em3_194 rfl
                replace h := tx_iload (p' := 197) h em3_195 rfl rfl
                replace h := tx_aload_n (p' := 198) h em3_197 rfl rfl
                replace h := tx_getc (c := 1) (j := 2) (p' := 201) h em3_198 ((congrFun xo_2 15).trans rfl) rfl rfl rfl
                replace h := tx_iload_n (p' := 202) h em3_201 rfl rfl
                replace h := tx_iconst (v := 1) (p' := 203) h em3_202 (by decide +kernel) rfl
                replace h := tx_isub (p' := 204) h em3_203 rfl
                obtain ⟨hb204, h⟩ := tx_iald (len := 16) (p' := 205) h em3_204 rfl rfl
                replace hb204 : (0 : Int) ≤ (t1 - (1 : Int32)).toInt ∧ (t1 - (1 : Int32)).toInt < 16 := hb204
                replace h := tx_aload_n (p' := 206) h em3_205 rfl rfl
                replace h := tx_getc (c := 1) (j := 2) (p' := 209) h em3_206 ((congrFun xo_2 15).trans rfl) rfl rfl rfl
                replace h := tx_iload_n (p' := 210) h em3_209 rfl rfl
                obtain ⟨hb210, h⟩ := tx_iald (len := 16) (p' := 211) h em3_210 rfl rfl
                replace hb210 : (0 : Int) ≤ t1.toInt ∧ t1.toInt < 16 := hb210
                obtain ⟨r211, μ211, hE211, h⟩ := tx_invS (na := 3) (mn := 243) (as := [.inl (ω.1 10 p.toInt.toNat), .inl (ω.1 50 (t1 - (1 : Int32)).toInt.toNat), .inl (ω.1 50 t1.toInt.toNat)]) (rest := [.inl (t1 - (1 : Int32)), .inr (.inl (some 50))]) (p' := 214) h em3_211 ((congrFun xo_2 87).trans rfl) xm_243 rfl rfl
                have et2 : (t1 - (1 : Int32)).toInt = t.toInt - 2 := by rw [an_sub (by rw [e1i]; omega) (by rw [e1i]; omega), e1i]; omega
                rw [et2, et1] at hE211
                obtain ⟨hm, rfl⟩ := ex_rck4 hE211 (by omega)
                rw [hm] at h
                replace h : eT xq_3 _ 214 [some (.inr (.inl (some 48))), some (.inl l), some (.inl (p + 1)), some (.inl t1), some (.inl (ω.1 10 p.toInt.toNat)), some (.inl (ω.1 11 p.toInt.toNat))] [.inl ((ω.1 50 (t.toInt - 2).toNat) * (ω.1 50 (t.toInt - 1).toNat)), .inl (t1 - (1 : Int32)), .inr (.inl (some 50))] ω r μ' := h
                obtain ⟨hb214, h⟩ := tx_iast (len := 16) (p' := 215) h em3_214 rfl rfl
                replace hb214 : (0 : Int) ≤ (t1 - (1 : Int32)).toInt ∧ (t1 - (1 : Int32)).toInt < 16 := hb214
                obtain ⟨n2, hn2, h⟩ := tx_gotoS (t := 12) h em3_215 (by decide)
                rw [et2] at h
                exact ⟨_, _, _, t1, et1, h⟩
              · replace c148 : ¬ ¬ (ω.1 10 p.toInt.toNat).toInt = 6 := c148
                replace h := tx_iinc (v := (-2)) (p' := 154) h em3_151 (by decide +kernel) rfl rfl
                replace h : eT xq_3 _ 154 [some (.inr (.inl (some 48))), some (.inl l), some (.inl (p + 1)), some (.inl (t + (-2))), some (.inl (ω.1 10 p.toInt.toNat)), some (.inl (ω.1 11 p.toInt.toNat))] [] ω r μ' := h
                have et2 : (t + -2).toInt = t.toInt - 2 := kb2 (by omega)
                obtain ⟨t2, ht2⟩ : ∃ z, z = t + -2 := ⟨_, rfl⟩
                rw [← ht2] at et2 h
                clear ht2
                replace h := tx_aload_n (p' := 155) h em3_154 rfl rfl
                replace h := tx_getc (c := 1) (j := 2) (p' := 158) h em3_155 ((congrFun xo_2 15).trans rfl) rfl rfl rfl
                replace h := tx_iload_n (p' := 159) h em3_158 rfl rfl
                obtain ⟨hb159, h⟩ := tx_iald (len := 16) (p' := 160) h em3_159 rfl rfl
                replace hb159 : (0 : Int) ≤ t2.toInt ∧ t2.toInt < 16 := hb159
                replace h := tx_aload_n (p' := 161) h em3_160 rfl rfl
                replace h := tx_getc (c := 1) (j := 2) (p' := 164) h em3_161 ((congrFun xo_2 15).trans rfl) rfl rfl rfl
                replace h := tx_iload_n (p' := 165) h em3_164 rfl rfl
                replace h := tx_iconst (v := 1) (p' := 166) h em3_165 (by decide +kernel) rfl
                replace h := tx_iadd (p' := 167) h em3_166 rfl
                obtain ⟨hb167, h⟩ := tx_iald (len := 16) (p' := 168) h em3_167 rfl rfl
                replace hb167 : (0 : Int) ≤ (t2 + (1 : Int32)).toInt ∧ (t2 + (1 : Int32)).toInt < 16 := hb167
                rcases tx_icmp (t := 175) (p' := 171) h em3_168 (by decide) rfl with ⟨c168, h⟩ | ⟨c168, h⟩
                · replace c168 : (ω.1 50 (t2 + (1 : Int32)).toInt.toNat).toInt ≤ (ω.1 50 t2.toInt.toNat).toInt := c168
                  replace h := tx_iload_n (p' := 176) h em3_175 rfl rfl
                  replace h := tx_iload (p' := 178) h em3_176 rfl rfl
                  replace h := tx_max (p' := 181) h em3_178 ((congrFun xo_2 48).trans rfl) rfl
                  replace h := tx_istore_n (p' := 182) h em3_181 rfl
                  replace h : eT xq_3 _ 182 [some (.inr (.inl (some 48))), some (.inl l), some (.inl (if (p + 1) < (ω.1 11 p.toInt.toNat) then (ω.1 11 p.toInt.toNat) else (p + 1))), some (.inl t2), some (.inl (ω.1 10 p.toInt.toNat)), some (.inl (ω.1 11 p.toInt.toNat))] [] ω r μ' := h
                  replace h := tx_goto (t := 215) h em3_182 (by decide)
                  obtain ⟨n2, hn2, h⟩ := tx_gotoS (t := 12) h em3_215 (by decide)
                  exfalso
                  omega
                · replace c168 : ¬ (ω.1 50 (t2 + (1 : Int32)).toInt.toNat).toInt ≤ (ω.1 50 t2.toInt.toNat).toInt := c168
                  replace h := tx_iload_n (p' := 172) h em3_171 rfl rfl
                  replace h := tx_goto (t := 181) h em3_172 (by decide)
                  replace h := tx_istore_n (p' := 182) h em3_181 rfl
                  replace h : eT xq_3 _ 182 [some (.inr (.inl (some 48))), some (.inl l), some (.inl (p + 1)), some (.inl t2), some (.inl (ω.1 10 p.toInt.toNat)), some (.inl (ω.1 11 p.toInt.toNat))] [] ω r μ' := h
                  replace h := tx_goto (t := 215) h em3_182 (by decide)
                  obtain ⟨n2, hn2, h⟩ := tx_gotoS (t := 12) h em3_215 (by decide)
                  exfalso
                  omega
            · replace c128 : ¬ ¬ (ω.1 10 p.toInt.toNat).toInt = 5 := c128
              replace h := tx_aload_n (p' := 132) h em3_131 rfl rfl
              replace h := tx_getc (c := 1) (j := 2) (p' := 135) h em3_132 ((congrFun xo_2 15).trans rfl) rfl rfl rfl
              replace h := tx_iload_n (p' := 136) h em3_135 rfl rfl
              replace h := tx_iconst (v := 1) (p' := 137) h em3_136 (by decide +kernel) rfl
              replace h := tx_isub (p' := 138) h em3_137 rfl
              obtain ⟨hb138, h⟩ := tx_iald (len := 16) (p' := 139) h em3_138 rfl rfl
              replace hb138 : (0 : Int) ≤ (t - (1 : Int32)).toInt ∧ (t - (1 : Int32)).toInt < 16 := hb138
              rcases tx_if (t := 144) (p' := 142) h em3_139 (by decide) rfl with ⟨c139, h⟩ | ⟨c139, h⟩
              · replace c139 : ¬ (ω.1 50 (t - (1 : Int32)).toInt.toNat).toInt = 0 := c139
                replace h := tx_iload (p' := 146) h em3_144 rfl rfl
                replace h := tx_bipush (v := 6) (p' := 148) h em3_146 (by decide +kernel) rfl
                rcases tx_icmp (t := 185) (p' := 151) h em3_148 (by decide) rfl with ⟨c148_1, h⟩ | ⟨c148_1, h⟩
                · replace c148_1 : ¬ (ω.1 10 p.toInt.toNat).toInt = 6 := c148_1
                  replace h := tx_iinc (v := (-1)) (p' := 188) h em3_185 (by decide +kernel) rfl rfl
                  replace h : eT xq_3 _ 188 [some (.inr (.inl (some 48))), some (.inl l), some (.inl (p + 1)), some (.inl (t + (-1))), some (.inl (ω.1 10 p.toInt.toNat)), some (.inl (ω.1 11 p.toInt.toNat))] [] ω r μ' := h
                  have et1 : (t + -1).toInt = t.toInt - 1 := ka1 (by omega)
                  obtain ⟨t1, ht1⟩ : ∃ z, z = t + -1 := ⟨_, rfl⟩
                  rw [← ht1] at et1 h
                  clear ht1
                  replace h := tx_aload_n (p' := 189) h em3_188 rfl rfl
                  replace h := tx_getc (c := 1) (j := 2) (p' := 192) h em3_189 ((congrFun xo_2 15).trans rfl) rfl rfl rfl
                  replace h := tx_iload_n (p' := 193) h em3_192 rfl rfl
                  replace h := tx_iconst (v := 1) (p' := 194) h em3_193 (by decide +kernel) rfl
                  replace h := tx_isub (p' := 195) h em3_194 rfl
                  replace h := tx_iload (p' := 197) h em3_195 rfl rfl
                  replace h := tx_aload_n (p' := 198) h em3_197 rfl rfl
                  replace h := tx_getc (c := 1) (j := 2) (p' := 201) h em3_198 ((congrFun xo_2 15).trans rfl) rfl rfl rfl
                  replace h := tx_iload_n (p' := 202) h em3_201 rfl rfl
                  replace h := tx_iconst (v := 1) (p' := 203) h em3_202 (by decide +kernel) rfl
                  replace h := tx_isub (p' := 204) h em3_203 rfl
                  obtain ⟨hb204_1, h⟩ := tx_iald (len := 16) (p' := 205) h em3_204 rfl rfl
                  replace hb204_1 : (0 : Int) ≤ (t1 - (1 : Int32)).toInt ∧ (t1 - (1 : Int32)).toInt < 16 := hb204_1
                  replace h := tx_aload_n (p' := 206) h em3_205 rfl rfl
                  replace h := tx_getc (c := 1) (j := 2) (p' := 209) h em3_206 ((congrFun xo_2 15).trans rfl) rfl rfl rfl
                  replace h := tx_iload_n (p' := 210) h em3_209 rfl rfl
                  obtain ⟨hb210_1, h⟩ := tx_iald (len := 16) (p' := 211) h em3_210 rfl rfl
                  replace hb210_1 : (0 : Int) ≤ t1.toInt ∧ t1.toInt < 16 := hb210_1
                  obtain ⟨r211_1, μ211_1, hE211_1, h⟩ := tx_invS (na := 3) (mn := 243) (as := [.inl (ω.1 10 p.toInt.toNat), .inl (ω.1 50 (t1 - (1 : Int32)).toInt.toNat), .inl (ω.1 50 t1.toInt.toNat)]) (rest := [.inl (t1 - (1 : Int32)), .inr (.inl (some 50))]) (p' := 214) h em3_211 ((congrFun xo_2 87).trans rfl) xm_243 rfl rfl
                  have et2 : (t1 - (1 : Int32)).toInt = t.toInt - 2 := by rw [an_sub (by rw [e1i]; omega) (by rw [e1i]; omega), e1i]; omega
                  rw [et2, et1] at hE211_1
                  obtain ⟨hm, rfl⟩ := ex_rck4 hE211_1 (by omega)
                  rw [hm] at h
                  replace h : eT xq_3 _ 214 [some (.inr (.inl (some 48))), some (.inl l), some (.inl (p + 1)), some (.inl t1), some (.inl (ω.1 10 p.toInt.toNat)), some (.inl (ω.1 11 p.toInt.toNat))] [.inl ((ω.1 50 (t.toInt - 2).toNat) * (ω.1 50 (t.toInt - 1).toNat)), .inl (t1 - (1 : Int32)), .inr (.inl (some 50))] ω r μ' := h
                  obtain ⟨hb214_1, h⟩ := tx_iast (len := 16) (p' := 215) h em3_214 rfl rfl
                  replace hb214_1 : (0 : Int) ≤ (t1 - (1 : Int32)).toInt ∧ (t1 - (1 : Int32)).toInt < 16 := hb214_1
                  obtain ⟨n2, hn2, h⟩ := tx_gotoS (t := 12) h em3_215 (by decide)
                  rw [et2] at h
                  exact ⟨_, _, _, t1, et1, h⟩
                · replace c148_1 : ¬ ¬ (ω.1 10 p.toInt.toNat).toInt = 6 := c148_1
                  replace h := tx_iinc (v := (-2)) (p' := 154) h em3_151 (by decide +kernel) rfl rfl
                  replace h : eT xq_3 _ 154 [some (.inr (.inl (some 48))), some (.inl l), some (.inl (p + 1)), some (.inl (t + (-2))), some (.inl (ω.1 10 p.toInt.toNat)), some (.inl (ω.1 11 p.toInt.toNat))] [] ω r μ' := h
                  have et2 : (t + -2).toInt = t.toInt - 2 := kb2 (by omega)
                  obtain ⟨t2, ht2⟩ : ∃ z, z = t + -2 := ⟨_, rfl⟩
                  rw [← ht2] at et2 h
                  clear ht2
                  replace h := tx_aload_n (p' := 155) h em3_154 rfl rfl
                  replace h := tx_getc (c := 1) (j := 2) (p' := 158) h em3_155 ((congrFun xo_2 15).trans rfl) rfl rfl rfl
                  replace h := tx_iload_n (p' := 159) h em3_158 rfl rfl
                  obtain ⟨hb159_1, h⟩ := tx_iald (len := 16) (p' := 160) h em3_159 rfl rfl
                  replace hb159_1 : (0 : Int) ≤ t2.toInt ∧ t2.toInt < 16 := hb159_1
                  replace h := tx_aload_n (p' := 161) h em3_160 rfl rfl
                  replace h := tx_getc (c := 1) (j := 2) (p' := 164) h em3_161 ((congrFun xo_2 15).trans rfl) rfl rfl rfl
                  replace h := tx_iload_n (p' := 165) h em3_164 rfl rfl
                  replace h := tx_iconst (v := 1) (p' := 166) h em3_165 (by decide +kernel) rfl
                  replace h := tx_iadd (p' := 167) h em3_166 rfl
                  obtain ⟨hb167_1, h⟩ := tx_iald (len := 16) (p' := 168) h em3_167 rfl rfl
                  replace hb167_1 : (0 : Int) ≤ (t2 + (1 : Int32)).toInt ∧ (t2 + (1 : Int32)).toInt < 16 := hb167_1
                  rcases tx_icmp (t := 175) (p' := 171) h em3_168 (by decide) rfl with ⟨c168_1, h⟩ | ⟨c168_1, h⟩
                  · replace c168_1 : (ω.1 50 (t2 + (1 : Int32)).toInt.toNat).toInt ≤ (ω.1 50 t2.toInt.toNat).toInt := c168_1
                    replace h := tx_iload_n (p' := 176) h em3_175 rfl rfl
                    replace h := tx_iload (p' := 178) h em3_176 rfl rfl
                    replace h := tx_max (p' := 181) h em3_178 ((congrFun xo_2 48).trans rfl) rfl
                    replace h := tx_istore_n (p' := 182) h em3_181 rfl
                    replace h : eT xq_3 _ 182 [some (.inr (.inl (some 48))), some (.inl l), some (.inl (if (p + 1) < (ω.1 11 p.toInt.toNat) then (ω.1 11 p.toInt.toNat) else (p + 1))), some (.inl t2), some (.inl (ω.1 10 p.toInt.toNat)), some (.inl (ω.1 11 p.toInt.toNat))] [] ω r μ' := h
                    replace h := tx_goto (t := 215) h em3_182 (by decide)
                    obtain ⟨n2, hn2, h⟩ := tx_gotoS (t := 12) h em3_215 (by decide)
                    exfalso
                    omega
                  · replace c168_1 : ¬ (ω.1 50 (t2 + (1 : Int32)).toInt.toNat).toInt ≤ (ω.1 50 t2.toInt.toNat).toInt := c168_1
                    replace h := tx_iload_n (p' := 172) h em3_171 rfl rfl
                    replace h := tx_goto (t := 181) h em3_172 (by decide)
                    replace h := tx_istore_n (p' := 182) h em3_181 rfl
                    replace h : eT xq_3 _ 182 [some (.inr (.inl (some 48))), some (.inl l), some (.inl (p + 1)), some (.inl t2), some (.inl (ω.1 10 p.toInt.toNat)), some (.inl (ω.1 11 p.toInt.toNat))] [] ω r μ' := h
                    replace h := tx_goto (t := 215) h em3_182 (by decide)
                    obtain ⟨n2, hn2, h⟩ := tx_gotoS (t := 12) h em3_215 (by decide)
                    exfalso
                    omega
              · replace c139 : ¬ ¬ (ω.1 50 (t - (1 : Int32)).toInt.toNat).toInt = 0 := c139
                replace h := tx_iconst (v := 0) (p' := 143) h em3_142 (by decide +kernel) rfl
                obtain ⟨rfl, hμ⟩ := tx_ireturn h em3_143
                exfalso
                omega
        · replace c100 : ¬ ¬ (ω.1 10 p.toInt.toNat).toInt = 7 := c100
          replace h := tx_iload_n (p' := 104) h em3_103 rfl rfl
          rcases tx_if (t := 118) (p' := 107) h em3_104 (by decide) rfl with ⟨c104, h⟩ | ⟨c104, h⟩
          · replace c104 : t.toInt ≤ 0 := c104
            replace h := tx_iconst (v := 0) (p' := 119) h em3_118 (by decide +kernel) rfl
            obtain ⟨rfl, hμ⟩ := tx_ireturn h em3_119
            exfalso
            omega
          · replace c104 : ¬ t.toInt ≤ 0 := c104
            replace h := tx_aload_n (p' := 108) h em3_107 rfl rfl
            replace h := tx_getc (c := 1) (j := 2) (p' := 111) h em3_108 ((congrFun xo_2 15).trans rfl) rfl rfl rfl
            replace h := tx_iload_n (p' := 112) h em3_111 rfl rfl
            replace h := tx_iconst (v := 1) (p' := 113) h em3_112 (by decide +kernel) rfl
            replace h := tx_isub (p' := 114) h em3_113 rfl
            obtain ⟨hb114, h⟩ := tx_iald (len := 16) (p' := 115) h em3_114 rfl rfl
            replace hb114 : (0 : Int) ≤ (t - (1 : Int32)).toInt ∧ (t - (1 : Int32)).toInt < 16 := hb114
            replace h := tx_goto (t := 119) h em3_115 (by decide)
            obtain ⟨rfl, hμ⟩ := tx_ireturn h em3_119
            exfalso
            omega
      · replace c56 : ¬ ¬ (ω.1 10 p.toInt.toNat).toInt = 1 := c56
        replace h := tx_iload_n (p' := 60) h em3_59 rfl rfl
        replace h := tx_bipush (v := 16) (p' := 62) h em3_60 (by decide +kernel) rfl
        rcases tx_icmp (t := 67) (p' := 65) h em3_62 (by decide) rfl with ⟨c62_1, h⟩ | ⟨c62_1, h⟩
        · replace c62_1 : t.toInt < 16 := c62_1
          replace h := tx_aload_n (p' := 68) h em3_67 rfl rfl
          replace h := tx_getc (c := 1) (j := 2) (p' := 71) h em3_68 ((congrFun xo_2 15).trans rfl) rfl rfl rfl
          replace h := tx_iload_n (p' := 72) h em3_71 rfl rfl
          replace h := tx_iload (p' := 74) h em3_72 rfl rfl
          rcases tx_if (t := 82) (p' := 77) h em3_74 (by decide) rfl with ⟨c74_1, h⟩ | ⟨c74_1, h⟩
          · replace c74_1 : ¬ (ω.1 10 p.toInt.toNat).toInt = 0 := c74_1
            replace h := tx_aload_n (p' := 83) h em3_82 rfl rfl
            replace h := tx_getc (c := 1) (j := 1) (p' := 86) h em3_83 ((congrFun xo_2 11).trans rfl) rfl rfl rfl
            replace h := tx_iload (p' := 88) h em3_86 rfl rfl
            obtain ⟨hb88_1, h⟩ := tx_iald (len := 9) (p' := 89) h em3_88 rfl rfl
            replace hb88_1 : (0 : Int) ≤ (ω.1 11 p.toInt.toNat).toInt ∧ (ω.1 11 p.toInt.toNat).toInt < 9 := hb88_1
            obtain ⟨hb89_2, h⟩ := tx_iast (len := 16) (p' := 90) h em3_89 rfl rfl
            replace hb89_2 : (0 : Int) ≤ t.toInt ∧ t.toInt < 16 := hb89_2
            replace h := tx_iinc (v := 1) (p' := 93) h em3_90 (by decide +kernel) rfl rfl
            replace h : eT xq_3 _ 93 [some (.inr (.inl (some 48))), some (.inl l), some (.inl (p + 1)), some (.inl (t + 1)), some (.inl (ω.1 10 p.toInt.toNat)), some (.inl (ω.1 11 p.toInt.toNat))] [] (xpi ω 50 t.toInt.toNat (ω.1 49 (ω.1 11 p.toInt.toNat).toInt.toNat)) r μ' := h
            replace h := tx_goto (t := 215) h em3_93 (by decide)
            obtain ⟨n2, hn2, h⟩ := tx_gotoS (t := 12) h em3_215 (by decide)
            exfalso
            omega
          · replace c74_1 : ¬ ¬ (ω.1 10 p.toInt.toNat).toInt = 0 := c74_1
            replace h := tx_iload (p' := 79) h em3_77 rfl rfl
            replace h := tx_goto (t := 89) h em3_79 (by decide)
            obtain ⟨hb89_3, h⟩ := tx_iast (len := 16) (p' := 90) h em3_89 rfl rfl
            replace hb89_3 : (0 : Int) ≤ t.toInt ∧ t.toInt < 16 := hb89_3
            replace h := tx_iinc (v := 1) (p' := 93) h em3_90 (by decide +kernel) rfl rfl
            replace h : eT xq_3 _ 93 [some (.inr (.inl (some 48))), some (.inl l), some (.inl (p + 1)), some (.inl (t + 1)), some (.inl (ω.1 10 p.toInt.toNat)), some (.inl (ω.1 11 p.toInt.toNat))] [] (xpi ω 50 t.toInt.toNat (ω.1 11 p.toInt.toNat)) r μ' := h
            replace h := tx_goto (t := 215) h em3_93 (by decide)
            obtain ⟨n2, hn2, h⟩ := tx_gotoS (t := 12) h em3_215 (by decide)
            exfalso
            omega
        · replace c62_1 : ¬ t.toInt < 16 := c62_1
          replace h := tx_iconst (v := 0) (p' := 66) h em3_65 (by decide +kernel) rfl
          obtain ⟨rfl, hμ⟩ := tx_ireturn h em3_66
          exfalso
          omega
set_option maxRecDepth 10000 in
set_option maxHeartbeats 4000000 in
theorem jd_op5 {n : Nat} {l p t : Int32} {o4 o5 : Option zV} {ω μ' : xM} {r : Option zV} (h : eT xq_3 n 12 [some (.inr (.inl (some 48))), some (.inl l), some (.inl p), some (.inl t), o4, o5] [] ω r μ') (hp : p.toInt < (ω.1 2 14).toInt) (hq : 0 ≤ p.toInt) (ho : (ω.1 10 p.toInt.toNat).toInt = 5) (ht : 2 ≤ t.toInt) (ht6 : t.toInt ≤ 16) (hz : ¬ (ω.1 50 (t.toInt - 1).toNat) = 0) : ∃ n' o4' o5' t1, t1.toInt = t.toInt - 1 ∧ eT xq_3 n' 12 [some (.inr (.inl (some 48))), some (.inl l), some (.inl (p + 1)), some (.inl t1), o4', o5'] [] (xpi ω 50 (t.toInt - 2).toNat ((ω.1 50 (t.toInt - 2).toNat) / (ω.1 50 (t.toInt - 1).toNat))) r μ' := by
  have e1i : (1 : Int32).toInt = 1 := by decide
  have eta : (t - (1 : Int32)).toInt = t.toInt - 1 := by rw [an_sub (by rw [e1i]; omega) (by rw [e1i]; have := an_hi t; omega), e1i]
  replace h := tx_iload_n (p' := 13) h em3_12 rfl rfl
  replace h := tx_aload_n (p' := 14) h em3_13 rfl rfl
  replace h := tx_getc (c := 1) (j := 0) (p' := 17) h em3_14 ((congrFun xo_2 18).trans rfl) rfl rfl rfl
  replace h := tx_getf (c := 6) (j := 14) (p' := 20) h em3_17 ((congrFun xo_2 78).trans rfl) rfl rfl (by decide) rfl
  rcases tx_icmp (t := 218) (p' := 23) h em3_20 (by decide) rfl with ⟨c20, h⟩ | ⟨c20, h⟩
  · replace c20 : (ω.1 2 14).toInt ≤ p.toInt := c20
    replace h := tx_iconst (v := 0) (p' := 219) h em3_218 (by decide +kernel) rfl
    obtain ⟨rfl, hμ⟩ := tx_ireturn h em3_219
    exfalso
    omega
  · replace c20 : ¬ (ω.1 2 14).toInt ≤ p.toInt := c20
    replace h := tx_aload_n (p' := 24) h em3_23 rfl rfl
    replace h := tx_getc (c := 1) (j := 0) (p' := 27) h em3_24 ((congrFun xo_2 18).trans rfl) rfl rfl rfl
    replace h := tx_getc (c := 6) (j := 12) (p' := 30) h em3_27 ((congrFun xo_2 81).trans rfl) rfl rfl rfl
    replace h := tx_iload_n (p' := 31) h em3_30 rfl rfl
    obtain ⟨hb31, h⟩ := tx_iald (len := 408) (p' := 32) h em3_31 rfl rfl
    replace hb31 : (0 : Int) ≤ p.toInt ∧ p.toInt < 408 := hb31
    replace h := tx_istore (p' := 34) h em3_32 rfl
    replace h : eT xq_3 _ 34 [some (.inr (.inl (some 48))), some (.inl l), some (.inl p), some (.inl t), some (.inl (ω.1 10 p.toInt.toNat)), o5] [] ω r μ' := h
    replace h := tx_aload_n (p' := 35) h em3_34 rfl rfl
    replace h := tx_getc (c := 1) (j := 0) (p' := 38) h em3_35 ((congrFun xo_2 18).trans rfl) rfl rfl rfl
    replace h := tx_getc (c := 6) (j := 13) (p' := 41) h em3_38 ((congrFun xo_2 84).trans rfl) rfl rfl rfl
    replace h := tx_iload_n (p' := 42) h em3_41 rfl rfl
    obtain ⟨hb42, h⟩ := tx_iald (len := 408) (p' := 43) h em3_42 rfl rfl
    replace hb42 : (0 : Int) ≤ p.toInt ∧ p.toInt < 408 := hb42
    replace h := tx_istore (p' := 45) h em3_43 rfl
    replace h : eT xq_3 _ 45 [some (.inr (.inl (some 48))), some (.inl l), some (.inl p), some (.inl t), some (.inl (ω.1 10 p.toInt.toNat)), some (.inl (ω.1 11 p.toInt.toNat))] [] ω r μ' := h
    replace h := tx_iinc (v := 1) (p' := 48) h em3_45 (by decide +kernel) rfl rfl
    replace h : eT xq_3 _ 48 [some (.inr (.inl (some 48))), some (.inl l), some (.inl (p + 1)), some (.inl t), some (.inl (ω.1 10 p.toInt.toNat)), some (.inl (ω.1 11 p.toInt.toNat))] [] ω r μ' := h
    replace h := tx_iload (p' := 50) h em3_48 rfl rfl
    rcases tx_if (t := 59) (p' := 53) h em3_50 (by decide) rfl with ⟨c50, h⟩ | ⟨c50, h⟩
    · replace c50 : (ω.1 10 p.toInt.toNat).toInt = 0 := c50
      replace h := tx_iload_n (p' := 60) h em3_59 rfl rfl
      replace h := tx_bipush (v := 16) (p' := 62) h em3_60 (by decide +kernel) rfl
      rcases tx_icmp (t := 67) (p' := 65) h em3_62 (by decide) rfl with ⟨c62, h⟩ | ⟨c62, h⟩
      · replace c62 : t.toInt < 16 := c62
        replace h := tx_aload_n (p' := 68) h em3_67 rfl rfl
        replace h := tx_getc (c := 1) (j := 2) (p' := 71) h em3_68 ((congrFun xo_2 15).trans rfl) rfl rfl rfl
        replace h := tx_iload_n (p' := 72) h em3_71 rfl rfl
        replace h := tx_iload (p' := 74) h em3_72 rfl rfl
        rcases tx_if (t := 82) (p' := 77) h em3_74 (by decide) rfl with ⟨c74, h⟩ | ⟨c74, h⟩
        · replace c74 : ¬ (ω.1 10 p.toInt.toNat).toInt = 0 := c74
          replace h := tx_aload_n (p' := 83) h em3_82 rfl rfl
          replace h := tx_getc (c := 1) (j := 1) (p' := 86) h em3_83 ((congrFun xo_2 11).trans rfl) rfl rfl rfl
          replace h := tx_iload (p' := 88) h em3_86 rfl rfl
          obtain ⟨hb88, h⟩ := tx_iald (len := 9) (p' := 89) h em3_88 rfl rfl
          replace hb88 : (0 : Int) ≤ (ω.1 11 p.toInt.toNat).toInt ∧ (ω.1 11 p.toInt.toNat).toInt < 9 := hb88
          obtain ⟨hb89, h⟩ := tx_iast (len := 16) (p' := 90) h em3_89 rfl rfl
          replace hb89 : (0 : Int) ≤ t.toInt ∧ t.toInt < 16 := hb89
          replace h := tx_iinc (v := 1) (p' := 93) h em3_90 (by decide +kernel) rfl rfl
          replace h : eT xq_3 _ 93 [some (.inr (.inl (some 48))), some (.inl l), some (.inl (p + 1)), some (.inl (t + 1)), some (.inl (ω.1 10 p.toInt.toNat)), some (.inl (ω.1 11 p.toInt.toNat))] [] (xpi ω 50 t.toInt.toNat (ω.1 49 (ω.1 11 p.toInt.toNat).toInt.toNat)) r μ' := h
          replace h := tx_goto (t := 215) h em3_93 (by decide)
          obtain ⟨n2, hn2, h⟩ := tx_gotoS (t := 12) h em3_215 (by decide)
          exfalso
          omega
        · replace c74 : ¬ ¬ (ω.1 10 p.toInt.toNat).toInt = 0 := c74
          replace h := tx_iload (p' := 79) h em3_77 rfl rfl
          replace h := tx_goto (t := 89) h em3_79 (by decide)
          obtain ⟨hb89_1, h⟩ := tx_iast (len := 16) (p' := 90) h em3_89 rfl rfl
          replace hb89_1 : (0 : Int) ≤ t.toInt ∧ t.toInt < 16 := hb89_1
          replace h := tx_iinc (v := 1) (p' := 93) h em3_90 (by decide +kernel) rfl rfl
          replace h : eT xq_3 _ 93 [some (.inr (.inl (some 48))), some (.inl l), some (.inl (p + 1)), some (.inl (t + 1)), some (.inl (ω.1 10 p.toInt.toNat)), some (.inl (ω.1 11 p.toInt.toNat))] [] (xpi ω 50 t.toInt.toNat (ω.1 11 p.toInt.toNat)) r μ' := h
          replace h := tx_goto (t := 215) h em3_93 (by decide)
          obtain ⟨n2, hn2, h⟩ := tx_gotoS (t := 12) h em3_215 (by decide)
          exfalso
          omega
      · replace c62 : ¬ t.toInt < 16 := c62
        replace h := tx_iconst (v := 0) (p' := 66) h em3_65 (by decide +kernel) rfl
        obtain ⟨rfl, hμ⟩ := tx_ireturn h em3_66
        exfalso
        omega
    · replace c50 : ¬ (ω.1 10 p.toInt.toNat).toInt = 0 := c50
      replace h := tx_iload (p' := 55) h em3_53 rfl rfl
      replace h := tx_iconst (v := 1) (p' := 56) h em3_55 (by decide +kernel) rfl
      rcases tx_icmp (t := 96) (p' := 59) h em3_56 (by decide) rfl with ⟨c56, h⟩ | ⟨c56, h⟩
      · replace c56 : ¬ (ω.1 10 p.toInt.toNat).toInt = 1 := c56
        replace h := tx_iload (p' := 98) h em3_96 rfl rfl
        replace h := tx_bipush (v := 7) (p' := 100) h em3_98 (by decide +kernel) rfl
        rcases tx_icmp (t := 120) (p' := 103) h em3_100 (by decide) rfl with ⟨c100, h⟩ | ⟨c100, h⟩
        · replace c100 : ¬ (ω.1 10 p.toInt.toNat).toInt = 7 := c100
          replace h := tx_iload_n (p' := 121) h em3_120 rfl rfl
          replace h := tx_iconst (v := 2) (p' := 122) h em3_121 (by decide +kernel) rfl
          rcases tx_icmp (t := 142) (p' := 125) h em3_122 (by decide) rfl with ⟨c122, h⟩ | ⟨c122, h⟩
          · replace c122 : t.toInt < 2 := c122
            replace h := tx_iconst (v := 0) (p' := 143) h em3_142 (by decide +kernel) rfl
            obtain ⟨rfl, hμ⟩ := tx_ireturn h em3_143
            exfalso
            omega
          · replace c122 : ¬ t.toInt < 2 := c122
            replace h := tx_iload (p' := 127) h em3_125 rfl rfl
            replace h := tx_iconst (v := 5) (p' := 128) h em3_127 (by decide +kernel) rfl
            rcases tx_icmp (t := 144) (p' := 131) h em3_128 (by decide) rfl with ⟨c128, h⟩ | ⟨c128, h⟩
            · replace c128 : ¬ (ω.1 10 p.toInt.toNat).toInt = 5 := c128
              replace h := tx_iload (p' := 146) h em3_144 rfl rfl
              replace h := tx_bipush (v := 6) (p' := 148) h em3_146 (by decide +kernel) rfl
              rcases tx_icmp (t := 185) (p' := 151) h em3_148 (by decide) rfl with ⟨c148, h⟩ | ⟨c148, h⟩
              · replace c148 : ¬ (ω.1 10 p.toInt.toNat).toInt = 6 := c148
                replace h := tx_iinc (v := (-1)) (p' := 188) h em3_185 (by decide +kernel) rfl rfl
                replace h : eT xq_3 _ 188 [some (.inr (.inl (some 48))), some (.inl l), some (.inl (p + 1)), some (.inl (t + (-1))), some (.inl (ω.1 10 p.toInt.toNat)), some (.inl (ω.1 11 p.toInt.toNat))] [] ω r μ' := h
                have et1 : (t + -1).toInt = t.toInt - 1 := ka1 (by omega)
                obtain ⟨t1, ht1⟩ : ∃ z, z = t + -1 := ⟨_, rfl⟩
                rw [← ht1] at et1 h
                clear ht1
                replace h := tx_aload_n (p' := 189) h em3_188 rfl rfl
                replace h := tx_getc (c := 1) (j := 2) (p' := 192) h em3_189 ((congrFun xo_2 15).trans rfl) rfl rfl rfl
                replace h := tx_iload_n (p' := 193) h em3_192 rfl rfl
                replace h := tx_iconst (v := 1) (p' := 194) h em3_193 (by decide +kernel) rfl
                replace h := tx_isub (p' := 195) h em3_194 rfl
                replace h := tx_iload (p' := 197) h em3_195 rfl rfl
                replace h := tx_aload_n (p' := 198) h em3_197 rfl rfl
                replace h := tx_getc (c := 1) (j := 2) (p' := 201) h em3_198 ((congrFun xo_2 15).trans rfl) rfl rfl rfl
                replace h := tx_iload_n (p' := 202) h em3_201 rfl rfl
                replace h := tx_iconst (v := 1) (p' := 203) h em3_202 (by decide +kernel) rfl
                replace h := tx_isub (p' := 204) h em3_203 rfl
                obtain ⟨hb204, h⟩ := tx_iald (len := 16) (p' := 205) h em3_204 rfl rfl
                replace hb204 : (0 : Int) ≤ (t1 - (1 : Int32)).toInt ∧ (t1 - (1 : Int32)).toInt < 16 := hb204
                replace h := tx_aload_n (p' := 206) h em3_205 rfl rfl
                replace h := tx_getc (c := 1) (j := 2) (p' := 209) h em3_206 ((congrFun xo_2 15).trans rfl) rfl rfl rfl
                replace h := tx_iload_n (p' := 210) h em3_209 rfl rfl
                obtain ⟨hb210, h⟩ := tx_iald (len := 16) (p' := 211) h em3_210 rfl rfl
                replace hb210 : (0 : Int) ≤ t1.toInt ∧ t1.toInt < 16 := hb210
                obtain ⟨r211, μ211, hE211, h⟩ := tx_invS (na := 3) (mn := 243) (as := [.inl (ω.1 10 p.toInt.toNat), .inl (ω.1 50 (t1 - (1 : Int32)).toInt.toNat), .inl (ω.1 50 t1.toInt.toNat)]) (rest := [.inl (t1 - (1 : Int32)), .inr (.inl (some 50))]) (p' := 214) h em3_211 ((congrFun xo_2 87).trans rfl) xm_243 rfl rfl
                have et2 : (t1 - (1 : Int32)).toInt = t.toInt - 2 := by rw [an_sub (by rw [e1i]; omega) (by rw [e1i]; omega), e1i]; omega
                rw [et2, et1] at hE211
                obtain ⟨hm, rfl⟩ := ex_rck5 hE211 (by omega) hz
                rw [hm] at h
                replace h : eT xq_3 _ 214 [some (.inr (.inl (some 48))), some (.inl l), some (.inl (p + 1)), some (.inl t1), some (.inl (ω.1 10 p.toInt.toNat)), some (.inl (ω.1 11 p.toInt.toNat))] [.inl ((ω.1 50 (t.toInt - 2).toNat) / (ω.1 50 (t.toInt - 1).toNat)), .inl (t1 - (1 : Int32)), .inr (.inl (some 50))] ω r μ' := h
                obtain ⟨hb214, h⟩ := tx_iast (len := 16) (p' := 215) h em3_214 rfl rfl
                replace hb214 : (0 : Int) ≤ (t1 - (1 : Int32)).toInt ∧ (t1 - (1 : Int32)).toInt < 16 := hb214
                obtain ⟨n2, hn2, h⟩ := tx_gotoS (t := 12) h em3_215 (by decide)
                rw [et2] at h
                exact ⟨_, _, _, t1, et1, h⟩
              · replace c148 : ¬ ¬ (ω.1 10 p.toInt.toNat).toInt = 6 := c148
                replace h := tx_iinc (v := (-2)) (p' := 154) h em3_151 (by decide +kernel) rfl rfl
                replace h : eT xq_3 _ 154 [some (.inr (.inl (some 48))), some (.inl l), some (.inl (p + 1)), some (.inl (t + (-2))), some (.inl (ω.1 10 p.toInt.toNat)), some (.inl (ω.1 11 p.toInt.toNat))] [] ω r μ' := h
                have et2 : (t + -2).toInt = t.toInt - 2 := kb2 (by omega)
                obtain ⟨t2, ht2⟩ : ∃ z, z = t + -2 := ⟨_, rfl⟩
                rw [← ht2] at et2 h
                clear ht2
                replace h := tx_aload_n (p' := 155) h em3_154 rfl rfl
                replace h := tx_getc (c := 1) (j := 2) (p' := 158) h em3_155 ((congrFun xo_2 15).trans rfl) rfl rfl rfl
                replace h := tx_iload_n (p' := 159) h em3_158 rfl rfl
                obtain ⟨hb159, h⟩ := tx_iald (len := 16) (p' := 160) h em3_159 rfl rfl
                replace hb159 : (0 : Int) ≤ t2.toInt ∧ t2.toInt < 16 := hb159
                replace h := tx_aload_n (p' := 161) h em3_160 rfl rfl
                replace h := tx_getc (c := 1) (j := 2) (p' := 164) h em3_161 ((congrFun xo_2 15).trans rfl) rfl rfl rfl
                replace h := tx_iload_n (p' := 165) h em3_164 rfl rfl
                replace h := tx_iconst (v := 1) (p' := 166) h em3_165 (by decide +kernel) rfl
                replace h := tx_iadd (p' := 167) h em3_166 rfl
                obtain ⟨hb167, h⟩ := tx_iald (len := 16) (p' := 168) h em3_167 rfl rfl
                replace hb167 : (0 : Int) ≤ (t2 + (1 : Int32)).toInt ∧ (t2 + (1 : Int32)).toInt < 16 := hb167
                rcases tx_icmp (t := 175) (p' := 171) h em3_168 (by decide) rfl with ⟨c168, h⟩ | ⟨c168, h⟩
                · replace c168 : (ω.1 50 (t2 + (1 : Int32)).toInt.toNat).toInt ≤ (ω.1 50 t2.toInt.toNat).toInt := c168
                  replace h := tx_iload_n (p' := 176) h em3_175 rfl rfl
                  replace h := tx_iload (p' := 178) h em3_176 rfl rfl
                  replace h := tx_max (p' := 181) h em3_178 ((congrFun xo_2 48).trans rfl) rfl
                  replace h := tx_istore_n (p' := 182) h em3_181 rfl
                  replace h : eT xq_3 _ 182 [some (.inr (.inl (some 48))), some (.inl l), some (.inl (if (p + 1) < (ω.1 11 p.toInt.toNat) then (ω.1 11 p.toInt.toNat) else (p + 1))), some (.inl t2), some (.inl (ω.1 10 p.toInt.toNat)), some (.inl (ω.1 11 p.toInt.toNat))] [] ω r μ' := h
                  replace h := tx_goto (t := 215) h em3_182 (by decide)
                  obtain ⟨n2, hn2, h⟩ := tx_gotoS (t := 12) h em3_215 (by decide)
                  exfalso
                  omega
                · replace c168 : ¬ (ω.1 50 (t2 + (1 : Int32)).toInt.toNat).toInt ≤ (ω.1 50 t2.toInt.toNat).toInt := c168
                  replace h := tx_iload_n (p' := 172) h em3_171 rfl rfl
                  replace h := tx_goto (t := 181) h em3_172 (by decide)
                  replace h := tx_istore_n (p' := 182) h em3_181 rfl
                  replace h : eT xq_3 _ 182 [some (.inr (.inl (some 48))), some (.inl l), some (.inl (p + 1)), some (.inl t2), some (.inl (ω.1 10 p.toInt.toNat)), some (.inl (ω.1 11 p.toInt.toNat))] [] ω r μ' := h
                  replace h := tx_goto (t := 215) h em3_182 (by decide)
                  obtain ⟨n2, hn2, h⟩ := tx_gotoS (t := 12) h em3_215 (by decide)
                  exfalso
                  omega
            · replace c128 : ¬ ¬ (ω.1 10 p.toInt.toNat).toInt = 5 := c128
              replace h := tx_aload_n (p' := 132) h em3_131 rfl rfl
              replace h := tx_getc (c := 1) (j := 2) (p' := 135) h em3_132 ((congrFun xo_2 15).trans rfl) rfl rfl rfl
              replace h := tx_iload_n (p' := 136) h em3_135 rfl rfl
              replace h := tx_iconst (v := 1) (p' := 137) h em3_136 (by decide +kernel) rfl
              replace h := tx_isub (p' := 138) h em3_137 rfl
              obtain ⟨hb138, h⟩ := tx_iald (len := 16) (p' := 139) h em3_138 rfl rfl
              replace hb138 : (0 : Int) ≤ (t - (1 : Int32)).toInt ∧ (t - (1 : Int32)).toInt < 16 := hb138
              rcases tx_if (t := 144) (p' := 142) h em3_139 (by decide) rfl with ⟨c139, h⟩ | ⟨c139, h⟩
              · replace c139 : ¬ (ω.1 50 (t - (1 : Int32)).toInt.toNat).toInt = 0 := c139
                replace h := tx_iload (p' := 146) h em3_144 rfl rfl
                replace h := tx_bipush (v := 6) (p' := 148) h em3_146 (by decide +kernel) rfl
                rcases tx_icmp (t := 185) (p' := 151) h em3_148 (by decide) rfl with ⟨c148_1, h⟩ | ⟨c148_1, h⟩
                · replace c148_1 : ¬ (ω.1 10 p.toInt.toNat).toInt = 6 := c148_1
                  replace h := tx_iinc (v := (-1)) (p' := 188) h em3_185 (by decide +kernel) rfl rfl
                  replace h : eT xq_3 _ 188 [some (.inr (.inl (some 48))), some (.inl l), some (.inl (p + 1)), some (.inl (t + (-1))), some (.inl (ω.1 10 p.toInt.toNat)), some (.inl (ω.1 11 p.toInt.toNat))] [] ω r μ' := h
                  have et1 : (t + -1).toInt = t.toInt - 1 := ka1 (by omega)
                  obtain ⟨t1, ht1⟩ : ∃ z, z = t + -1 := ⟨_, rfl⟩
                  rw [← ht1] at et1 h
                  clear ht1
                  replace h := tx_aload_n (p' := 189) h em3_188 rfl rfl
                  replace h := tx_getc (c := 1) (j := 2) (p' := 192) h em3_189 ((congrFun xo_2 15).trans rfl) rfl rfl rfl
                  replace h := tx_iload_n (p' := 193) h em3_192 rfl rfl
                  replace h := tx_iconst (v := 1) (p' := 194) h em3_193 (by decide +kernel) rfl
                  replace h := tx_isub (p' := 195) h em3_194 rfl
                  replace h := tx_iload (p' := 197) h em3_195 rfl rfl
                  replace h := tx_aload_n (p' := 198) h em3_197 rfl rfl
                  replace h := tx_getc (c := 1) (j := 2) (p' := 201) h em3_198 ((congrFun xo_2 15).trans rfl) rfl rfl rfl
                  replace h := tx_iload_n (p' := 202) h em3_201 rfl rfl
                  replace h := tx_iconst (v := 1) (p' := 203) h em3_202 (by decide +kernel) rfl
                  replace h := tx_isub (p' := 204) h em3_203 rfl
                  obtain ⟨hb204_1, h⟩ := tx_iald (len := 16) (p' := 205) h em3_204 rfl rfl
                  replace hb204_1 : (0 : Int) ≤ (t1 - (1 : Int32)).toInt ∧ (t1 - (1 : Int32)).toInt < 16 := hb204_1
                  replace h := tx_aload_n (p' := 206) h em3_205 rfl rfl
                  replace h := tx_getc (c := 1) (j := 2) (p' := 209) h em3_206 ((congrFun xo_2 15).trans rfl) rfl rfl rfl
                  replace h := tx_iload_n (p' := 210) h em3_209 rfl rfl
                  obtain ⟨hb210_1, h⟩ := tx_iald (len := 16) (p' := 211) h em3_210 rfl rfl
                  replace hb210_1 : (0 : Int) ≤ t1.toInt ∧ t1.toInt < 16 := hb210_1
                  obtain ⟨r211_1, μ211_1, hE211_1, h⟩ := tx_invS (na := 3) (mn := 243) (as := [.inl (ω.1 10 p.toInt.toNat), .inl (ω.1 50 (t1 - (1 : Int32)).toInt.toNat), .inl (ω.1 50 t1.toInt.toNat)]) (rest := [.inl (t1 - (1 : Int32)), .inr (.inl (some 50))]) (p' := 214) h em3_211 ((congrFun xo_2 87).trans rfl) xm_243 rfl rfl
                  have et2 : (t1 - (1 : Int32)).toInt = t.toInt - 2 := by rw [an_sub (by rw [e1i]; omega) (by rw [e1i]; omega), e1i]; omega
                  rw [et2, et1] at hE211_1
                  obtain ⟨hm, rfl⟩ := ex_rck5 hE211_1 (by omega) hz
                  rw [hm] at h
                  replace h : eT xq_3 _ 214 [some (.inr (.inl (some 48))), some (.inl l), some (.inl (p + 1)), some (.inl t1), some (.inl (ω.1 10 p.toInt.toNat)), some (.inl (ω.1 11 p.toInt.toNat))] [.inl ((ω.1 50 (t.toInt - 2).toNat) / (ω.1 50 (t.toInt - 1).toNat)), .inl (t1 - (1 : Int32)), .inr (.inl (some 50))] ω r μ' := h
                  obtain ⟨hb214_1, h⟩ := tx_iast (len := 16) (p' := 215) h em3_214 rfl rfl
                  replace hb214_1 : (0 : Int) ≤ (t1 - (1 : Int32)).toInt ∧ (t1 - (1 : Int32)).toInt < 16 := hb214_1
                  obtain ⟨n2, hn2, h⟩ := tx_gotoS (t := 12) h em3_215 (by decide)
                  rw [et2] at h
                  exact ⟨_, _, _, t1, et1, h⟩
                · replace c148_1 : ¬ ¬ (ω.1 10 p.toInt.toNat).toInt = 6 := c148_1
                  replace h := tx_iinc (v := (-2)) (p' := 154) h em3_151 (by decide +kernel) rfl rfl
                  replace h : eT xq_3 _ 154 [some (.inr (.inl (some 48))), some (.inl l), some (.inl (p + 1)), some (.inl (t + (-2))), some (.inl (ω.1 10 p.toInt.toNat)), some (.inl (ω.1 11 p.toInt.toNat))] [] ω r μ' := h
                  have et2 : (t + -2).toInt = t.toInt - 2 := kb2 (by omega)
                  obtain ⟨t2, ht2⟩ : ∃ z, z = t + -2 := ⟨_, rfl⟩
                  rw [← ht2] at et2 h
                  clear ht2
                  replace h := tx_aload_n (p' := 155) h em3_154 rfl rfl
                  replace h := tx_getc (c := 1) (j := 2) (p' := 158) h em3_155 ((congrFun xo_2 15).trans rfl) rfl rfl rfl
                  replace h := tx_iload_n (p' := 159) h em3_158 rfl rfl
                  obtain ⟨hb159_1, h⟩ := tx_iald (len := 16) (p' := 160) h em3_159 rfl rfl
                  replace hb159_1 : (0 : Int) ≤ t2.toInt ∧ t2.toInt < 16 := hb159_1
                  replace h := tx_aload_n (p' := 161) h em3_160 rfl rfl
                  replace h := tx_getc (c := 1) (j := 2) (p' := 164) h em3_161 ((congrFun xo_2 15).trans rfl) rfl rfl rfl
                  replace h := tx_iload_n (p' := 165) h em3_164 rfl rfl
                  replace h := tx_iconst (v := 1) (p' := 166) h em3_165 (by decide +kernel) rfl
                  replace h := tx_iadd (p' := 167) h em3_166 rfl
                  obtain ⟨hb167_1, h⟩ := tx_iald (len := 16) (p' := 168) h em3_167 rfl rfl
                  replace hb167_1 : (0 : Int) ≤ (t2 + (1 : Int32)).toInt ∧ (t2 + (1 : Int32)).toInt < 16 := hb167_1
                  rcases tx_icmp (t := 175) (p' := 171) h em3_168 (by decide) rfl with ⟨c168_1, h⟩ | ⟨c168_1, h⟩
                  · replace c168_1 : (ω.1 50 (t2 + (1 : Int32)).toInt.toNat).toInt ≤ (ω.1 50 t2.toInt.toNat).toInt := c168_1
                    replace h := tx_iload_n (p' := 176) h em3_175 rfl rfl
                    replace h := tx_iload (p' := 178) h em3_176 rfl rfl
                    replace h := tx_max (p' := 181) h em3_178 ((congrFun xo_2 48).trans rfl) rfl
                    replace h := tx_istore_n (p' := 182) h em3_181 rfl
                    replace h : eT xq_3 _ 182 [some (.inr (.inl (some 48))), some (.inl l), some (.inl (if (p + 1) < (ω.1 11 p.toInt.toNat) then (ω.1 11 p.toInt.toNat) else (p + 1))), some (.inl t2), some (.inl (ω.1 10 p.toInt.toNat)), some (.inl (ω.1 11 p.toInt.toNat))] [] ω r μ' := h
                    replace h := tx_goto (t := 215) h em3_182 (by decide)
                    obtain ⟨n2, hn2, h⟩ := tx_gotoS (t := 12) h em3_215 (by decide)
                    exfalso
                    omega
                  · replace c168_1 : ¬ (ω.1 50 (t2 + (1 : Int32)).toInt.toNat).toInt ≤ (ω.1 50 t2.toInt.toNat).toInt := c168_1
                    replace h := tx_iload_n (p' := 172) h em3_171 rfl rfl
                    replace h := tx_goto (t := 181) h em3_172 (by decide)
                    replace h := tx_istore_n (p' := 182) h em3_181 rfl
                    replace h : eT xq_3 _ 182 [some (.inr (.inl (some 48))), some (.inl l), some (.inl (p + 1)), some (.inl t2), some (.inl (ω.1 10 p.toInt.toNat)), some (.inl (ω.1 11 p.toInt.toNat))] [] ω r μ' := h
                    replace h := tx_goto (t := 215) h em3_182 (by decide)
                    obtain ⟨n2, hn2, h⟩ := tx_gotoS (t := 12) h em3_215 (by decide)
                    exfalso
                    omega
              · replace c139 : ¬ ¬ (ω.1 50 (t - (1 : Int32)).toInt.toNat).toInt = 0 := c139
                replace h := tx_iconst (v := 0) (p' := 143) h em3_142 (by decide +kernel) rfl
                obtain ⟨rfl, hμ⟩ := tx_ireturn h em3_143
                exfalso
                rw [eta] at c139
                exact hz (Int32.toInt_inj.mp ((Decidable.not_not.mp c139).trans (by decide)))
        · replace c100 : ¬ ¬ (ω.1 10 p.toInt.toNat).toInt = 7 := c100
          replace h := tx_iload_n (p' := 104) h em3_103 rfl rfl
          rcases tx_if (t := 118) (p' := 107) h em3_104 (by decide) rfl with ⟨c104, h⟩ | ⟨c104, h⟩
          · replace c104 : t.toInt ≤ 0 := c104
            replace h := tx_iconst (v := 0) (p' := 119) h em3_118 (by decide +kernel) rfl
            obtain ⟨rfl, hμ⟩ := tx_ireturn h em3_119
            exfalso
            omega
          · replace c104 : ¬ t.toInt ≤ 0 := c104
            replace h := tx_aload_n (p' := 108) h em3_107 rfl rfl
            replace h := tx_getc (c := 1) (j := 2) (p' := 111) h em3_108 ((congrFun xo_2 15).trans rfl) rfl rfl rfl
            replace h := tx_iload_n (p' := 112) h em3_111 rfl rfl
            replace h := tx_iconst (v := 1) (p' := 113) h em3_112 (by decide +kernel) rfl
            replace h := tx_isub (p' := 114) h em3_113 rfl
            obtain ⟨hb114, h⟩ := tx_iald (len := 16) (p' := 115) h em3_114 rfl rfl
            replace hb114 : (0 : Int) ≤ (t - (1 : Int32)).toInt ∧ (t - (1 : Int32)).toInt < 16 := hb114
            replace h := tx_goto (t := 119) h em3_115 (by decide)
            obtain ⟨rfl, hμ⟩ := tx_ireturn h em3_119
            exfalso
            omega
      · replace c56 : ¬ ¬ (ω.1 10 p.toInt.toNat).toInt = 1 := c56
        replace h := tx_iload_n (p' := 60) h em3_59 rfl rfl
        replace h := tx_bipush (v := 16) (p' := 62) h em3_60 (by decide +kernel) rfl
        rcases tx_icmp (t := 67) (p' := 65) h em3_62 (by decide) rfl with ⟨c62_1, h⟩ | ⟨c62_1, h⟩
        · replace c62_1 : t.toInt < 16 := c62_1
          replace h := tx_aload_n (p' := 68) h em3_67 rfl rfl
          replace h := tx_getc (c := 1) (j := 2) (p' := 71) h em3_68 ((congrFun xo_2 15).trans rfl) rfl rfl rfl
          replace h := tx_iload_n (p' := 72) h em3_71 rfl rfl
          replace h := tx_iload (p' := 74) h em3_72 rfl rfl
          rcases tx_if (t := 82) (p' := 77) h em3_74 (by decide) rfl with ⟨c74_1, h⟩ | ⟨c74_1, h⟩
          · replace c74_1 : ¬ (ω.1 10 p.toInt.toNat).toInt = 0 := c74_1
            replace h := tx_aload_n (p' := 83) h em3_82 rfl rfl
            replace h := tx_getc (c := 1) (j := 1) (p' := 86) h em3_83 ((congrFun xo_2 11).trans rfl) rfl rfl rfl
            replace h := tx_iload (p' := 88) h em3_86 rfl rfl
            obtain ⟨hb88_1, h⟩ := tx_iald (len := 9) (p' := 89) h em3_88 rfl rfl
            replace hb88_1 : (0 : Int) ≤ (ω.1 11 p.toInt.toNat).toInt ∧ (ω.1 11 p.toInt.toNat).toInt < 9 := hb88_1
            obtain ⟨hb89_2, h⟩ := tx_iast (len := 16) (p' := 90) h em3_89 rfl rfl
            replace hb89_2 : (0 : Int) ≤ t.toInt ∧ t.toInt < 16 := hb89_2
            replace h := tx_iinc (v := 1) (p' := 93) h em3_90 (by decide +kernel) rfl rfl
            replace h : eT xq_3 _ 93 [some (.inr (.inl (some 48))), some (.inl l), some (.inl (p + 1)), some (.inl (t + 1)), some (.inl (ω.1 10 p.toInt.toNat)), some (.inl (ω.1 11 p.toInt.toNat))] [] (xpi ω 50 t.toInt.toNat (ω.1 49 (ω.1 11 p.toInt.toNat).toInt.toNat)) r μ' := h
            replace h := tx_goto (t := 215) h em3_93 (by decide)
            obtain ⟨n2, hn2, h⟩ := tx_gotoS (t := 12) h em3_215 (by decide)
            exfalso
            omega
          · replace c74_1 : ¬ ¬ (ω.1 10 p.toInt.toNat).toInt = 0 := c74_1
            replace h := tx_iload (p' := 79) h em3_77 rfl rfl
            replace h := tx_goto (t := 89) h em3_79 (by decide)
            obtain ⟨hb89_3, h⟩ := tx_iast (len := 16) (p' := 90) h em3_89 rfl rfl
            replace hb89_3 : (0 : Int) ≤ t.toInt ∧ t.toInt < 16 := hb89_3
            replace h := tx_iinc (v := 1) (p' := 93) h em3_90 (by decide +kernel) rfl rfl
            replace h : eT xq_3 _ 93 [some (.inr (.inl (some 48))), some (.inl l), some (.inl (p + 1)), some (.inl (t + 1)), some (.inl (ω.1 10 p.toInt.toNat)), some (.inl (ω.1 11 p.toInt.toNat))] [] (xpi ω 50 t.toInt.toNat (ω.1 11 p.toInt.toNat)) r μ' := h
            replace h := tx_goto (t := 215) h em3_93 (by decide)
            obtain ⟨n2, hn2, h⟩ := tx_gotoS (t := 12) h em3_215 (by decide)
            exfalso
            omega
        · replace c62_1 : ¬ t.toInt < 16 := c62_1
          replace h := tx_iconst (v := 0) (p' := 66) h em3_65 (by decide +kernel) rfl
          obtain ⟨rfl, hμ⟩ := tx_ireturn h em3_66
          exfalso
          omega
set_option maxRecDepth 10000 in
set_option maxHeartbeats 4000000 in
theorem jd_skipy {n : Nat} {l p t : Int32} {o4 o5 : Option zV} {ω μ' : xM} {r : Option zV} (h : eT xq_3 n 12 [some (.inr (.inl (some 48))), some (.inl l), some (.inl p), some (.inl t), o4, o5] [] ω r μ') (hp : p.toInt < (ω.1 2 14).toInt) (hq : 0 ≤ p.toInt) (ho : (ω.1 10 p.toInt.toNat).toInt = 6) (ht : 2 ≤ t.toInt) (ht6 : t.toInt ≤ 16) (hlt : (ω.1 50 (t.toInt - 2).toNat).toInt < (ω.1 50 (t.toInt - 1).toNat).toInt) : ∃ n' o4' o5' t2, t2.toInt = t.toInt - 2 ∧ eT xq_3 n' 12 [some (.inr (.inl (some 48))), some (.inl l), some (.inl (p + 1)), some (.inl t2), o4', o5'] [] ω r μ' := by
  have e1i : (1 : Int32).toInt = 1 := by decide
  replace h := tx_iload_n (p' := 13) h em3_12 rfl rfl
  replace h := tx_aload_n (p' := 14) h em3_13 rfl rfl
  replace h := tx_getc (c := 1) (j := 0) (p' := 17) h em3_14 ((congrFun xo_2 18).trans rfl) rfl rfl rfl
  replace h := tx_getf (c := 6) (j := 14) (p' := 20) h em3_17 ((congrFun xo_2 78).trans rfl) rfl rfl (by decide) rfl
  rcases tx_icmp (t := 218) (p' := 23) h em3_20 (by decide) rfl with ⟨c20, h⟩ | ⟨c20, h⟩
  · replace c20 : (ω.1 2 14).toInt ≤ p.toInt := c20
    replace h := tx_iconst (v := 0) (p' := 219) h em3_218 (by decide +kernel) rfl
    obtain ⟨rfl, hμ⟩ := tx_ireturn h em3_219
    exfalso
    omega
  · replace c20 : ¬ (ω.1 2 14).toInt ≤ p.toInt := c20
    replace h := tx_aload_n (p' := 24) h em3_23 rfl rfl
    replace h := tx_getc (c := 1) (j := 0) (p' := 27) h em3_24 ((congrFun xo_2 18).trans rfl) rfl rfl rfl
    replace h := tx_getc (c := 6) (j := 12) (p' := 30) h em3_27 ((congrFun xo_2 81).trans rfl) rfl rfl rfl
    replace h := tx_iload_n (p' := 31) h em3_30 rfl rfl
    obtain ⟨hb31, h⟩ := tx_iald (len := 408) (p' := 32) h em3_31 rfl rfl
    replace hb31 : (0 : Int) ≤ p.toInt ∧ p.toInt < 408 := hb31
    replace h := tx_istore (p' := 34) h em3_32 rfl
    replace h : eT xq_3 _ 34 [some (.inr (.inl (some 48))), some (.inl l), some (.inl p), some (.inl t), some (.inl (ω.1 10 p.toInt.toNat)), o5] [] ω r μ' := h
    replace h := tx_aload_n (p' := 35) h em3_34 rfl rfl
    replace h := tx_getc (c := 1) (j := 0) (p' := 38) h em3_35 ((congrFun xo_2 18).trans rfl) rfl rfl rfl
    replace h := tx_getc (c := 6) (j := 13) (p' := 41) h em3_38 ((congrFun xo_2 84).trans rfl) rfl rfl rfl
    replace h := tx_iload_n (p' := 42) h em3_41 rfl rfl
    obtain ⟨hb42, h⟩ := tx_iald (len := 408) (p' := 43) h em3_42 rfl rfl
    replace hb42 : (0 : Int) ≤ p.toInt ∧ p.toInt < 408 := hb42
    replace h := tx_istore (p' := 45) h em3_43 rfl
    replace h : eT xq_3 _ 45 [some (.inr (.inl (some 48))), some (.inl l), some (.inl p), some (.inl t), some (.inl (ω.1 10 p.toInt.toNat)), some (.inl (ω.1 11 p.toInt.toNat))] [] ω r μ' := h
    replace h := tx_iinc (v := 1) (p' := 48) h em3_45 (by decide +kernel) rfl rfl
    replace h : eT xq_3 _ 48 [some (.inr (.inl (some 48))), some (.inl l), some (.inl (p + 1)), some (.inl t), some (.inl (ω.1 10 p.toInt.toNat)), some (.inl (ω.1 11 p.toInt.toNat))] [] ω r μ' := h
    replace h := tx_iload (p' := 50) h em3_48 rfl rfl
    rcases tx_if (t := 59) (p' := 53) h em3_50 (by decide) rfl with ⟨c50, h⟩ | ⟨c50, h⟩
    · replace c50 : (ω.1 10 p.toInt.toNat).toInt = 0 := c50
      replace h := tx_iload_n (p' := 60) h em3_59 rfl rfl
      replace h := tx_bipush (v := 16) (p' := 62) h em3_60 (by decide +kernel) rfl
      rcases tx_icmp (t := 67) (p' := 65) h em3_62 (by decide) rfl with ⟨c62, h⟩ | ⟨c62, h⟩
      · replace c62 : t.toInt < 16 := c62
        replace h := tx_aload_n (p' := 68) h em3_67 rfl rfl
        replace h := tx_getc (c := 1) (j := 2) (p' := 71) h em3_68 ((congrFun xo_2 15).trans rfl) rfl rfl rfl
        replace h := tx_iload_n (p' := 72) h em3_71 rfl rfl
        replace h := tx_iload (p' := 74) h em3_72 rfl rfl
        rcases tx_if (t := 82) (p' := 77) h em3_74 (by decide) rfl with ⟨c74, h⟩ | ⟨c74, h⟩
        · replace c74 : ¬ (ω.1 10 p.toInt.toNat).toInt = 0 := c74
          replace h := tx_aload_n (p' := 83) h em3_82 rfl rfl
          replace h := tx_getc (c := 1) (j := 1) (p' := 86) h em3_83 ((congrFun xo_2 11).trans rfl) rfl rfl rfl
          replace h := tx_iload (p' := 88) h em3_86 rfl rfl
          obtain ⟨hb88, h⟩ := tx_iald (len := 9) (p' := 89) h em3_88 rfl rfl
          replace hb88 : (0 : Int) ≤ (ω.1 11 p.toInt.toNat).toInt ∧ (ω.1 11 p.toInt.toNat).toInt < 9 := hb88
          obtain ⟨hb89, h⟩ := tx_iast (len := 16) (p' := 90) h em3_89 rfl rfl
          replace hb89 : (0 : Int) ≤ t.toInt ∧ t.toInt < 16 := hb89
          replace h := tx_iinc (v := 1) (p' := 93) h em3_90 (by decide +kernel) rfl rfl
          replace h : eT xq_3 _ 93 [some (.inr (.inl (some 48))), some (.inl l), some (.inl (p + 1)), some (.inl (t + 1)), some (.inl (ω.1 10 p.toInt.toNat)), some (.inl (ω.1 11 p.toInt.toNat))] [] (xpi ω 50 t.toInt.toNat (ω.1 49 (ω.1 11 p.toInt.toNat).toInt.toNat)) r μ' := h
          replace h := tx_goto (t := 215) h em3_93 (by decide)
          obtain ⟨n2, hn2, h⟩ := tx_gotoS (t := 12) h em3_215 (by decide)
          exfalso
          omega
        · replace c74 : ¬ ¬ (ω.1 10 p.toInt.toNat).toInt = 0 := c74
          replace h := tx_iload (p' := 79) h em3_77 rfl rfl
          replace h := tx_goto (t := 89) h em3_79 (by decide)
          obtain ⟨hb89_1, h⟩ := tx_iast (len := 16) (p' := 90) h em3_89 rfl rfl
          replace hb89_1 : (0 : Int) ≤ t.toInt ∧ t.toInt < 16 := hb89_1
          replace h := tx_iinc (v := 1) (p' := 93) h em3_90 (by decide +kernel) rfl rfl
          replace h : eT xq_3 _ 93 [some (.inr (.inl (some 48))), some (.inl l), some (.inl (p + 1)), some (.inl (t + 1)), some (.inl (ω.1 10 p.toInt.toNat)), some (.inl (ω.1 11 p.toInt.toNat))] [] (xpi ω 50 t.toInt.toNat (ω.1 11 p.toInt.toNat)) r μ' := h
          replace h := tx_goto (t := 215) h em3_93 (by decide)
          obtain ⟨n2, hn2, h⟩ := tx_gotoS (t := 12) h em3_215 (by decide)
          exfalso
          omega
      · replace c62 : ¬ t.toInt < 16 := c62
        replace h := tx_iconst (v := 0) (p' := 66) h em3_65 (by decide +kernel) rfl
        obtain ⟨rfl, hμ⟩ := tx_ireturn h em3_66
        exfalso
        omega
    · replace c50 : ¬ (ω.1 10 p.toInt.toNat).toInt = 0 := c50
      replace h := tx_iload (p' := 55) h em3_53 rfl rfl
      replace h := tx_iconst (v := 1) (p' := 56) h em3_55 (by decide +kernel) rfl
      rcases tx_icmp (t := 96) (p' := 59) h em3_56 (by decide) rfl with ⟨c56, h⟩ | ⟨c56, h⟩
      · replace c56 : ¬ (ω.1 10 p.toInt.toNat).toInt = 1 := c56
        replace h := tx_iload (p' := 98) h em3_96 rfl rfl
        replace h := tx_bipush (v := 7) (p' := 100) h em3_98 (by decide +kernel) rfl
        rcases tx_icmp (t := 120) (p' := 103) h em3_100 (by decide) rfl with ⟨c100, h⟩ | ⟨c100, h⟩
        · replace c100 : ¬ (ω.1 10 p.toInt.toNat).toInt = 7 := c100
          replace h := tx_iload_n (p' := 121) h em3_120 rfl rfl
          replace h := tx_iconst (v := 2) (p' := 122) h em3_121 (by decide +kernel) rfl
          rcases tx_icmp (t := 142) (p' := 125) h em3_122 (by decide) rfl with ⟨c122, h⟩ | ⟨c122, h⟩
          · replace c122 : t.toInt < 2 := c122
            replace h := tx_iconst (v := 0) (p' := 143) h em3_142 (by decide +kernel) rfl
            obtain ⟨rfl, hμ⟩ := tx_ireturn h em3_143
            exfalso
            omega
          · replace c122 : ¬ t.toInt < 2 := c122
            replace h := tx_iload (p' := 127) h em3_125 rfl rfl
            replace h := tx_iconst (v := 5) (p' := 128) h em3_127 (by decide +kernel) rfl
            rcases tx_icmp (t := 144) (p' := 131) h em3_128 (by decide) rfl with ⟨c128, h⟩ | ⟨c128, h⟩
            · replace c128 : ¬ (ω.1 10 p.toInt.toNat).toInt = 5 := c128
              replace h := tx_iload (p' := 146) h em3_144 rfl rfl
              replace h := tx_bipush (v := 6) (p' := 148) h em3_146 (by decide +kernel) rfl
              rcases tx_icmp (t := 185) (p' := 151) h em3_148 (by decide) rfl with ⟨c148, h⟩ | ⟨c148, h⟩
              · replace c148 : ¬ (ω.1 10 p.toInt.toNat).toInt = 6 := c148
                replace h := tx_iinc (v := (-1)) (p' := 188) h em3_185 (by decide +kernel) rfl rfl
                replace h : eT xq_3 _ 188 [some (.inr (.inl (some 48))), some (.inl l), some (.inl (p + 1)), some (.inl (t + (-1))), some (.inl (ω.1 10 p.toInt.toNat)), some (.inl (ω.1 11 p.toInt.toNat))] [] ω r μ' := h
                have et1 : (t + -1).toInt = t.toInt - 1 := ka1 (by omega)
                obtain ⟨t1, ht1⟩ : ∃ z, z = t + -1 := ⟨_, rfl⟩
                rw [← ht1] at et1 h
                clear ht1
                replace h := tx_aload_n (p' := 189) h em3_188 rfl rfl
                replace h := tx_getc (c := 1) (j := 2) (p' := 192) h em3_189 ((congrFun xo_2 15).trans rfl) rfl rfl rfl
                replace h := tx_iload_n (p' := 193) h em3_192 rfl rfl
                replace h := tx_iconst (v := 1) (p' := 194) h em3_193 (by decide +kernel) rfl
                replace h := tx_isub (p' := 195) h em3_194 rfl
                replace h := tx_iload (p' := 197) h em3_195 rfl rfl
                replace h := tx_aload_n (p' := 198) h em3_197 rfl rfl
                replace h := tx_getc (c := 1) (j := 2) (p' := 201) h em3_198 ((congrFun xo_2 15).trans rfl) rfl rfl rfl
                replace h := tx_iload_n (p' := 202) h em3_201 rfl rfl
                replace h := tx_iconst (v := 1) (p' := 203) h em3_202 (by decide +kernel) rfl
                replace h := tx_isub (p' := 204) h em3_203 rfl
                obtain ⟨hb204, h⟩ := tx_iald (len := 16) (p' := 205) h em3_204 rfl rfl
                replace hb204 : (0 : Int) ≤ (t1 - (1 : Int32)).toInt ∧ (t1 - (1 : Int32)).toInt < 16 := hb204
                replace h := tx_aload_n (p' := 206) h em3_205 rfl rfl
                replace h := tx_getc (c := 1) (j := 2) (p' := 209) h em3_206 ((congrFun xo_2 15).trans rfl) rfl rfl rfl
                replace h := tx_iload_n (p' := 210) h em3_209 rfl rfl
                obtain ⟨hb210, h⟩ := tx_iald (len := 16) (p' := 211) h em3_210 rfl rfl
                replace hb210 : (0 : Int) ≤ t1.toInt ∧ t1.toInt < 16 := hb210
                exfalso
                omega
              · replace c148 : ¬ ¬ (ω.1 10 p.toInt.toNat).toInt = 6 := c148
                replace h := tx_iinc (v := (-2)) (p' := 154) h em3_151 (by decide +kernel) rfl rfl
                replace h : eT xq_3 _ 154 [some (.inr (.inl (some 48))), some (.inl l), some (.inl (p + 1)), some (.inl (t + (-2))), some (.inl (ω.1 10 p.toInt.toNat)), some (.inl (ω.1 11 p.toInt.toNat))] [] ω r μ' := h
                have et2 : (t + -2).toInt = t.toInt - 2 := kb2 (by omega)
                obtain ⟨t2, ht2⟩ : ∃ z, z = t + -2 := ⟨_, rfl⟩
                rw [← ht2] at et2 h
                clear ht2
                replace h := tx_aload_n (p' := 155) h em3_154 rfl rfl
                replace h := tx_getc (c := 1) (j := 2) (p' := 158) h em3_155 ((congrFun xo_2 15).trans rfl) rfl rfl rfl
                replace h := tx_iload_n (p' := 159) h em3_158 rfl rfl
                obtain ⟨hb159, h⟩ := tx_iald (len := 16) (p' := 160) h em3_159 rfl rfl
                replace hb159 : (0 : Int) ≤ t2.toInt ∧ t2.toInt < 16 := hb159
                replace h := tx_aload_n (p' := 161) h em3_160 rfl rfl
                replace h := tx_getc (c := 1) (j := 2) (p' := 164) h em3_161 ((congrFun xo_2 15).trans rfl) rfl rfl rfl
                replace h := tx_iload_n (p' := 165) h em3_164 rfl rfl
                replace h := tx_iconst (v := 1) (p' := 166) h em3_165 (by decide +kernel) rfl
                replace h := tx_iadd (p' := 167) h em3_166 rfl
                obtain ⟨hb167, h⟩ := tx_iald (len := 16) (p' := 168) h em3_167 rfl rfl
                replace hb167 : (0 : Int) ≤ (t2 + (1 : Int32)).toInt ∧ (t2 + (1 : Int32)).toInt < 16 := hb167
                rcases tx_icmp (t := 175) (p' := 171) h em3_168 (by decide) rfl with ⟨c168, h⟩ | ⟨c168, h⟩
                · replace c168 : (ω.1 50 (t2 + (1 : Int32)).toInt.toNat).toInt ≤ (ω.1 50 t2.toInt.toNat).toInt := c168
                  replace h := tx_iload_n (p' := 176) h em3_175 rfl rfl
                  replace h := tx_iload (p' := 178) h em3_176 rfl rfl
                  replace h := tx_max (p' := 181) h em3_178 ((congrFun xo_2 48).trans rfl) rfl
                  replace h := tx_istore_n (p' := 182) h em3_181 rfl
                  replace h : eT xq_3 _ 182 [some (.inr (.inl (some 48))), some (.inl l), some (.inl (if (p + 1) < (ω.1 11 p.toInt.toNat) then (ω.1 11 p.toInt.toNat) else (p + 1))), some (.inl t2), some (.inl (ω.1 10 p.toInt.toNat)), some (.inl (ω.1 11 p.toInt.toNat))] [] ω r μ' := h
                  replace h := tx_goto (t := 215) h em3_182 (by decide)
                  obtain ⟨n2, hn2, h⟩ := tx_gotoS (t := 12) h em3_215 (by decide)
                  have eu : (t2 + (1 : Int32)).toInt = t.toInt - 1 := by rw [an_add (by rw [e1i]; omega) (by rw [e1i]; omega), e1i]; omega
                  rw [eu, et2] at c168
                  exfalso
                  omega
                · replace c168 : ¬ (ω.1 50 (t2 + (1 : Int32)).toInt.toNat).toInt ≤ (ω.1 50 t2.toInt.toNat).toInt := c168
                  replace h := tx_iload_n (p' := 172) h em3_171 rfl rfl
                  replace h := tx_goto (t := 181) h em3_172 (by decide)
                  replace h := tx_istore_n (p' := 182) h em3_181 rfl
                  replace h : eT xq_3 _ 182 [some (.inr (.inl (some 48))), some (.inl l), some (.inl (p + 1)), some (.inl t2), some (.inl (ω.1 10 p.toInt.toNat)), some (.inl (ω.1 11 p.toInt.toNat))] [] ω r μ' := h
                  replace h := tx_goto (t := 215) h em3_182 (by decide)
                  obtain ⟨n2, hn2, h⟩ := tx_gotoS (t := 12) h em3_215 (by decide)
                  exact ⟨_, _, _, t2, et2, h⟩
            · replace c128 : ¬ ¬ (ω.1 10 p.toInt.toNat).toInt = 5 := c128
              replace h := tx_aload_n (p' := 132) h em3_131 rfl rfl
              replace h := tx_getc (c := 1) (j := 2) (p' := 135) h em3_132 ((congrFun xo_2 15).trans rfl) rfl rfl rfl
              replace h := tx_iload_n (p' := 136) h em3_135 rfl rfl
              replace h := tx_iconst (v := 1) (p' := 137) h em3_136 (by decide +kernel) rfl
              replace h := tx_isub (p' := 138) h em3_137 rfl
              obtain ⟨hb138, h⟩ := tx_iald (len := 16) (p' := 139) h em3_138 rfl rfl
              replace hb138 : (0 : Int) ≤ (t - (1 : Int32)).toInt ∧ (t - (1 : Int32)).toInt < 16 := hb138
              rcases tx_if (t := 144) (p' := 142) h em3_139 (by decide) rfl with ⟨c139, h⟩ | ⟨c139, h⟩
              · replace c139 : ¬ (ω.1 50 (t - (1 : Int32)).toInt.toNat).toInt = 0 := c139
                replace h := tx_iload (p' := 146) h em3_144 rfl rfl
                replace h := tx_bipush (v := 6) (p' := 148) h em3_146 (by decide +kernel) rfl
                rcases tx_icmp (t := 185) (p' := 151) h em3_148 (by decide) rfl with ⟨c148_1, h⟩ | ⟨c148_1, h⟩
                · replace c148_1 : ¬ (ω.1 10 p.toInt.toNat).toInt = 6 := c148_1
                  replace h := tx_iinc (v := (-1)) (p' := 188) h em3_185 (by decide +kernel) rfl rfl
                  replace h : eT xq_3 _ 188 [some (.inr (.inl (some 48))), some (.inl l), some (.inl (p + 1)), some (.inl (t + (-1))), some (.inl (ω.1 10 p.toInt.toNat)), some (.inl (ω.1 11 p.toInt.toNat))] [] ω r μ' := h
                  have et1 : (t + -1).toInt = t.toInt - 1 := ka1 (by omega)
                  obtain ⟨t1, ht1⟩ : ∃ z, z = t + -1 := ⟨_, rfl⟩
                  rw [← ht1] at et1 h
                  clear ht1
                  replace h := tx_aload_n (p' := 189) h em3_188 rfl rfl
                  replace h := tx_getc (c := 1) (j := 2) (p' := 192) h em3_189 ((congrFun xo_2 15).trans rfl) rfl rfl rfl
                  replace h := tx_iload_n (p' := 193) h em3_192 rfl rfl
                  replace h := tx_iconst (v := 1) (p' := 194) h em3_193 (by decide +kernel) rfl
                  replace h := tx_isub (p' := 195) h em3_194 rfl
                  replace h := tx_iload (p' := 197) h em3_195 rfl rfl
                  replace h := tx_aload_n (p' := 198) h em3_197 rfl rfl
                  replace h := tx_getc (c := 1) (j := 2) (p' := 201) h em3_198 ((congrFun xo_2 15).trans rfl) rfl rfl rfl
                  replace h := tx_iload_n (p' := 202) h em3_201 rfl rfl
                  replace h := tx_iconst (v := 1) (p' := 203) h em3_202 (by decide +kernel) rfl
                  replace h := tx_isub (p' := 204) h em3_203 rfl
                  obtain ⟨hb204_1, h⟩ := tx_iald (len := 16) (p' := 205) h em3_204 rfl rfl
                  replace hb204_1 : (0 : Int) ≤ (t1 - (1 : Int32)).toInt ∧ (t1 - (1 : Int32)).toInt < 16 := hb204_1
                  replace h := tx_aload_n (p' := 206) h em3_205 rfl rfl
                  replace h := tx_getc (c := 1) (j := 2) (p' := 209) h em3_206 ((congrFun xo_2 15).trans rfl) rfl rfl rfl
                  replace h := tx_iload_n (p' := 210) h em3_209 rfl rfl
                  obtain ⟨hb210_1, h⟩ := tx_iald (len := 16) (p' := 211) h em3_210 rfl rfl
                  replace hb210_1 : (0 : Int) ≤ t1.toInt ∧ t1.toInt < 16 := hb210_1
                  exfalso
                  omega
                · replace c148_1 : ¬ ¬ (ω.1 10 p.toInt.toNat).toInt = 6 := c148_1
                  replace h := tx_iinc (v := (-2)) (p' := 154) h em3_151 (by decide +kernel) rfl rfl
                  replace h : eT xq_3 _ 154 [some (.inr (.inl (some 48))), some (.inl l), some (.inl (p + 1)), some (.inl (t + (-2))), some (.inl (ω.1 10 p.toInt.toNat)), some (.inl (ω.1 11 p.toInt.toNat))] [] ω r μ' := h
                  have et2 : (t + -2).toInt = t.toInt - 2 := kb2 (by omega)
                  obtain ⟨t2, ht2⟩ : ∃ z, z = t + -2 := ⟨_, rfl⟩
                  rw [← ht2] at et2 h
                  clear ht2
                  replace h := tx_aload_n (p' := 155) h em3_154 rfl rfl
                  replace h := tx_getc (c := 1) (j := 2) (p' := 158) h em3_155 ((congrFun xo_2 15).trans rfl) rfl rfl rfl
                  replace h := tx_iload_n (p' := 159) h em3_158 rfl rfl
                  obtain ⟨hb159_1, h⟩ := tx_iald (len := 16) (p' := 160) h em3_159 rfl rfl
                  replace hb159_1 : (0 : Int) ≤ t2.toInt ∧ t2.toInt < 16 := hb159_1
                  replace h := tx_aload_n (p' := 161) h em3_160 rfl rfl
                  replace h := tx_getc (c := 1) (j := 2) (p' := 164) h em3_161 ((congrFun xo_2 15).trans rfl) rfl rfl rfl
                  replace h := tx_iload_n (p' := 165) h em3_164 rfl rfl
                  replace h := tx_iconst (v := 1) (p' := 166) h em3_165 (by decide +kernel) rfl
                  replace h := tx_iadd (p' := 167) h em3_166 rfl
                  obtain ⟨hb167_1, h⟩ := tx_iald (len := 16) (p' := 168) h em3_167 rfl rfl
                  replace hb167_1 : (0 : Int) ≤ (t2 + (1 : Int32)).toInt ∧ (t2 + (1 : Int32)).toInt < 16 := hb167_1
                  rcases tx_icmp (t := 175) (p' := 171) h em3_168 (by decide) rfl with ⟨c168_1, h⟩ | ⟨c168_1, h⟩
                  · replace c168_1 : (ω.1 50 (t2 + (1 : Int32)).toInt.toNat).toInt ≤ (ω.1 50 t2.toInt.toNat).toInt := c168_1
                    replace h := tx_iload_n (p' := 176) h em3_175 rfl rfl
                    replace h := tx_iload (p' := 178) h em3_176 rfl rfl
                    replace h := tx_max (p' := 181) h em3_178 ((congrFun xo_2 48).trans rfl) rfl
                    replace h := tx_istore_n (p' := 182) h em3_181 rfl
                    replace h : eT xq_3 _ 182 [some (.inr (.inl (some 48))), some (.inl l), some (.inl (if (p + 1) < (ω.1 11 p.toInt.toNat) then (ω.1 11 p.toInt.toNat) else (p + 1))), some (.inl t2), some (.inl (ω.1 10 p.toInt.toNat)), some (.inl (ω.1 11 p.toInt.toNat))] [] ω r μ' := h
                    replace h := tx_goto (t := 215) h em3_182 (by decide)
                    obtain ⟨n2, hn2, h⟩ := tx_gotoS (t := 12) h em3_215 (by decide)
                    have eu : (t2 + (1 : Int32)).toInt = t.toInt - 1 := by rw [an_add (by rw [e1i]; omega) (by rw [e1i]; omega), e1i]; omega
                    rw [eu, et2] at c168_1
                    exfalso
                    omega
                  · replace c168_1 : ¬ (ω.1 50 (t2 + (1 : Int32)).toInt.toNat).toInt ≤ (ω.1 50 t2.toInt.toNat).toInt := c168_1
                    replace h := tx_iload_n (p' := 172) h em3_171 rfl rfl
                    replace h := tx_goto (t := 181) h em3_172 (by decide)
                    replace h := tx_istore_n (p' := 182) h em3_181 rfl
                    replace h : eT xq_3 _ 182 [some (.inr (.inl (some 48))), some (.inl l), some (.inl (p + 1)), some (.inl t2), some (.inl (ω.1 10 p.toInt.toNat)), some (.inl (ω.1 11 p.toInt.toNat))] [] ω r μ' := h
                    replace h := tx_goto (t := 215) h em3_182 (by decide)
                    obtain ⟨n2, hn2, h⟩ := tx_gotoS (t := 12) h em3_215 (by decide)
                    exact ⟨_, _, _, t2, et2, h⟩
              · replace c139 : ¬ ¬ (ω.1 50 (t - (1 : Int32)).toInt.toNat).toInt = 0 := c139
                replace h := tx_iconst (v := 0) (p' := 143) h em3_142 (by decide +kernel) rfl
                obtain ⟨rfl, hμ⟩ := tx_ireturn h em3_143
                exfalso
                omega
        · replace c100 : ¬ ¬ (ω.1 10 p.toInt.toNat).toInt = 7 := c100
          replace h := tx_iload_n (p' := 104) h em3_103 rfl rfl
          rcases tx_if (t := 118) (p' := 107) h em3_104 (by decide) rfl with ⟨c104, h⟩ | ⟨c104, h⟩
          · replace c104 : t.toInt ≤ 0 := c104
            replace h := tx_iconst (v := 0) (p' := 119) h em3_118 (by decide +kernel) rfl
            obtain ⟨rfl, hμ⟩ := tx_ireturn h em3_119
            exfalso
            omega
          · replace c104 : ¬ t.toInt ≤ 0 := c104
            replace h := tx_aload_n (p' := 108) h em3_107 rfl rfl
            replace h := tx_getc (c := 1) (j := 2) (p' := 111) h em3_108 ((congrFun xo_2 15).trans rfl) rfl rfl rfl
            replace h := tx_iload_n (p' := 112) h em3_111 rfl rfl
            replace h := tx_iconst (v := 1) (p' := 113) h em3_112 (by decide +kernel) rfl
            replace h := tx_isub (p' := 114) h em3_113 rfl
            obtain ⟨hb114, h⟩ := tx_iald (len := 16) (p' := 115) h em3_114 rfl rfl
            replace hb114 : (0 : Int) ≤ (t - (1 : Int32)).toInt ∧ (t - (1 : Int32)).toInt < 16 := hb114
            replace h := tx_goto (t := 119) h em3_115 (by decide)
            obtain ⟨rfl, hμ⟩ := tx_ireturn h em3_119
            exfalso
            omega
      · replace c56 : ¬ ¬ (ω.1 10 p.toInt.toNat).toInt = 1 := c56
        replace h := tx_iload_n (p' := 60) h em3_59 rfl rfl
        replace h := tx_bipush (v := 16) (p' := 62) h em3_60 (by decide +kernel) rfl
        rcases tx_icmp (t := 67) (p' := 65) h em3_62 (by decide) rfl with ⟨c62_1, h⟩ | ⟨c62_1, h⟩
        · replace c62_1 : t.toInt < 16 := c62_1
          replace h := tx_aload_n (p' := 68) h em3_67 rfl rfl
          replace h := tx_getc (c := 1) (j := 2) (p' := 71) h em3_68 ((congrFun xo_2 15).trans rfl) rfl rfl rfl
          replace h := tx_iload_n (p' := 72) h em3_71 rfl rfl
          replace h := tx_iload (p' := 74) h em3_72 rfl rfl
          rcases tx_if (t := 82) (p' := 77) h em3_74 (by decide) rfl with ⟨c74_1, h⟩ | ⟨c74_1, h⟩
          · replace c74_1 : ¬ (ω.1 10 p.toInt.toNat).toInt = 0 := c74_1
            replace h := tx_aload_n (p' := 83) h em3_82 rfl rfl
            replace h := tx_getc (c := 1) (j := 1) (p' := 86) h em3_83 ((congrFun xo_2 11).trans rfl) rfl rfl rfl
            replace h := tx_iload (p' := 88) h em3_86 rfl rfl
            obtain ⟨hb88_1, h⟩ := tx_iald (len := 9) (p' := 89) h em3_88 rfl rfl
            replace hb88_1 : (0 : Int) ≤ (ω.1 11 p.toInt.toNat).toInt ∧ (ω.1 11 p.toInt.toNat).toInt < 9 := hb88_1
            obtain ⟨hb89_2, h⟩ := tx_iast (len := 16) (p' := 90) h em3_89 rfl rfl
            replace hb89_2 : (0 : Int) ≤ t.toInt ∧ t.toInt < 16 := hb89_2
            replace h := tx_iinc (v := 1) (p' := 93) h em3_90 (by decide +kernel) rfl rfl
            replace h : eT xq_3 _ 93 [some (.inr (.inl (some 48))), some (.inl l), some (.inl (p + 1)), some (.inl (t + 1)), some (.inl (ω.1 10 p.toInt.toNat)), some (.inl (ω.1 11 p.toInt.toNat))] [] (xpi ω 50 t.toInt.toNat (ω.1 49 (ω.1 11 p.toInt.toNat).toInt.toNat)) r μ' := h
            replace h := tx_goto (t := 215) h em3_93 (by decide)
            obtain ⟨n2, hn2, h⟩ := tx_gotoS (t := 12) h em3_215 (by decide)
            exfalso
            omega
          · replace c74_1 : ¬ ¬ (ω.1 10 p.toInt.toNat).toInt = 0 := c74_1
            replace h := tx_iload (p' := 79) h em3_77 rfl rfl
            replace h := tx_goto (t := 89) h em3_79 (by decide)
            obtain ⟨hb89_3, h⟩ := tx_iast (len := 16) (p' := 90) h em3_89 rfl rfl
            replace hb89_3 : (0 : Int) ≤ t.toInt ∧ t.toInt < 16 := hb89_3
            replace h := tx_iinc (v := 1) (p' := 93) h em3_90 (by decide +kernel) rfl rfl
            replace h : eT xq_3 _ 93 [some (.inr (.inl (some 48))), some (.inl l), some (.inl (p + 1)), some (.inl (t + 1)), some (.inl (ω.1 10 p.toInt.toNat)), some (.inl (ω.1 11 p.toInt.toNat))] [] (xpi ω 50 t.toInt.toNat (ω.1 11 p.toInt.toNat)) r μ' := h
            replace h := tx_goto (t := 215) h em3_93 (by decide)
            obtain ⟨n2, hn2, h⟩ := tx_gotoS (t := 12) h em3_215 (by decide)
            exfalso
            omega
        · replace c62_1 : ¬ t.toInt < 16 := c62_1
          replace h := tx_iconst (v := 0) (p' := 66) h em3_65 (by decide +kernel) rfl
          obtain ⟨rfl, hμ⟩ := tx_ireturn h em3_66
          exfalso
          omega
set_option maxRecDepth 10000 in
set_option maxHeartbeats 4000000 in
theorem jd_skipn {n : Nat} {l p t : Int32} {o4 o5 : Option zV} {ω μ' : xM} {r : Option zV} (h : eT xq_3 n 12 [some (.inr (.inl (some 48))), some (.inl l), some (.inl p), some (.inl t), o4, o5] [] ω r μ') (hp : p.toInt < (ω.1 2 14).toInt) (hq : 0 ≤ p.toInt) (ho : (ω.1 10 p.toInt.toNat).toInt = 6) (ht : 2 ≤ t.toInt) (ht6 : t.toInt ≤ 16) (hlt : ¬ (ω.1 50 (t.toInt - 2).toNat).toInt < (ω.1 50 (t.toInt - 1).toNat).toInt) : ∃ n' o4' o5' t2, t2.toInt = t.toInt - 2 ∧ eT xq_3 n' 12 [some (.inr (.inl (some 48))), some (.inl l), some (.inl (if (p + 1) < (ω.1 11 p.toInt.toNat) then (ω.1 11 p.toInt.toNat) else (p + 1))), some (.inl t2), o4', o5'] [] ω r μ' := by
  have e1i : (1 : Int32).toInt = 1 := by decide
  replace h := tx_iload_n (p' := 13) h em3_12 rfl rfl
  replace h := tx_aload_n (p' := 14) h em3_13 rfl rfl
  replace h := tx_getc (c := 1) (j := 0) (p' := 17) h em3_14 ((congrFun xo_2 18).trans rfl) rfl rfl rfl
  replace h := tx_getf (c := 6) (j := 14) (p' := 20) h em3_17 ((congrFun xo_2 78).trans rfl) rfl rfl (by decide) rfl
  rcases tx_icmp (t := 218) (p' := 23) h em3_20 (by decide) rfl with ⟨c20, h⟩ | ⟨c20, h⟩
  · replace c20 : (ω.1 2 14).toInt ≤ p.toInt := c20
    replace h := tx_iconst (v := 0) (p' := 219) h em3_218 (by decide +kernel) rfl
    obtain ⟨rfl, hμ⟩ := tx_ireturn h em3_219
    exfalso
    omega
  · replace c20 : ¬ (ω.1 2 14).toInt ≤ p.toInt := c20
    replace h := tx_aload_n (p' := 24) h em3_23 rfl rfl
    replace h := tx_getc (c := 1) (j := 0) (p' := 27) h em3_24 ((congrFun xo_2 18).trans rfl) rfl rfl rfl
    replace h := tx_getc (c := 6) (j := 12) (p' := 30) h em3_27 ((congrFun xo_2 81).trans rfl) rfl rfl rfl
    replace h := tx_iload_n (p' := 31) h em3_30 rfl rfl
    obtain ⟨hb31, h⟩ := tx_iald (len := 408) (p' := 32) h em3_31 rfl rfl
    replace hb31 : (0 : Int) ≤ p.toInt ∧ p.toInt < 408 := hb31
    replace h := tx_istore (p' := 34) h em3_32 rfl
    replace h : eT xq_3 _ 34 [some (.inr (.inl (some 48))), some (.inl l), some (.inl p), some (.inl t), some (.inl (ω.1 10 p.toInt.toNat)), o5] [] ω r μ' := h
    replace h := tx_aload_n (p' := 35) h em3_34 rfl rfl
    replace h := tx_getc (c := 1) (j := 0) (p' := 38) h em3_35 ((congrFun xo_2 18).trans rfl) rfl rfl rfl
    replace h := tx_getc (c := 6) (j := 13) (p' := 41) h em3_38 ((congrFun xo_2 84).trans rfl) rfl rfl rfl
    replace h := tx_iload_n (p' := 42) h em3_41 rfl rfl
    obtain ⟨hb42, h⟩ := tx_iald (len := 408) (p' := 43) h em3_42 rfl rfl
    replace hb42 : (0 : Int) ≤ p.toInt ∧ p.toInt < 408 := hb42
    replace h := tx_istore (p' := 45) h em3_43 rfl
    replace h : eT xq_3 _ 45 [some (.inr (.inl (some 48))), some (.inl l), some (.inl p), some (.inl t), some (.inl (ω.1 10 p.toInt.toNat)), some (.inl (ω.1 11 p.toInt.toNat))] [] ω r μ' := h
    replace h := tx_iinc (v := 1) (p' := 48) h em3_45 (by decide +kernel) rfl rfl
    replace h : eT xq_3 _ 48 [some (.inr (.inl (some 48))), some (.inl l), some (.inl (p + 1)), some (.inl t), some (.inl (ω.1 10 p.toInt.toNat)), some (.inl (ω.1 11 p.toInt.toNat))] [] ω r μ' := h
    replace h := tx_iload (p' := 50) h em3_48 rfl rfl
    rcases tx_if (t := 59) (p' := 53) h em3_50 (by decide) rfl with ⟨c50, h⟩ | ⟨c50, h⟩
    · replace c50 : (ω.1 10 p.toInt.toNat).toInt = 0 := c50
      replace h := tx_iload_n (p' := 60) h em3_59 rfl rfl
      replace h := tx_bipush (v := 16) (p' := 62) h em3_60 (by decide +kernel) rfl
      rcases tx_icmp (t := 67) (p' := 65) h em3_62 (by decide) rfl with ⟨c62, h⟩ | ⟨c62, h⟩
      · replace c62 : t.toInt < 16 := c62
        replace h := tx_aload_n (p' := 68) h em3_67 rfl rfl
        replace h := tx_getc (c := 1) (j := 2) (p' := 71) h em3_68 ((congrFun xo_2 15).trans rfl) rfl rfl rfl
        replace h := tx_iload_n (p' := 72) h em3_71 rfl rfl
        replace h := tx_iload (p' := 74) h em3_72 rfl rfl
        rcases tx_if (t := 82) (p' := 77) h em3_74 (by decide) rfl with ⟨c74, h⟩ | ⟨c74, h⟩
        · replace c74 : ¬ (ω.1 10 p.toInt.toNat).toInt = 0 := c74
          replace h := tx_aload_n (p' := 83) h em3_82 rfl rfl
          replace h := tx_getc (c := 1) (j := 1) (p' := 86) h em3_83 ((congrFun xo_2 11).trans rfl) rfl rfl rfl
          replace h := tx_iload (p' := 88) h em3_86 rfl rfl
          obtain ⟨hb88, h⟩ := tx_iald (len := 9) (p' := 89) h em3_88 rfl rfl
          replace hb88 : (0 : Int) ≤ (ω.1 11 p.toInt.toNat).toInt ∧ (ω.1 11 p.toInt.toNat).toInt < 9 := hb88
          obtain ⟨hb89, h⟩ := tx_iast (len := 16) (p' := 90) h em3_89 rfl rfl
          replace hb89 : (0 : Int) ≤ t.toInt ∧ t.toInt < 16 := hb89
          replace h := tx_iinc (v := 1) (p' := 93) h em3_90 (by decide +kernel) rfl rfl
          replace h : eT xq_3 _ 93 [some (.inr (.inl (some 48))), some (.inl l), some (.inl (p + 1)), some (.inl (t + 1)), some (.inl (ω.1 10 p.toInt.toNat)), some (.inl (ω.1 11 p.toInt.toNat))] [] (xpi ω 50 t.toInt.toNat (ω.1 49 (ω.1 11 p.toInt.toNat).toInt.toNat)) r μ' := h
          replace h := tx_goto (t := 215) h em3_93 (by decide)
          obtain ⟨n2, hn2, h⟩ := tx_gotoS (t := 12) h em3_215 (by decide)
          exfalso
          omega
        · replace c74 : ¬ ¬ (ω.1 10 p.toInt.toNat).toInt = 0 := c74
          replace h := tx_iload (p' := 79) h em3_77 rfl rfl
          replace h := tx_goto (t := 89) h em3_79 (by decide)
          obtain ⟨hb89_1, h⟩ := tx_iast (len := 16) (p' := 90) h em3_89 rfl rfl
          replace hb89_1 : (0 : Int) ≤ t.toInt ∧ t.toInt < 16 := hb89_1
          replace h := tx_iinc (v := 1) (p' := 93) h em3_90 (by decide +kernel) rfl rfl
          replace h : eT xq_3 _ 93 [some (.inr (.inl (some 48))), some (.inl l), some (.inl (p + 1)), some (.inl (t + 1)), some (.inl (ω.1 10 p.toInt.toNat)), some (.inl (ω.1 11 p.toInt.toNat))] [] (xpi ω 50 t.toInt.toNat (ω.1 11 p.toInt.toNat)) r μ' := h
          replace h := tx_goto (t := 215) h em3_93 (by decide)
          obtain ⟨n2, hn2, h⟩ := tx_gotoS (t := 12) h em3_215 (by decide)
          exfalso
          omega
      · replace c62 : ¬ t.toInt < 16 := c62
        replace h := tx_iconst (v := 0) (p' := 66) h em3_65 (by decide +kernel) rfl
        obtain ⟨rfl, hμ⟩ := tx_ireturn h em3_66
        exfalso
        omega
    · replace c50 : ¬ (ω.1 10 p.toInt.toNat).toInt = 0 := c50
      replace h := tx_iload (p' := 55) h em3_53 rfl rfl
      replace h := tx_iconst (v := 1) (p' := 56) h em3_55 (by decide +kernel) rfl
      rcases tx_icmp (t := 96) (p' := 59) h em3_56 (by decide) rfl with ⟨c56, h⟩ | ⟨c56, h⟩
      · replace c56 : ¬ (ω.1 10 p.toInt.toNat).toInt = 1 := c56
        replace h := tx_iload (p' := 98) h em3_96 rfl rfl
        replace h := tx_bipush (v := 7) (p' := 100) h em3_98 (by decide +kernel) rfl
        rcases tx_icmp (t := 120) (p' := 103) h em3_100 (by decide) rfl with ⟨c100, h⟩ | ⟨c100, h⟩
        · replace c100 : ¬ (ω.1 10 p.toInt.toNat).toInt = 7 := c100
          replace h := tx_iload_n (p' := 121) h em3_120 rfl rfl
          replace h := tx_iconst (v := 2) (p' := 122) h em3_121 (by decide +kernel) rfl
          rcases tx_icmp (t := 142) (p' := 125) h em3_122 (by decide) rfl with ⟨c122, h⟩ | ⟨c122, h⟩
          · replace c122 : t.toInt < 2 := c122
            replace h := tx_iconst (v := 0) (p' := 143) h em3_142 (by decide +kernel) rfl
            obtain ⟨rfl, hμ⟩ := tx_ireturn h em3_143
            exfalso
            omega
          · replace c122 : ¬ t.toInt < 2 := c122
            replace h := tx_iload (p' := 127) h em3_125 rfl rfl
            replace h := tx_iconst (v := 5) (p' := 128) h em3_127 (by decide +kernel) rfl
            rcases tx_icmp (t := 144) (p' := 131) h em3_128 (by decide) rfl with ⟨c128, h⟩ | ⟨c128, h⟩
            · replace c128 : ¬ (ω.1 10 p.toInt.toNat).toInt = 5 := c128
              replace h := tx_iload (p' := 146) h em3_144 rfl rfl
              replace h := tx_bipush (v := 6) (p' := 148) h em3_146 (by decide +kernel) rfl
              rcases tx_icmp (t := 185) (p' := 151) h em3_148 (by decide) rfl with ⟨c148, h⟩ | ⟨c148, h⟩
              · replace c148 : ¬ (ω.1 10 p.toInt.toNat).toInt = 6 := c148
                replace h := tx_iinc (v := (-1)) (p' := 188) h em3_185 (by decide +kernel) rfl rfl
                replace h : eT xq_3 _ 188 [some (.inr (.inl (some 48))), some (.inl l), some (.inl (p + 1)), some (.inl (t + (-1))), some (.inl (ω.1 10 p.toInt.toNat)), some (.inl (ω.1 11 p.toInt.toNat))] [] ω r μ' := h
                have et1 : (t + -1).toInt = t.toInt - 1 := ka1 (by omega)
                obtain ⟨t1, ht1⟩ : ∃ z, z = t + -1 := ⟨_, rfl⟩
                rw [← ht1] at et1 h
                clear ht1
                replace h := tx_aload_n (p' := 189) h em3_188 rfl rfl
                replace h := tx_getc (c := 1) (j := 2) (p' := 192) h em3_189 ((congrFun xo_2 15).trans rfl) rfl rfl rfl
                replace h := tx_iload_n (p' := 193) h em3_192 rfl rfl
                replace h := tx_iconst (v := 1) (p' := 194) h em3_193 (by decide +kernel) rfl
                replace h := tx_isub (p' := 195) h em3_194 rfl
                replace h := tx_iload (p' := 197) h em3_195 rfl rfl
                replace h := tx_aload_n (p' := 198) h em3_197 rfl rfl
                replace h := tx_getc (c := 1) (j := 2) (p' := 201) h em3_198 ((congrFun xo_2 15).trans rfl) rfl rfl rfl
                replace h := tx_iload_n (p' := 202) h em3_201 rfl rfl
                replace h := tx_iconst (v := 1) (p' := 203) h em3_202 (by decide +kernel) rfl
                replace h := tx_isub (p' := 204) h em3_203 rfl
                obtain ⟨hb204, h⟩ := tx_iald (len := 16) (p' := 205) h em3_204 rfl rfl
                replace hb204 : (0 : Int) ≤ (t1 - (1 : Int32)).toInt ∧ (t1 - (1 : Int32)).toInt < 16 := hb204
                replace h := tx_aload_n (p' := 206) h em3_205 rfl rfl
                replace h := tx_getc (c := 1) (j := 2) (p' := 209) h em3_206 ((congrFun xo_2 15).trans rfl) rfl rfl rfl
                replace h := tx_iload_n (p' := 210) h em3_209 rfl rfl
                obtain ⟨hb210, h⟩ := tx_iald (len := 16) (p' := 211) h em3_210 rfl rfl
                replace hb210 : (0 : Int) ≤ t1.toInt ∧ t1.toInt < 16 := hb210
                exfalso
                omega
              · replace c148 : ¬ ¬ (ω.1 10 p.toInt.toNat).toInt = 6 := c148
                replace h := tx_iinc (v := (-2)) (p' := 154) h em3_151 (by decide +kernel) rfl rfl
                replace h : eT xq_3 _ 154 [some (.inr (.inl (some 48))), some (.inl l), some (.inl (p + 1)), some (.inl (t + (-2))), some (.inl (ω.1 10 p.toInt.toNat)), some (.inl (ω.1 11 p.toInt.toNat))] [] ω r μ' := h
                have et2 : (t + -2).toInt = t.toInt - 2 := kb2 (by omega)
                obtain ⟨t2, ht2⟩ : ∃ z, z = t + -2 := ⟨_, rfl⟩
                rw [← ht2] at et2 h
                clear ht2
                replace h := tx_aload_n (p' := 155) h em3_154 rfl rfl
                replace h := tx_getc (c := 1) (j := 2) (p' := 158) h em3_155 ((congrFun xo_2 15).trans rfl) rfl rfl rfl
                replace h := tx_iload_n (p' := 159) h em3_158 rfl rfl
                obtain ⟨hb159, h⟩ := tx_iald (len := 16) (p' := 160) h em3_159 rfl rfl
                replace hb159 : (0 : Int) ≤ t2.toInt ∧ t2.toInt < 16 := hb159
                replace h := tx_aload_n (p' := 161) h em3_160 rfl rfl
                replace h := tx_getc (c := 1) (j := 2) (p' := 164) h em3_161 ((congrFun xo_2 15).trans rfl) rfl rfl rfl
                replace h := tx_iload_n (p' := 165) h em3_164 rfl rfl
                replace h := tx_iconst (v := 1) (p' := 166) h em3_165 (by decide +kernel) rfl
                replace h := tx_iadd (p' := 167) h em3_166 rfl
                obtain ⟨hb167, h⟩ := tx_iald (len := 16) (p' := 168) h em3_167 rfl rfl
                replace hb167 : (0 : Int) ≤ (t2 + (1 : Int32)).toInt ∧ (t2 + (1 : Int32)).toInt < 16 := hb167
                rcases tx_icmp (t := 175) (p' := 171) h em3_168 (by decide) rfl with ⟨c168, h⟩ | ⟨c168, h⟩
                · replace c168 : (ω.1 50 (t2 + (1 : Int32)).toInt.toNat).toInt ≤ (ω.1 50 t2.toInt.toNat).toInt := c168
                  replace h := tx_iload_n (p' := 176) h em3_175 rfl rfl
                  replace h := tx_iload (p' := 178) h em3_176 rfl rfl
                  replace h := tx_max (p' := 181) h em3_178 ((congrFun xo_2 48).trans rfl) rfl
                  replace h := tx_istore_n (p' := 182) h em3_181 rfl
                  replace h : eT xq_3 _ 182 [some (.inr (.inl (some 48))), some (.inl l), some (.inl (if (p + 1) < (ω.1 11 p.toInt.toNat) then (ω.1 11 p.toInt.toNat) else (p + 1))), some (.inl t2), some (.inl (ω.1 10 p.toInt.toNat)), some (.inl (ω.1 11 p.toInt.toNat))] [] ω r μ' := h
                  replace h := tx_goto (t := 215) h em3_182 (by decide)
                  obtain ⟨n2, hn2, h⟩ := tx_gotoS (t := 12) h em3_215 (by decide)
                  exact ⟨_, _, _, t2, et2, h⟩
                · replace c168 : ¬ (ω.1 50 (t2 + (1 : Int32)).toInt.toNat).toInt ≤ (ω.1 50 t2.toInt.toNat).toInt := c168
                  replace h := tx_iload_n (p' := 172) h em3_171 rfl rfl
                  replace h := tx_goto (t := 181) h em3_172 (by decide)
                  replace h := tx_istore_n (p' := 182) h em3_181 rfl
                  replace h : eT xq_3 _ 182 [some (.inr (.inl (some 48))), some (.inl l), some (.inl (p + 1)), some (.inl t2), some (.inl (ω.1 10 p.toInt.toNat)), some (.inl (ω.1 11 p.toInt.toNat))] [] ω r μ' := h
                  replace h := tx_goto (t := 215) h em3_182 (by decide)
                  obtain ⟨n2, hn2, h⟩ := tx_gotoS (t := 12) h em3_215 (by decide)
                  have eu : (t2 + (1 : Int32)).toInt = t.toInt - 1 := by rw [an_add (by rw [e1i]; omega) (by rw [e1i]; omega), e1i]; omega
                  rw [eu, et2] at c168
                  exfalso
                  omega
            · replace c128 : ¬ ¬ (ω.1 10 p.toInt.toNat).toInt = 5 := c128
              replace h := tx_aload_n (p' := 132) h em3_131 rfl rfl
              replace h := tx_getc (c := 1) (j := 2) (p' := 135) h em3_132 ((congrFun xo_2 15).trans rfl) rfl rfl rfl
              replace h := tx_iload_n (p' := 136) h em3_135 rfl rfl
              replace h := tx_iconst (v := 1) (p' := 137) h em3_136 (by decide +kernel) rfl
              replace h := tx_isub (p' := 138) h em3_137 rfl
              obtain ⟨hb138, h⟩ := tx_iald (len := 16) (p' := 139) h em3_138 rfl rfl
              replace hb138 : (0 : Int) ≤ (t - (1 : Int32)).toInt ∧ (t - (1 : Int32)).toInt < 16 := hb138
              rcases tx_if (t := 144) (p' := 142) h em3_139 (by decide) rfl with ⟨c139, h⟩ | ⟨c139, h⟩
              · replace c139 : ¬ (ω.1 50 (t - (1 : Int32)).toInt.toNat).toInt = 0 := c139
                replace h := tx_iload (p' := 146) h em3_144 rfl rfl
                replace h := tx_bipush (v := 6) (p' := 148) h em3_146 (by decide +kernel) rfl
                rcases tx_icmp (t := 185) (p' := 151) h em3_148 (by decide) rfl with ⟨c148_1, h⟩ | ⟨c148_1, h⟩
                · replace c148_1 : ¬ (ω.1 10 p.toInt.toNat).toInt = 6 := c148_1
                  replace h := tx_iinc (v := (-1)) (p' := 188) h em3_185 (by decide +kernel) rfl rfl
                  replace h : eT xq_3 _ 188 [some (.inr (.inl (some 48))), some (.inl l), some (.inl (p + 1)), some (.inl (t + (-1))), some (.inl (ω.1 10 p.toInt.toNat)), some (.inl (ω.1 11 p.toInt.toNat))] [] ω r μ' := h
                  have et1 : (t + -1).toInt = t.toInt - 1 := ka1 (by omega)
                  obtain ⟨t1, ht1⟩ : ∃ z, z = t + -1 := ⟨_, rfl⟩
                  rw [← ht1] at et1 h
                  clear ht1
                  replace h := tx_aload_n (p' := 189) h em3_188 rfl rfl
                  replace h := tx_getc (c := 1) (j := 2) (p' := 192) h em3_189 ((congrFun xo_2 15).trans rfl) rfl rfl rfl
                  replace h := tx_iload_n (p' := 193) h em3_192 rfl rfl
                  replace h := tx_iconst (v := 1) (p' := 194) h em3_193 (by decide +kernel) rfl
                  replace h := tx_isub (p' := 195) h em3_194 rfl
                  replace h := tx_iload (p' := 197) h em3_195 rfl rfl
                  replace h := tx_aload_n (p' := 198) h em3_197 rfl rfl
                  replace h := tx_getc (c := 1) (j := 2) (p' := 201) h em3_198 ((congrFun xo_2 15).trans rfl) rfl rfl rfl
                  replace h := tx_iload_n (p' := 202) h em3_201 rfl rfl
                  replace h := tx_iconst (v := 1) (p' := 203) h em3_202 (by decide +kernel) rfl
                  replace h := tx_isub (p' := 204) h em3_203 rfl
                  obtain ⟨hb204_1, h⟩ := tx_iald (len := 16) (p' := 205) h em3_204 rfl rfl
                  replace hb204_1 : (0 : Int) ≤ (t1 - (1 : Int32)).toInt ∧ (t1 - (1 : Int32)).toInt < 16 := hb204_1
                  replace h := tx_aload_n (p' := 206) h em3_205 rfl rfl
                  replace h := tx_getc (c := 1) (j := 2) (p' := 209) h em3_206 ((congrFun xo_2 15).trans rfl) rfl rfl rfl
                  replace h := tx_iload_n (p' := 210) h em3_209 rfl rfl
                  obtain ⟨hb210_1, h⟩ := tx_iald (len := 16) (p' := 211) h em3_210 rfl rfl
                  replace hb210_1 : (0 : Int) ≤ t1.toInt ∧ t1.toInt < 16 := hb210_1
                  exfalso
                  omega
                · replace c148_1 : ¬ ¬ (ω.1 10 p.toInt.toNat).toInt = 6 := c148_1
                  replace h := tx_iinc (v := (-2)) (p' := 154) h em3_151 (by decide +kernel) rfl rfl
                  replace h : eT xq_3 _ 154 [some (.inr (.inl (some 48))), some (.inl l), some (.inl (p + 1)), some (.inl (t + (-2))), some (.inl (ω.1 10 p.toInt.toNat)), some (.inl (ω.1 11 p.toInt.toNat))] [] ω r μ' := h
                  have et2 : (t + -2).toInt = t.toInt - 2 := kb2 (by omega)
                  obtain ⟨t2, ht2⟩ : ∃ z, z = t + -2 := ⟨_, rfl⟩
                  rw [← ht2] at et2 h
                  clear ht2
                  replace h := tx_aload_n (p' := 155) h em3_154 rfl rfl
                  replace h := tx_getc (c := 1) (j := 2) (p' := 158) h em3_155 ((congrFun xo_2 15).trans rfl) rfl rfl rfl
                  replace h := tx_iload_n (p' := 159) h em3_158 rfl rfl
                  obtain ⟨hb159_1, h⟩ := tx_iald (len := 16) (p' := 160) h em3_159 rfl rfl
                  replace hb159_1 : (0 : Int) ≤ t2.toInt ∧ t2.toInt < 16 := hb159_1
                  replace h := tx_aload_n (p' := 161) h em3_160 rfl rfl
                  replace h := tx_getc (c := 1) (j := 2) (p' := 164) h em3_161 ((congrFun xo_2 15).trans rfl) rfl rfl rfl
                  replace h := tx_iload_n (p' := 165) h em3_164 rfl rfl
                  replace h := tx_iconst (v := 1) (p' := 166) h em3_165 (by decide +kernel) rfl
                  replace h := tx_iadd (p' := 167) h em3_166 rfl
                  obtain ⟨hb167_1, h⟩ := tx_iald (len := 16) (p' := 168) h em3_167 rfl rfl
                  replace hb167_1 : (0 : Int) ≤ (t2 + (1 : Int32)).toInt ∧ (t2 + (1 : Int32)).toInt < 16 := hb167_1
                  rcases tx_icmp (t := 175) (p' := 171) h em3_168 (by decide) rfl with ⟨c168_1, h⟩ | ⟨c168_1, h⟩
                  · replace c168_1 : (ω.1 50 (t2 + (1 : Int32)).toInt.toNat).toInt ≤ (ω.1 50 t2.toInt.toNat).toInt := c168_1
                    replace h := tx_iload_n (p' := 176) h em3_175 rfl rfl
                    replace h := tx_iload (p' := 178) h em3_176 rfl rfl
                    replace h := tx_max (p' := 181) h em3_178 ((congrFun xo_2 48).trans rfl) rfl
                    replace h := tx_istore_n (p' := 182) h em3_181 rfl
                    replace h : eT xq_3 _ 182 [some (.inr (.inl (some 48))), some (.inl l), some (.inl (if (p + 1) < (ω.1 11 p.toInt.toNat) then (ω.1 11 p.toInt.toNat) else (p + 1))), some (.inl t2), some (.inl (ω.1 10 p.toInt.toNat)), some (.inl (ω.1 11 p.toInt.toNat))] [] ω r μ' := h
                    replace h := tx_goto (t := 215) h em3_182 (by decide)
                    obtain ⟨n2, hn2, h⟩ := tx_gotoS (t := 12) h em3_215 (by decide)
                    exact ⟨_, _, _, t2, et2, h⟩
                  · replace c168_1 : ¬ (ω.1 50 (t2 + (1 : Int32)).toInt.toNat).toInt ≤ (ω.1 50 t2.toInt.toNat).toInt := c168_1
                    replace h := tx_iload_n (p' := 172) h em3_171 rfl rfl
                    replace h := tx_goto (t := 181) h em3_172 (by decide)
                    replace h := tx_istore_n (p' := 182) h em3_181 rfl
                    replace h : eT xq_3 _ 182 [some (.inr (.inl (some 48))), some (.inl l), some (.inl (p + 1)), some (.inl t2), some (.inl (ω.1 10 p.toInt.toNat)), some (.inl (ω.1 11 p.toInt.toNat))] [] ω r μ' := h
                    replace h := tx_goto (t := 215) h em3_182 (by decide)
                    obtain ⟨n2, hn2, h⟩ := tx_gotoS (t := 12) h em3_215 (by decide)
                    have eu : (t2 + (1 : Int32)).toInt = t.toInt - 1 := by rw [an_add (by rw [e1i]; omega) (by rw [e1i]; omega), e1i]; omega
                    rw [eu, et2] at c168_1
                    exfalso
                    omega
              · replace c139 : ¬ ¬ (ω.1 50 (t - (1 : Int32)).toInt.toNat).toInt = 0 := c139
                replace h := tx_iconst (v := 0) (p' := 143) h em3_142 (by decide +kernel) rfl
                obtain ⟨rfl, hμ⟩ := tx_ireturn h em3_143
                exfalso
                omega
        · replace c100 : ¬ ¬ (ω.1 10 p.toInt.toNat).toInt = 7 := c100
          replace h := tx_iload_n (p' := 104) h em3_103 rfl rfl
          rcases tx_if (t := 118) (p' := 107) h em3_104 (by decide) rfl with ⟨c104, h⟩ | ⟨c104, h⟩
          · replace c104 : t.toInt ≤ 0 := c104
            replace h := tx_iconst (v := 0) (p' := 119) h em3_118 (by decide +kernel) rfl
            obtain ⟨rfl, hμ⟩ := tx_ireturn h em3_119
            exfalso
            omega
          · replace c104 : ¬ t.toInt ≤ 0 := c104
            replace h := tx_aload_n (p' := 108) h em3_107 rfl rfl
            replace h := tx_getc (c := 1) (j := 2) (p' := 111) h em3_108 ((congrFun xo_2 15).trans rfl) rfl rfl rfl
            replace h := tx_iload_n (p' := 112) h em3_111 rfl rfl
            replace h := tx_iconst (v := 1) (p' := 113) h em3_112 (by decide +kernel) rfl
            replace h := tx_isub (p' := 114) h em3_113 rfl
            obtain ⟨hb114, h⟩ := tx_iald (len := 16) (p' := 115) h em3_114 rfl rfl
            replace hb114 : (0 : Int) ≤ (t - (1 : Int32)).toInt ∧ (t - (1 : Int32)).toInt < 16 := hb114
            replace h := tx_goto (t := 119) h em3_115 (by decide)
            obtain ⟨rfl, hμ⟩ := tx_ireturn h em3_119
            exfalso
            omega
      · replace c56 : ¬ ¬ (ω.1 10 p.toInt.toNat).toInt = 1 := c56
        replace h := tx_iload_n (p' := 60) h em3_59 rfl rfl
        replace h := tx_bipush (v := 16) (p' := 62) h em3_60 (by decide +kernel) rfl
        rcases tx_icmp (t := 67) (p' := 65) h em3_62 (by decide) rfl with ⟨c62_1, h⟩ | ⟨c62_1, h⟩
        · replace c62_1 : t.toInt < 16 := c62_1
          replace h := tx_aload_n (p' := 68) h em3_67 rfl rfl
          replace h := tx_getc (c := 1) (j := 2) (p' := 71) h em3_68 ((congrFun xo_2 15).trans rfl) rfl rfl rfl
          replace h := tx_iload_n (p' := 72) h em3_71 rfl rfl
          replace h := tx_iload (p' := 74) h em3_72 rfl rfl
          rcases tx_if (t := 82) (p' := 77) h em3_74 (by decide) rfl with ⟨c74_1, h⟩ | ⟨c74_1, h⟩
          · replace c74_1 : ¬ (ω.1 10 p.toInt.toNat).toInt = 0 := c74_1
            replace h := tx_aload_n (p' := 83) h em3_82 rfl rfl
            replace h := tx_getc (c := 1) (j := 1) (p' := 86) h em3_83 ((congrFun xo_2 11).trans rfl) rfl rfl rfl
            replace h := tx_iload (p' := 88) h em3_86 rfl rfl
            obtain ⟨hb88_1, h⟩ := tx_iald (len := 9) (p' := 89) h em3_88 rfl rfl
            replace hb88_1 : (0 : Int) ≤ (ω.1 11 p.toInt.toNat).toInt ∧ (ω.1 11 p.toInt.toNat).toInt < 9 := hb88_1
            obtain ⟨hb89_2, h⟩ := tx_iast (len := 16) (p' := 90) h em3_89 rfl rfl
            replace hb89_2 : (0 : Int) ≤ t.toInt ∧ t.toInt < 16 := hb89_2
            replace h := tx_iinc (v := 1) (p' := 93) h em3_90 (by decide +kernel) rfl rfl
            replace h : eT xq_3 _ 93 [some (.inr (.inl (some 48))), some (.inl l), some (.inl (p + 1)), some (.inl (t + 1)), some (.inl (ω.1 10 p.toInt.toNat)), some (.inl (ω.1 11 p.toInt.toNat))] [] (xpi ω 50 t.toInt.toNat (ω.1 49 (ω.1 11 p.toInt.toNat).toInt.toNat)) r μ' := h
            replace h := tx_goto (t := 215) h em3_93 (by decide)
            obtain ⟨n2, hn2, h⟩ := tx_gotoS (t := 12) h em3_215 (by decide)
            exfalso
            omega
          · replace c74_1 : ¬ ¬ (ω.1 10 p.toInt.toNat).toInt = 0 := c74_1
            replace h := tx_iload (p' := 79) h em3_77 rfl rfl
            replace h := tx_goto (t := 89) h em3_79 (by decide)
            obtain ⟨hb89_3, h⟩ := tx_iast (len := 16) (p' := 90) h em3_89 rfl rfl
            replace hb89_3 : (0 : Int) ≤ t.toInt ∧ t.toInt < 16 := hb89_3
            replace h := tx_iinc (v := 1) (p' := 93) h em3_90 (by decide +kernel) rfl rfl
            replace h : eT xq_3 _ 93 [some (.inr (.inl (some 48))), some (.inl l), some (.inl (p + 1)), some (.inl (t + 1)), some (.inl (ω.1 10 p.toInt.toNat)), some (.inl (ω.1 11 p.toInt.toNat))] [] (xpi ω 50 t.toInt.toNat (ω.1 11 p.toInt.toNat)) r μ' := h
            replace h := tx_goto (t := 215) h em3_93 (by decide)
            obtain ⟨n2, hn2, h⟩ := tx_gotoS (t := 12) h em3_215 (by decide)
            exfalso
            omega
        · replace c62_1 : ¬ t.toInt < 16 := c62_1
          replace h := tx_iconst (v := 0) (p' := 66) h em3_65 (by decide +kernel) rfl
          obtain ⟨rfl, hμ⟩ := tx_ireturn h em3_66
          exfalso
          omega
