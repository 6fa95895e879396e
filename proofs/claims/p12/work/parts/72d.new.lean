/-! ===== a new town: new, dup, its constructor ===== -/
def wT1 : xW := (10, 1, [[some (.inr (.inr (8, [.inr (.inl none), .inr (.inl none), .inr (.inl none), .inr (.inl none), .inr (.inl none), .inl (2147483648, 2147483648), .inl (2147483648, 2147483648), .inl (2147483648, 2147483648), .inl (2147483648, 2147483648), .inl (2147483648, 2147483648)]))), none, none, none, none, none, none, none, none, none, none, none, none, none, none, none]])
def wT6 : xW := (386, 6, [[some (.inr (.inr (8, [.inr (.inl (some 1)), .inr (.inl (some 2)), .inr (.inl (some 3)), .inr (.inl (some 4)), .inr (.inl (some 5)), .inl (2147483648, 2147483648), .inl (2147483648, 2147483648), .inl (2147483648, 2147483648), .inl (2147483648, 2147483648), .inl (2147483648, 2147483648)]))), some (.inl (0, 40, (2147483648, 2147483648), [])), some (.inl (0, 40, (2147483648, 2147483648), [])), some (.inl (0, 40, (2147483648, 2147483648), [])), some (.inl (0, 200, (2147483648, 2147483648), [])), some (.inl (0, 56, (2147483648, 2147483648), [])), none, none, none, none, none, none, none, none, none, none]])
def qR (a b : Option xV × xW) : Bool := qO qV a.1 b.1 && qW a.2 b.2
theorem qR_ok (a b : Option xV × xW) (h : qR a b = true) : a = b := by
  simp only [qR, Bool.and_eq_true] at h
  exact Prod.ext (qO_ok qV_ok _ _ h.1) (qW_ok _ _ h.2)
set_option maxRecDepth 100000 in
theorem townA0 : qO qR (ycall PT 200 3 11 [.inr (.inl (some 0))] wT1) (some (none, wT6)) = true := by decide +kernel
theorem townA : xcall PT 200 3 11 [.inr (.inl (some 0))] wT1 = some (none, wT6) := by
  have h := qO_ok qR_ok _ _ townA0
  rw [ycall_eq] at h
  exact h
theorem townM : xMet (⟨"CapitalCase$Town", "<init>", "()V"⟩, prog_10_method_1_code, 1, none) 3 [.inr (.inl (some 0))] wT1 none wT6 := (xcall_ok PT_ok 3 11 _ _ _ _ townA).2 _ rfl
set_option maxRecDepth 100000 in
theorem zknT_lt : ∀ (k v : Nat), zknT k = some v → k < 119 := (xB_n (xB_n (xB_n (xB_n (xB_n (xB_n (xB_l (by decide)) (xB_n (xB_l (by decide)) (xB_l (by decide)))) (xB_n (xB_n (xB_l (by decide)) (xB_l (by decide))) (xB_n (xB_l (by decide)) (xB_l (by decide))))) (xB_n (xB_n (xB_l (by decide)) (xB_n (xB_l (by decide)) (xB_l (by decide)))) (xB_n (xB_n (xB_l (by decide)) (xB_l (by decide))) (xB_n (xB_l (by decide)) (xB_l (by decide)))))) (xB_n (xB_n (xB_n (xB_l (by decide)) (xB_n (xB_l (by decide)) (xB_l (by decide)))) (xB_n (xB_n (xB_l (by decide)) (xB_l (by decide))) (xB_n (xB_l (by decide)) (xB_l (by decide))))) (xB_n (xB_n (xB_n (xB_l (by decide)) (xB_l (by decide))) (xB_n (xB_l (by decide)) (xB_l (by decide)))) (xB_n (xB_n (xB_l (by decide)) (xB_l (by decide))) (xB_n (xB_l (by decide)) (xB_l (by decide))))))) (xB_n (xB_n (xB_n (xB_n (xB_l (by decide)) (xB_n (xB_l (by decide)) (xB_l (by decide)))) (xB_n (xB_n (xB_l (by decide)) (xB_l (by decide))) (xB_n (xB_l (by decide)) (xB_l (by decide))))) (xB_n (xB_n (xB_n (xB_l (by decide)) (xB_l (by decide))) (xB_n (xB_l (by decide)) (xB_l (by decide)))) (xB_n (xB_n (xB_l (by decide)) (xB_l (by decide))) (xB_n (xB_l (by decide)) (xB_l (by decide)))))) (xB_n (xB_n (xB_n (xB_l (by decide)) (xB_n (xB_l (by decide)) (xB_l (by decide)))) (xB_n (xB_n (xB_l (by decide)) (xB_l (by decide))) (xB_n (xB_l (by decide)) (xB_l (by decide))))) (xB_n (xB_n (xB_n (xB_l (by decide)) (xB_l (by decide))) (xB_n (xB_l (by decide)) (xB_l (by decide)))) (xB_n (xB_n (xB_l (by decide)) (xB_l (by decide))) (xB_n (xB_l (by decide)) (xB_l (by decide)))))))) (xB_n (xB_n (xB_n (xB_n (xB_n (xB_l (by decide)) (xB_n (xB_l (by decide)) (xB_l (by decide)))) (xB_n (xB_n (xB_l (by decide)) (xB_l (by decide))) (xB_n (xB_l (by decide)) (xB_l (by decide))))) (xB_n (xB_n (xB_n (xB_l (by decide)) (xB_l (by decide))) (xB_n (xB_l (by decide)) (xB_l (by decide)))) (xB_n (xB_n (xB_l (by decide)) (xB_l (by decide))) (xB_n (xB_l (by decide)) (xB_l (by decide)))))) (xB_n (xB_n (xB_n (xB_l (by decide)) (xB_n (xB_l (by decide)) (xB_l (by decide)))) (xB_n (xB_n (xB_l (by decide)) (xB_l (by decide))) (xB_n (xB_l (by decide)) (xB_l (by decide))))) (xB_n (xB_n (xB_n (xB_l (by decide)) (xB_l (by decide))) (xB_n (xB_l (by decide)) (xB_l (by decide)))) (xB_n (xB_n (xB_l (by decide)) (xB_l (by decide))) (xB_n (xB_l (by decide)) (xB_l (by decide))))))) (xB_n (xB_n (xB_n (xB_n (xB_l (by decide)) (xB_n (xB_l (by decide)) (xB_l (by decide)))) (xB_n (xB_n (xB_l (by decide)) (xB_l (by decide))) (xB_n (xB_l (by decide)) (xB_l (by decide))))) (xB_n (xB_n (xB_n (xB_l (by decide)) (xB_l (by decide))) (xB_n (xB_l (by decide)) (xB_l (by decide)))) (xB_n (xB_n (xB_l (by decide)) (xB_l (by decide))) (xB_n (xB_l (by decide)) (xB_l (by decide)))))) (xB_n (xB_n (xB_n (xB_l (by decide)) (xB_n (xB_l (by decide)) (xB_l (by decide)))) (xB_n (xB_n (xB_l (by decide)) (xB_l (by decide))) (xB_n (xB_l (by decide)) (xB_l (by decide))))) (xB_n (xB_n (xB_n (xB_l (by decide)) (xB_l (by decide))) (xB_n (xB_l (by decide)) (xB_l (by decide)))) (xB_n (xB_n (xB_l (by decide)) (xB_l (by decide))) (xB_n (xB_l (by decide)) (xB_l (by decide)))))))))
theorem zkn_hi {N j : Nat} (h : 119 ≤ N) (hm : N % 6 = 5) (hj : j < 6) : zG0.1 (N + j) = 1000 + j := by
  show zkn (N + j) = 1000 + j
  unfold zkn
  split
  · rename_i v hv
    have := zknT_lt _ _ hv
    omega
  · omega
theorem xRI_0 {x : Int32} (h : xRI (2147483648, 2147483648) x) : x.toInt = 0 := by
  obtain ⟨h1, h2⟩ := h
  have h1 : 2147483648 ≤ xo x := h1
  have h2 : xo x ≤ 2147483648 := h2
  unfold xo at h1 h2
  have := Int32.le_toInt x
  omega
theorem xlk0 {d : Nat × Nat} {j : Nat} : xlk [] d j = d := rfl
/-- an array of a new town -/
theorem zCell_arr {sz b kd n : Nat} {tys : List (ClassId × FieldType)} {I : zI} {k : Nat} {u : va_E} (hk : zG0.1 k = kd) (hd : zG0.2.1 kd = .inr (0, n)) (hv : zvs kd = false) (he : ∀ j, eOK (zta (ztb kd)) j 0) (h : xRE sz b tys (.inl (0, n, (2147483648, 2147483648), [])) u) {sz' N' : Nat} : zCell zG0 sz' N' tys I k u := by
  obtain ⟨cA, ty, h1, h2, h3⟩ := h
  unfold zCell
  rw [hk, hd]
  rcases h3 with ⟨-, f, rfl, h4⟩ | ⟨h3, -⟩
  · refine ⟨cA, ty, h1, h2, Or.inl ⟨by decide, f, rfl, fun j hj => Or.inr ⟨hv, ?_⟩⟩⟩
    show eOK (zta (ztb kd)) j (f j).toInt
    rw [xRI_0 (h4 j hj)]
    exact he j
  · cases h3
theorem zCell_town {sz N b : Nat} {tys : List (ClassId × FieldType)} {I : zI} {u : va_E} (h : 119 ≤ N) (hm : N % 6 = 5) (hx : xRE (sz + N) b tys (.inr (.inr (8, [.inr (.inl (some 1)), .inr (.inl (some 2)), .inr (.inl (some 3)), .inr (.inl (some 4)), .inr (.inl (some 5)), .inl (2147483648, 2147483648), .inl (2147483648, 2147483648), .inl (2147483648, 2147483648), .inl (2147483648, 2147483648), .inl (2147483648, 2147483648)]))) u) : zCell zG0 sz (N + 6) tys I (N + 0) u := by
  obtain ⟨vs, rfl, hvs⟩ := hx
  obtain ⟨u0, s0, rfl, h0, u1, s1, rfl, h1, u2, s2, rfl, h2, u3, s3, rfl, h3, u4, s4, rfl, h4, u5, s5, rfl, ⟨x5, rfl, h5⟩, u6, s6, rfl, ⟨x6, rfl, h6⟩, u7, s7, rfl, ⟨x7, rfl, h7⟩, u8, s8, rfl, ⟨x8, rfl, h8⟩, u9, s9, rfl, ⟨x9, rfl, h9⟩, rfl⟩ := hvs
  have e0 : u0 = .ref (sz + (N + 1)) := by rw [← Nat.add_assoc]; exact h0
  have e1 : u1 = .ref (sz + (N + 2)) := by rw [← Nat.add_assoc]; exact h1
  have e2 : u2 = .ref (sz + (N + 3)) := by rw [← Nat.add_assoc]; exact h2
  have e3 : u3 = .ref (sz + (N + 4)) := by rw [← Nat.add_assoc]; exact h3
  have e4 : u4 = .ref (sz + (N + 5)) := by rw [← Nat.add_assoc]; exact h4
  unfold zCell
  rw [zkn_hi h hm (by decide)]
  have hdd : zG0.2.1 (1000 + 0) = .inl (8, [(3, 1001), (3, 1002), (3, 1003), (3, 1004), (3, 1005), (1, 0), (1, 0), (1, 0), (1, 0), (1, 0)]) := rfl
  rw [hdd]
  have tp : ∀ x : Int32, zG0.2.2.2.1 0 x := fun x => ⟨an_lo x, an_hi x⟩
  have rf : ∀ j, j < 6 → ∀ x : Value, x = .ref (sz + (N + j)) → zFt zG0 sz (N + 6) I (3, 1000 + j) x := fun j hj x hx => Or.inr (Or.inr (Or.inr ⟨rfl, N + j, Nat.add_lt_add_left hj N, zkn_hi h hm hj, hx⟩))
  have it : ∀ x : Int32, zFt zG0 sz (N + 6) I (1, 0) (.int x) := fun x => Or.inr (Or.inl ⟨rfl, x, rfl, tp x⟩)
  refine ⟨_, rfl, rfl, fun j ft hj => ?_⟩
  match j, hj with
  | 0, hj => cases hj; exact ⟨_, rfl, rf 1 (by decide) _ e0⟩
  | 1, hj => cases hj; exact ⟨_, rfl, rf 2 (by decide) _ e1⟩
  | 2, hj => cases hj; exact ⟨_, rfl, rf 3 (by decide) _ e2⟩
  | 3, hj => cases hj; exact ⟨_, rfl, rf 4 (by decide) _ e3⟩
  | 4, hj => cases hj; exact ⟨_, rfl, rf 5 (by decide) _ e4⟩
  | 5, hj => cases hj; exact ⟨_, rfl, it _⟩
  | 6, hj => cases hj; exact ⟨_, rfl, it _⟩
  | 7, hj => cases hj; exact ⟨_, rfl, it _⟩
  | 8, hj => cases hj; exact ⟨_, rfl, it _⟩
  | 9, hj => cases hj; exact ⟨_, rfl, it _⟩
  | n + 10, hj => exact absurd hj (by simp)
/-- the cells behind a new town -/
theorem zW_new {sz N b : Nat} {tys : List (ClassId × FieldType)} {I : zI} {ws ws6 : va_W} (h : zW zG0 sz N tys I ws) (h6 : xRW (sz + N) b tys wT6 ws6) : zW zG0 sz (N + 6) tys I (ws ++ ws6) := by
  obtain ⟨h1, h2, h3, h4⟩ := h
  obtain ⟨g1, g2, g3⟩ := h6
  have g1 : ws6.length = 6 := g1
  refine ⟨by rw [List.length_append, h1, g1], fun k hk => ?_, by omega, by omega⟩
  by_cases hkN : k < N
  · obtain ⟨u, hu, hc⟩ := h2 k hkN
    exact ⟨u, by rw [List.getElem?_append_left (by omega)]; exact hu, zCell_mono (by omega) hc⟩
  · have hj : k = N + (k - N) := by omega
    have hjl : k - N < 6 := by omega
    generalize k - N = j at hj hjl
    subst hj
    have app : ∀ q, ws6[j]? = some q → (ws ++ ws6)[N + j]? = some q := fun q hq => by rw [List.getElem?_append_right (by omega), h1, Nat.add_sub_cancel_left]; exact hq
    have arr : ∀ (n : Nat), 1 ≤ j → xwg wT6 j = some (.inl (0, n, (2147483648, 2147483648), [])) → zG0.2.1 (1000 + j) = .inr (0, n) → zvs (1000 + j) = false → (∀ i, eOK (zta (ztb (1000 + j))) i 0) → ∃ u : va_E, (ws ++ ws6)[N + j]? = some (sz + (N + j), u) ∧ zCell zG0 sz (N + 6) tys I (N + j) u := by
      intro n _ hw hd hv he
      obtain ⟨u, hu, hE⟩ := g2 j _ hw
      exact ⟨u, by rw [← Nat.add_assoc]; exact app _ hu, zCell_arr (zkn_hi h3 h4 hjl) hd hv he hE⟩
    have hcs : j = 0 ∨ j = 1 ∨ j = 2 ∨ j = 3 ∨ j = 4 ∨ j = 5 := by omega
    rcases hcs with rfl | rfl | rfl | rfl | rfl | rfl
    · obtain ⟨u, hu, hE⟩ := g2 0 _ rfl
      exact ⟨u, by rw [← Nat.add_assoc]; exact app _ hu, zCell_town h3 h4 hE⟩
    · exact arr 40 (by decide) rfl rfl rfl (fun i => eno rfl)
    · exact arr 40 (by decide) rfl rfl rfl (fun i => eno rfl)
    · exact arr 40 (by decide) rfl rfl rfl (fun i => eno rfl)
    · exact arr 200 (by decide) rfl rfl rfl (fun i => eno rfl)
    · exact arr 56 (by decide) rfl rfl rfl (fun i => eal rfl (by decide) (by decide))
theorem zXs_new {sz N b : Nat} {tys : List (ClassId × FieldType)} {μ : xM} {ws ws6 : va_W} (hN : ws.length = N) (h : zXs sz μ ws) (h6 : xRW (sz + N) b tys wT6 ws6) : zXs sz (xnew μ) (ws ++ ws6) := by
  obtain ⟨g1, g2, g3⟩ := h6
  have g1 : ws6.length = 6 := g1
  have e : μ.2.2.2 = N := by rw [← h.1]; exact hN
  refine ⟨by rw [List.length_append, hN, g1]; show N + 6 = μ.2.2.2 + 6; rw [e], fun k u hk => ?_⟩
  by_cases hkN : k < N
  · rw [List.getElem?_append_left (by omega)] at hk
    refine zX_cg (μ := μ) (μ' := xnew μ) (fun j => ?_) (fun j => rfl) (fun j => ?_) (h.2 k u hk)
    · show (if μ.2.2.2 ≤ k then (0 : Int32) else μ.1 k j) = _
      rw [if_neg (by omega)]
    · show (if k = μ.2.2.2 then some (μ.2.2.2 + 1 + j) else if μ.2.2.2 < k then none else μ.2.2.1 k j) = _
      rw [if_neg (by omega), if_neg (by omega)]
  · rw [List.getElem?_append_right (by omega), hN] at hk
    have hl := (List.getElem?_eq_some_iff.mp hk).1
    have hj : k = N + (k - N) := by omega
    have hjl : k - N < 6 := by omega
    generalize k - N = j at hk hj hjl
    subst hj
    have mI : ∀ i, (xnew μ).1 (N + j) i = 0 := fun i => by
      show (if μ.2.2.2 ≤ N + j then (0 : Int32) else μ.1 (N + j) i) = 0
      rw [if_pos (by omega)]
    have arr : ∀ n : Nat, xwg wT6 j = some (.inl (0, n, (2147483648, 2147483648), [])) → zX sz (xnew μ) (N + j) u := by
      intro n hw
      obtain ⟨u', hu', hE⟩ := g2 j _ hw
      have eu : u' = u := congrArg Prod.snd (Option.some.inj (hu'.symm.trans hk))
      subst eu
      obtain ⟨cA, ty, h1, h2, h3⟩ := hE
      rcases h3 with ⟨-, f, rfl, h4⟩ | ⟨h3, -⟩
      · intro i hi
        rw [mI i]
        exact i0 (xRI_0 (h4 i hi))
      · cases h3
    have hcs : j = 0 ∨ j = 1 ∨ j = 2 ∨ j = 3 ∨ j = 4 ∨ j = 5 := by omega
    rcases hcs with rfl | rfl | rfl | rfl | rfl | rfl
    · obtain ⟨u', hu', hE⟩ := g2 0 _ rfl
      have eu : u' = u := congrArg Prod.snd (Option.some.inj (hu'.symm.trans hk))
      subst eu
      obtain ⟨vs, rfl, hvs⟩ := hE
      obtain ⟨u0, s0, rfl, h0, u1, s1, rfl, h1, u2, s2, rfl, h2, u3, s3, rfl, h3, u4, s4, rfl, h4, u5, s5, rfl, ⟨x5, rfl, h5⟩, u6, s6, rfl, ⟨x6, rfl, h6⟩, u7, s7, rfl, ⟨x7, rfl, h7⟩, u8, s8, rfl, ⟨x8, rfl, h8⟩, u9, s9, rfl, ⟨x9, rfl, h9⟩, rfl⟩ := hvs
      have rf : ∀ (i : Nat) (x : Value), x = .ref (sz + N + (1 + i)) → (∀ v, x = .int v → v = (xnew μ).1 (N + 0) i) ∧ ∀ r, x = .ref (sz + r) → (xnew μ).2.2.1 (N + 0) i = some r := by
        intro i x hx
        refine ⟨(fun v hv => by rw [hx] at hv; cases hv), fun r hr => ?_⟩
        rw [hx] at hr
        have e2 : sz + N + (1 + i) = sz + r := Value.ref.inj hr
        show (if N + 0 = μ.2.2.2 then some (μ.2.2.2 + 1 + i) else _) = some r
        rw [if_pos (by omega)]
        congr 1
        omega
      have it : ∀ (i : Nat) (x : Int32), xRI (2147483648, 2147483648) x → (∀ v, Value.int x = .int v → v = (xnew μ).1 (N + 0) i) ∧ ∀ r, Value.int x = .ref (sz + r) → (xnew μ).2.2.1 (N + 0) i = some r := by
        intro i x hx
        refine ⟨fun v hv => ?_, fun r hr => by cases hr⟩
        cases hv
        rw [mI i]
        exact i0 (xRI_0 hx)
      intro i x hx
      match i, hx with
      | 0, hx => cases hx; exact rf 0 _ h0
      | 1, hx => cases hx; exact rf 1 _ h1
      | 2, hx => cases hx; exact rf 2 _ h2
      | 3, hx => cases hx; exact rf 3 _ h3
      | 4, hx => cases hx; exact rf 4 _ h4
      | 5, hx => cases hx; exact it 5 _ h5
      | 6, hx => cases hx; exact it 6 _ h6
      | 7, hx => cases hx; exact it 7 _ h7
      | 8, hx => cases hx; exact it 8 _ h8
      | 9, hx => cases hx; exact it 9 _ h9
      | n + 10, hx => exact absurd hx (by simp)
    · exact arr 40 rfl
    · exact arr 40 rfl
    · exact arr 40 rfl
    · exact arr 200 rfl
    · exact arr 56 rfl
theorem wT1_only {k : Nat} {e : xE} (h : k ≠ 0) (hk : xwg wT1 k = some e) : False := by
  by_cases h16 : k < 16
  · have hc : k = 1 ∨ k = 2 ∨ k = 3 ∨ k = 4 ∨ k = 5 ∨ k = 6 ∨ k = 7 ∨ k = 8 ∨ k = 9 ∨ k = 10 ∨ k = 11 ∨ k = 12 ∨ k = 13 ∨ k = 14 ∨ k = 15 := by omega
    rcases hc with rfl | rfl | rfl | rfl | rfl | rfl | rfl | rfl | rfl | rfl | rfl | rfl | rfl | rfl | rfl <;> exact nomatch (show (none : Option xE) = some e from hk)
  · unfold xwg at hk
    rw [xget_eq, List.getElem?_eq_none (by show 1 ≤ k / 16; omega)] at hk
    cases hk
def z_newT (d : Nat × Nat × Nat) (n : Nat) : zF := fun K L S I B => zcat S ≤ 6 ∧ B.1 + 6 ≤ d.2.1 ∧ B.2 + 386 ≤ d.2.2 ∧ ∀ r, zG0.1 r = 1000 → K n L (.inr (.inl (some r)) :: S) I (B.1 + 6, B.2 + 386)
theorem zs_newT {PX' : xPX} {bd : Nat → Nat × Nat} {pre : zPre} {post : zPost} {d : Nat × Nat × Nat} {cc : ByteArray} {own : String} {pc index index2 : Nat} (hd3 : 3 ≤ d.1) (h1 : decode cc pc = .ok (.new index, 3)) (h2 : decode cc (pc + 3) = .ok (.dup, 1)) (h3 : decode cc (pc + 4) = .ok (.invokespecial index2, 3)) (hw1 : Cond.classLink own index "CapitalCase$Town" ∈ xTB) (hl : (own, index2, (⟨"CapitalCase$Town", "<init>", "()V"⟩ : MethodName), "CapitalCase") ∈ xNT) : zSound zG0 PX' bd pre post d cc own pc (z_newT d (pc + 7)) := by
  intro K L S I B h hc p l e R s m args below meth c Q nL D tys sz sc TT hTT C1 hf hlo kk N ls st H locs μ hM hL hS hB1 hB2 hτ
  obtain ⟨hcat, hb1, hb2, hK⟩ := h
  obtain ⟨⟨ws, hR, hP, hXw⟩, hz, hS0, hsc, hst⟩ := id hM
  have eN : μ.2.2.2 = N := by rw [← hXw.1]; exact hR.1
  obtain ⟨hx0, hb, hml, hown, hts, hKt, hmap, hin, hxN⟩ := C1
  obtain ⟨hlo1, hlo2, hlo3⟩ := hlo
  have hcl : vwCl[8]? = some ("CapitalCase$Town", TX8, 10) := rfl
  have hKn := hKt.1 8 _ hcl
  have hcs := zcat_ok hS
  refine W.newcK hx0 hb hown (hts _ hw1) (hts _ wd_315) (hts _ wd_116) rfl h1 (by omega) (by omega) hKn.2.1 hz fun H1 kC hkC e1 z1 o1 => ?_
  refine lv_dup hx0 hb h2 rfl ?_
  have hfv : ∀ j, j < 10 → defaultValue (tyX8 j) = vp_V ((List.range 10).map (fun j => defaultValue (tyX8 j))) j := fun j hj => by simp [vp_V, hj]
  have hat : va_at D vwCl (sz + N, .inr (8, (List.range 10).map (fun j => defaultValue (tyX8 j)))) H1 := ⟨_, hcl, (u_born tyX8 hts (xin1 inX8) hKn hkC e1 tyX8_ok).to hfv⟩
  have hP1 : va_P D vwCl [(sz + N, .inr (8, (List.range 10).map (fun j => defaultValue (tyX8 j))))] H1 := by
    intro k q hq
    have hz1 : k < 1 := (List.getElem?_eq_some_iff.mp hq).1
    rw [show k = 0 by omega] at hq
    cases hq
    exact hat
  have hE1 : xRE (sz + N) 0 tys (.inr (.inr (8, [.inr (.inl none), .inr (.inl none), .inr (.inl none), .inr (.inl none), .inr (.inl none), .inl (2147483648, 2147483648), .inl (2147483648, 2147483648), .inl (2147483648, 2147483648), .inl (2147483648, 2147483648), .inl (2147483648, 2147483648)]))) (.inr (8, (List.range 10).map (fun j => defaultValue (tyX8 j)))) :=
    ⟨_, rfl, _, _, rfl, rfl, _, _, rfl, rfl, _, _, rfl, rfl, _, _, rfl, rfl, _, _, rfl, rfl, _, _, rfl, ⟨0, rfl, xRI_z⟩, _, _, rfl, ⟨0, rfl, xRI_z⟩, _, _, rfl, ⟨0, rfl, xRI_z⟩, _, _, rfl, ⟨0, rfl, xRI_z⟩, _, _, rfl, ⟨0, rfl, xRI_z⟩, rfl⟩
  have hR1 : xRW (sz + N) 0 tys wT1 [(sz + N, .inr (8, (List.range 10).map (fun j => defaultValue (tyX8 j))))] := by
    refine ⟨rfl, fun k ee hk => ?_, fun k q hq => ?_⟩
    · have : k = 0 := by
        by_cases h0 : k = 0
        · exact h0
        · exfalso
          exact wT1_only h0 hk
      subst this
      cases hk
      exact ⟨_, rfl, hE1⟩
    · have hz1 : k < 1 := (List.getElem?_eq_some_iff.mp hq).1
      rw [show k = 0 by omega] at hq ⊢
      cases hq
      rfl
  have hr : va_Run p l e R s m args below meth c H1 locs (B.1 + 1) (B.2 + 10) 5 376 (F0 m (pc + 3 + 1) ls (.ref (sz + N) :: .ref (sz + N) :: st)) (.ref (sz + N) :: st) (xQc D tys (sz + N) 0 none wT6 [Value.ref (sz + N)].toArray) (fun a => sz + N ≤ a) :=
    va_runIN (As := []) (rest := .ref (sz + N) :: st) (Ts := xTB) ⟨hx0, hb, hml, hown, hts⟩ (townM l D tys (sz + N) 0) ⟨va_cnB 0 hts (xGI wd_318) rfl rfl rfl (hxN.1 _ hl) (hts _ wd_116) (by decide) ⟨by show 3 + 1 ≤ _; omega, by show 8 + (1 + 11) + 64 * 3 ≤ _; omega⟩, rfl, hts _ wd_317⟩ ⟨xPc_blind, xPc_of (us := [.ref (sz + N)]) ⟨_, _, rfl, rfl, rfl⟩ ⟨_, hR1, hP1⟩ (by rw [z1]; rfl) hKt hmap hxN⟩ rfl rfl (by obtain ⟨-, lv, w, -⟩ := hL; exact w.1) rfl (by show 2 * 0 + (List.map (fun v : Value => v.category) (.ref (sz + N) :: st)).sum ≤ 8; rw [List.map_cons, List.sum_cons]; show 2 * 0 + (1 + _) ≤ 8; omega) h3 ⟨by omega, by omega⟩
  intro T hT X
  obtain ⟨v, st₀, t, T', L1, h0', X', hL1, e1', e2', ⟨v2, hv2, hro, ⟨ws6, hR6, hP6⟩, hsz6, hF⟩, go⟩ := hr T hT X
  cases hv2
  cases hro
  have hszN : st₀.heap.size = sz + N + 1 := by rw [h0', z1]
  have hsz6 : t.heap.size = sz + N + 6 := hsz6
  have hlow : ∀ q, q < sz + N → t.heap[q]? = H[q]? := fun q hq => by
    rw [hF.2 q (by rw [hszN]; omega) (by omega), h0', o1 q hq]
  have hM' : zMem zG0 D tys sz (N + 6) sc s I (xnew μ) T'.heap (locs ++ L1) := by
    refine ⟨⟨_, zW_new hR hR6, ?_, zXs_new hR.1 hXw hR6⟩, by rw [e1', hsz6]; omega, ⟨?_, fun q q1 q2 => ?_, fun q hq => ?_⟩, hsc, hst⟩
    · rw [e1']
      refine (hP.kept (fun k x hx => hlow x.1 ?_)).app hP6
      have := (hP k x hx).lt
      omega
    · rw [e1', hsz6]
      have := hS0.1
      omega
    · rw [e1', hlow q (by have := hS0.1; omega)]
      exact hS0.2.1 q q1 q2
    · rcases List.mem_append.mp hq with h | h
      · exact hS0.2.2 q h
      · have := hL1 q h
        show sz ≤ q.base
        have h9 : sz + N ≤ q.base := this
        omega
  have hbb : B.1 + 1 + 5 = B.1 + 6 := by omega
  have hbs : B.2 + 10 + 376 = B.2 + 386 := by omega
  have X' : Stand p l e R s m args below meth c T' (locs ++ L1) (B.1 + 6) (B.2 + 386) := by
    rw [← hbb, ← hbs]
    exact X'
  have hN := hR.2.2.1
  have hN6 := hR.2.2.2
  obtain ⟨t2, a1, b1⟩ := kk _ _ _ _ _ (hK N (zkn_hi (j := 0) hN hN6 (by decide))) (N + 6) ls (.ref (sz + N) :: st) T'.heap (locs ++ L1) _ hM' (zRL_mono (by omega) hL) ⟨_, _, rfl, ⟨rfl, by omega⟩, zRS_mono (by omega) hS⟩ (by show B.1 + 6 ≤ _; omega) (by show B.2 + 386 ≤ _; omega) (hTT _ _ hτ (est h1 (by show _ = _; rw [eN]))) T' rfl X'
  exact ⟨t2, go t2 a1, b1⟩
section HN
variable {PX : xPX} {bd : Nat → Nat × Nat} {pre : zPre} {post : zPost} {d : Nat × Nat × Nat} {cc : ByteArray} {own : String} {K : zK} {pc n : Nat} {L : zL} {S : List zV} {I : zI} {B : Nat × Nat}
theorem hA_aald {a kd len : Nat} {i : Int32} (hs : zSound zG0 PX bd pre post d cc own pc (z_aald zG0 n)) (hk : zG0.1 a = kd ∧ zG0.2.1 kd = .inr (4, len)) (h0 : 0 ≤ i.toInt) (h1 : i.toInt < (len : Int)) (hN : (zvs kd = true → zv I kd i.toInt = 0) → zAt zG0 PX bd pre post d cc own K n L (.inr (.inl none) :: S) I B) (hR : ∀ r, zG0.1 r = 1000 → (zvs kd = true → zv I kd i.toInt = 1) → zAt zG0 PX bd pre post d cc own K n L (.inr (.inl (some r)) :: S) I B) : zAt zG0 PX bd pre post d cc own K pc L (.inl i :: .inr (.inl (some a)) :: S) I B := by
  obtain ⟨e1, e2⟩ := hk
  refine hA hs ?_
  unfold z_aald
  simp only [e1, e2]
  refine ⟨trivial, (ix h0 h1).1, fun h => hN (fun hv => ?_), fun r hr h => hR r hr (fun hv => ?_)⟩
  · have := h hv
    show (I (zid kd i.toInt.toNat)).toInt = 0
    rw [show I (zid kd i.toInt.toNat) = 0 from this]
    rfl
  · have := h hv
    show (I (zid kd i.toInt.toNat)).toInt = 1
    rw [show I (zid kd i.toInt.toNat) = 1 from this]
    rfl
theorem hA_aast {a kd len v : Nat} {i : Int32} (hs : zSound zG0 PX bd pre post d cc own pc (z_aast zG0 n)) (hk : zG0.1 a = kd ∧ zG0.2.1 kd = .inr (4, len) ∧ zvs kd = true) (hv : zG0.1 v = 1000) (h0 : 0 ≤ i.toInt) (h1 : i.toInt < (len : Int)) (h : ∀ z : Int32, z.toInt = 1 → zAt zG0 PX bd pre post d cc own K n L S (zupd I (zid kd i.toInt.toNat) z) B) : zAt zG0 PX bd pre post d cc own K pc L (.inr (.inl (some v)) :: .inl i :: .inr (.inl (some a)) :: S) I B := by
  obtain ⟨e1, e2, e3⟩ := hk
  refine hA hs ?_
  unfold z_aast
  simp only [e1, e2]
  refine ⟨trivial, (ix h0 h1).1, hv, Or.inl e3, ?_⟩
  unfold zst
  rw [if_pos (show zG0.2.2.2.2.2 kd = true from e3)]
  exact h 1 (by decide)
theorem hA_aastH {a kd len v : Nat} {i : Int32} (hs : zSound zG0 PX bd pre post d cc own pc (z_aast zG0 n)) (hk : zG0.1 a = kd ∧ zG0.2.1 kd = .inr (4, len) ∧ zvs kd = false) (hv : zG0.1 v = 1000) (h0 : 0 ≤ i.toInt) (h1 : i.toInt < (len : Int)) (he : ∀ j, eOK (zta (ztb kd)) j 1) (h : zAt zG0 PX bd pre post d cc own K n L S I B) : zAt zG0 PX bd pre post d cc own K pc L (.inr (.inl (some v)) :: .inl i :: .inr (.inl (some a)) :: S) I B := by
  obtain ⟨e1, e2, e3⟩ := hk
  refine hA hs ?_
  unfold z_aast
  simp only [e1, e2]
  refine ⟨trivial, (ix h0 h1).1, hv, Or.inr (he _), ?_⟩
  unfold zst
  rw [if_neg (by rw [show zG0.2.2.2.2.2 kd = zvs kd from rfl, e3]; simp)]
  exact h
end HN
