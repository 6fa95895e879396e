def xLw (p : Program) (s : State) (m : MethodId) (meth : Method) (c : Code) (b sl : Nat) (xs : Nat → Int32) (D : va_G) (tys : List (ClassId × FieldType)) : Prop := lw_At p s m meth c b sl xs ∧ va_K D vwCl tys s ∧ tys.map Prod.snd = xTys ∧ xN s ∧ sl ≤ 3072
section XW
variable {p : Program} {l : Launch} {e : Env} {s : State} {m : MethodId} {below : List Frame} {meth : Method} {c : Code} {b sl : Nat} {xs : Nat → Int32} {D : va_G} {tys : List (ClassId × FieldType)}
theorem xLw_ctx (h : xLw p s m meth c b sl xs D tys) : xCtx p s m #[Value.ref b] meth c code "CapitalCaseLaw" false 4 D tys := by
  obtain ⟨⟨hx, hb, hr, hml, hown, hts, hX, hbl, hlocks, hgv⟩, hK, hmap, hxN, -⟩ := h
  exact ⟨hx, hb, hml, hown, fun w hw => hts w (List.mem_filter.mp hw).1, hK, hmap, fun h => (by cases h), hxN⟩
end XW
theorem xw0_none (k : Nat) : xwg xw0 k = none := by
  unfold xwg
  cases h1 : xget xw0.2.2 (k / 16) with
  | none => rfl
  | some r =>
    have hr : r = List.replicate 16 none := by
      rw [xget_eq] at h1
      have hm := List.mem_of_getElem? h1
      have hall : ∀ r ∈ xw0.2.2, r = List.replicate 16 none := by
        intro r hr
        simp [xw0] at hr
        rw [hr]
        rfl
      exact hall r hm
    subst hr
    simp only []
    cases h2 : xget (List.replicate 16 (none : Option xE)) (k % 16) with
    | none => rfl
    | some o =>
      rw [xget_eq, List.getElem?_replicate] at h2
      split at h2
      · exact (Option.some.inj h2).symm
      · cases h2
theorem xNT_in : ∀ q ∈ xNT, Cond.methodLinkNest q.1 q.2.1 q.2.2.1 q.2.2.2 ∈ lw_tbl := by decide +kernel
theorem mm_ao : Cond.arrayOver (.object "CapitalCase$Town") ∈ lw_tbl := List.mem_of_getElem? (i := 383) (by decide +kernel)
theorem mm_int : Cond.arrayClass .int ∈ lw_tbl := List.mem_of_getElem? (i := 253) (by decide +kernel)
theorem mm_byte : Cond.arrayClass .byte ∈ lw_tbl := List.mem_of_getElem? (i := 252) (by decide +kernel)
theorem mm_boolean : Cond.arrayClass .boolean ∈ lw_tbl := List.mem_of_getElem? (i := 415) (by decide +kernel)
theorem mm_long : Cond.arrayClass .long ∈ lw_tbl := List.mem_of_getElem? (i := 1492) (by decide +kernel)
theorem mm_i0 : Cond.instantiable RX0 3 ∈ lw_tbl := List.mem_of_getElem? (i := 377) (by decide +kernel)
theorem mm_i1 : Cond.instantiable RX1 3 ∈ lw_tbl := List.mem_of_getElem? (i := 417) (by decide +kernel)
theorem mm_i2 : Cond.instantiable RX2 10 ∈ lw_tbl := List.mem_of_getElem? (i := 255) (by decide +kernel)
theorem mm_i3 : Cond.instantiable RX3 12 ∈ lw_tbl := List.mem_of_getElem? (i := 446) (by decide +kernel)
theorem mm_i4 : Cond.instantiable RX4 2 ∈ lw_tbl := List.mem_of_getElem? (i := 433) (by decide +kernel)
theorem mm_i5 : Cond.instantiable RX5 4 ∈ lw_tbl := List.mem_of_getElem? (i := 396) (by decide +kernel)
theorem mm_i6 : Cond.instantiable RX6 15 ∈ lw_tbl := List.mem_of_getElem? (i := 142) (by decide +kernel)
theorem mm_i7 : Cond.instantiable RX7 3 ∈ lw_tbl := List.mem_of_getElem? (i := 263) (by decide +kernel)
theorem mm_i8 : Cond.instantiable RX8 10 ∈ lw_tbl := List.mem_of_getElem? (i := 315) (by decide +kernel)
theorem mm_i9 : Cond.instantiable RX9 3 ∈ lw_tbl := List.mem_of_getElem? (i := 536) (by decide +kernel)
theorem mm_i10 : Cond.instantiable RX10 9 ∈ lw_tbl := List.mem_of_getElem? (i := 496) (by decide +kernel)
theorem mm_i11 : Cond.instantiable RX11 16 ∈ lw_tbl := List.mem_of_getElem? (i := 134) (by decide +kernel)
theorem mm_i12 : Cond.instantiable RX12 70 ∈ lw_tbl := List.mem_of_getElem? (i := 1258) (by decide +kernel)
theorem str_ne {s : State} {A : Nat → Prop} {a v0 v1 : Nat} {f0 f1 : Nat → Value} (h0 : va_OF "java/lang/String" "value" "[B" (.ref v0) a A s s.heap) (h1 : va_OF "java/lang/String" "value" "[B" (.ref v1) a A s s.heap) (t0 : va_T .byte v0 9 f0 A s s.heap) (t1 : va_T .byte v1 168 f1 A s s.heap) : False := by
  obtain ⟨cf, k, fi, f, cell, q1, q2, q3, q4, q5, q6⟩ := h0
  obtain ⟨cf', k', fi', f', cell', p1, p2, p3, p4, p5, p6⟩ := h1
  cases q1.symm.trans p1
  cases q3.symm.trans p3
  cases q5.symm.trans p5
  obtain ⟨c1, r1, -, -, -, r5, -⟩ := t0
  obtain ⟨c2, w1, -, -, -, w5, -⟩ := t1
  cases r1.symm.trans w1
  exact absurd (r5.symm.trans w5) (by decide)
def lwF : List Cond := flatC (Cond.and given_1 narrow_1)
set_option maxRecDepth 100000 in
theorem mem39q : (List.range 9).map (fun j => Cond.eq (.elem (.field (.string "CapitalCase$Tokens" 39) "java/lang/String" "value" "[B") (.int (Int32.ofNat j))) (.int ((zByt.getD 0 []).getD j 0))) = (lwF.drop 185).take 9 := by decide +kernel
theorem mem39 : ∀ j, j < 9 → Cond.eq (.elem (.field (.string "CapitalCase$Tokens" 39) "java/lang/String" "value" "[B") (.int (Int32.ofNat j))) (.int ((zByt.getD 0 []).getD j 0)) ∈ lwF := fun j hj => by
  have h := List.mem_map_of_mem (f := (fun j => Cond.eq (.elem (.field (.string "CapitalCase$Tokens" 39) "java/lang/String" "value" "[B") (.int (Int32.ofNat j))) (.int ((zByt.getD 0 []).getD j 0)))) (List.mem_range.mpr hj)
  rw [mem39q] at h
  exact List.mem_of_mem_drop (List.mem_of_mem_take h)
set_option maxRecDepth 100000 in
theorem mem51q : (List.range 168).map (fun j => Cond.eq (.elem (.field (.string "CapitalCase$Tokens" 51) "java/lang/String" "value" "[B") (.int (Int32.ofNat j))) (.int ((zByt.getD 1 []).getD j 0))) = (lwF.drop 13).take 168 := by decide +kernel
theorem mem51 : ∀ j, j < 168 → Cond.eq (.elem (.field (.string "CapitalCase$Tokens" 51) "java/lang/String" "value" "[B") (.int (Int32.ofNat j))) (.int ((zByt.getD 1 []).getD j 0)) ∈ lwF := fun j hj => by
  have h := List.mem_map_of_mem (f := (fun j => Cond.eq (.elem (.field (.string "CapitalCase$Tokens" 51) "java/lang/String" "value" "[B") (.int (Int32.ofNat j))) (.int ((zByt.getD 1 []).getD j 0)))) (List.mem_range.mpr hj)
  rw [mem51q] at h
  exact List.mem_of_mem_drop (List.mem_of_mem_take h)
theorem str1 {s : State} {b : Nat} (hs : ∀ c ∈ lwF, c.before #[Value.ref b] s = true) (ix n : Nat) (bt : List Int32) (hn : n < 2 ^ 31) (h1 : Cond.exactly (.string "CapitalCase$Tokens" ix) "java/lang/String" ∈ lwF) (h2 : Cond.eq (.field (.string "CapitalCase$Tokens" ix) "java/lang/String" "coder" "B") (.int 0) ∈ lwF) (h3 : Cond.arrayOf (.field (.string "CapitalCase$Tokens" ix) "java/lang/String" "value" "[B") .byte ∈ lwF) (h4 : Cond.eq (.length (.field (.string "CapitalCase$Tokens" ix) "java/lang/String" "value" "[B")) (.int (Int32.ofNat n)) ∈ lwF) (h5 : ∀ j, j < n → Cond.eq (.elem (.field (.string "CapitalCase$Tokens" ix) "java/lang/String" "value" "[B") (.int (Int32.ofNat j))) (.int (bt.getD j 0)) ∈ lwF) : ∃ k v : Nat, (va_O "java/lang/String" k (fun q => s.heap.size ≤ q) s s.heap ∧ va_OF "java/lang/String" "coder" "B" (.int 0) k (fun q => s.heap.size ≤ q) s s.heap ∧ va_OF "java/lang/String" "value" "[B" (.ref v) k (fun q => s.heap.size ≤ q) s s.heap ∧ va_T .byte v n (fun j => .int (bt.getD j 0)) (fun q => s.heap.size ≤ q) s s.heap) ∧ (Term.string "CapitalCase$Tokens" ix).eval #[Value.ref b] s none [] s = some (.ref k) := by
  have z0 : ∀ i : Nat, i < 1 → i = 0 := fun i h => by omega
  have a1 : ∀ i : Nat, i < 1 → ([n] : List Nat).getD i 0 < 2 ^ 31 := fun i h => by
    rw [z0 i h]
    exact hn
  have a4 : ∀ i : Nat, i < 1 → (Cond.eq (.length (.field (.string "CapitalCase$Tokens" ix) "java/lang/String" "value" "[B")) (.int (Int32.ofNat (([n] : List Nat).getD i 0)))).before #[Value.ref b] s = true := fun i h => by
    rw [z0 i h]
    exact hs _ h4
  have a5 : ∀ i : Nat, i < 1 → ∀ j : Nat, j < ([n] : List Nat).getD i 0 → (Cond.eq (.elem (.field (.string "CapitalCase$Tokens" ix) "java/lang/String" "value" "[B") (.int (Int32.ofNat j))) (.int ((([bt] : List (List Int32)).getD i []).getD j 0))).before #[Value.ref b] s = true := fun i h j hj => by
    have e := z0 i h
    subst e
    exact hs _ (h5 j hj)
  have hA : ∀ a : Nat, a < s.heap.size → ¬ (fun q => s.heap.size ≤ q) a := fun a g1 g2 => by
    have g2 : s.heap.size ≤ a := g2
    omega
  obtain ⟨k, v, S, e⟩ := vk_Sof (args := #[Value.ref b]) (s := s) (N := 1) (tm := fun _ => .string "CapitalCase$Tokens" ix) (len := [n]) (byt := [bt]) (A := fun q => s.heap.size ≤ q) a1 (fun i hi => hs _ h1) (fun i hi => hs _ h2) (fun i hi => hs _ h3) a4 a5 (fun i j hi hj hne => absurd ((z0 i hi).trans (z0 j hj).symm) hne) hA
  exact ⟨k 0, v 0, S.1 0 (by decide), e 0 (by decide)⟩
theorem str_of {s : State} {b : Nat} (hts : ∀ w ∈ lw_tbl, w.before #[Value.ref b] s = true) (hgv : (Cond.and given_1 narrow_1).before #[Value.ref b] s = true) : zStr s.heap.size s := by
  have hs : ∀ c ∈ lwF, c.before #[Value.ref b] s = true := flat_of_before _ hgv
  have hA : ∀ a : Nat, a < s.heap.size → ¬ (fun q => s.heap.size ≤ q) a := fun a h1 h2 => by
    have h2 : s.heap.size ≤ a := h2
    omega
  obtain ⟨k0, v0, S0, e0⟩ := str1 hs 39 9 (zByt.getD 0 []) (by decide) (by decide +kernel) (by decide +kernel) (by decide +kernel) (by decide +kernel) mem39
  obtain ⟨k1, v1, S1, e1⟩ := str1 hs 51 168 (zByt.getD 1 []) (by decide) (by decide +kernel) (by decide +kernel) (by decide +kernel) (by decide +kernel) mem51
  have hne : k0 ≠ k1 := by
    intro h
    subst h
    exact str_ne S0.2.2.1 S1.2.2.1 S0.2.2.2 S1.2.2.2
  refine ⟨fun i => if i = 0 then k0 else k1, fun i => if i = 0 then v0 else v1, vk_R.of (A := #[Value.ref b]) (hts _ (List.mem_of_getElem? (i := 689) (by decide +kernel))) e0, vk_R.of (A := #[Value.ref b]) (hts _ (List.mem_of_getElem? (i := 648) (by decide +kernel))) e1, ⟨fun i hi => ?_, fun i j hi hj h => ?_⟩, va_Zof (args := #[Value.ref b]) (hts _ (List.mem_of_getElem? (i := 658) (by decide +kernel))) (hts _ (List.mem_of_getElem? (i := 125) (by decide +kernel))) (va_eqi (hs _ (by decide +kernel))) hA, va_Zqof (args := #[Value.ref b]) (hts _ (List.mem_of_getElem? (i := 666) (by decide +kernel))) (hts _ (List.mem_of_getElem? (i := 127) (by decide +kernel))) (hs _ (by decide +kernel)) hA⟩
  · have : i = 0 ∨ i = 1 := by omega
    rcases this with rfl | rfl
    · exact S0
    · exact S1
  · have hi' : i = 0 ∨ i = 1 := by omega
    have hj' : j = 0 ∨ j = 1 := by omega
    rcases hi' with rfl | rfl <;> rcases hj' with rfl | rfl
    · rfl
    · exact absurd h hne
    · exact absurd h.symm hne
    · rfl
set_option maxRecDepth 100000 in
set_option maxHeartbeats 4000000 in
/-- THE LAW, from its entry -/
theorem whole_start {p : Program} {e : Env} {s : State} {m : MethodId} {below : List Frame} {meth : Method} {c : Code} (l : Launch) (hflags : l.flags = flags0) {b L : Nat} {xs : Nat → Int32} (hL : L ≤ 3072) (C0 : lw_At p s m meth c b L xs) : W p l e room_1 s m #[Value.ref b] below meth c s.heap [] 0 0 (lw_Z below #[Value.ref b] s) (entryFrame m ([Value.ref b] : List Value).toArray 4) := by
  obtain ⟨hx, hb, hr, hml, hown, hts, hX, hbl, hlocks, hgv⟩ := id C0
  obtain ⟨c0, iS0, hKn0⟩ := u_known (C := RX0) (T := TX0) (N := 3) (n := 3) hts inX0 (hts _ mm_i0)
  obtain ⟨c1, iS1, hKn1⟩ := u_known (C := RX1) (T := TX1) (N := 3) (n := 3) hts inX1 (hts _ mm_i1)
  obtain ⟨c2, iS2, hKn2⟩ := u_known (C := RX2) (T := TX2) (N := 10) (n := 10) hts inX2 (hts _ mm_i2)
  obtain ⟨c3, iS3, hKn3⟩ := u_known (C := RX3) (T := TX3) (N := 12) (n := 12) hts inX3 (hts _ mm_i3)
  obtain ⟨c4, iS4, hKn4⟩ := u_known (C := RX4) (T := TX4) (N := 2) (n := 2) hts inX4 (hts _ mm_i4)
  obtain ⟨c5, iS5, hKn5⟩ := u_known (C := RX5) (T := TX5) (N := 4) (n := 4) hts inX5 (hts _ mm_i5)
  obtain ⟨c6, iS6, hKn6⟩ := u_known (C := RX6) (T := TX6) (N := 15) (n := 15) hts inX6 (hts _ mm_i6)
  obtain ⟨c7, iS7, hKn7⟩ := u_known (C := RX7) (T := TX7) (N := 3) (n := 3) hts inX7 (hts _ mm_i7)
  obtain ⟨c8, iS8, hKn8⟩ := u_known (C := RX8) (T := TX8) (N := 10) (n := 10) hts inX8 (hts _ mm_i8)
  obtain ⟨c9, iS9, hKn9⟩ := u_known (C := RX9) (T := TX9) (N := 3) (n := 3) hts inX9 (hts _ mm_i9)
  obtain ⟨c10, iS10, hKn10⟩ := u_known (C := RX10) (T := TX10) (N := 9) (n := 9) hts inX10 (hts _ mm_i10)
  obtain ⟨c11, iS11, hKn11⟩ := u_known (C := RX11) (T := TX11) (N := 16) (n := 16) hts inX11 (hts _ mm_i11)
  obtain ⟨c12, iS12, hKn12⟩ := u_known (C := RX12) (T := TX12) (N := 70) (n := 70) hts inX12 (hts _ mm_i12)
  obtain ⟨dC, dI, hKc⟩ : ∃ (dC : Nat → ClassId) (dI : Nat → Nat → Nat), ∀ (k : Nat) (q : vw_C), vwCl[k]? = some q → u_Kn s q.1 q.2.1 q.2.2 (dC k) (dI k) := by
    refine ⟨fun k => [c0, c1, c2, c3, c4, c5, c6, c7, c8, c9, c10, c11, c12].getD k c0, fun k => [iS0, iS1, iS2, iS3, iS4, iS5, iS6, iS7, iS8, iS9, iS10, iS11, iS12].getD k iS0, ?_⟩
    intro k q hq
    match k, hq with
    | 0, hq => cases hq; exact hKn0
    | 1, hq => cases hq; exact hKn1
    | 2, hq => cases hq; exact hKn2
    | 3, hq => cases hq; exact hKn3
    | 4, hq => cases hq; exact hKn4
    | 5, hq => cases hq; exact hKn5
    | 6, hq => cases hq; exact hKn6
    | 7, hq => cases hq; exact hKn7
    | 8, hq => cases hq; exact hKn8
    | 9, hq => cases hq; exact hKn9
    | 10, hq => cases hq; exact hKn10
    | 11, hq => cases hq; exact hKn11
    | 12, hq => cases hq; exact hKn12
    | k + 13, hq => simp [vwCl] at hq
  obtain ⟨a0, ka0, co0, f0, g0, k0⟩ := Cond.arrayClass_spec (hts _ mm_int)
  have hA0 : ArrOfT s a0 .int ∧ va_RA s a0 .int := ⟨fun n z => ⟨fun k h => (by cases h), ka0, g0, co0, k0⟩, f0⟩
  obtain ⟨a1, ka1, co1, f1, g1, k1⟩ := Cond.arrayClass_spec (hts _ mm_byte)
  have hA1 : ArrOfT s a1 .byte ∧ va_RA s a1 .byte := ⟨fun n z => ⟨fun k h => (by cases h), ka1, g1, co1, k1⟩, f1⟩
  obtain ⟨a2, ka2, co2, f2, g2, k2⟩ := Cond.arrayClass_spec (hts _ mm_boolean)
  have hA2 : ArrOfT s a2 .boolean ∧ va_RA s a2 .boolean := ⟨fun n z => ⟨fun k h => (by cases h), ka2, g2, co2, k2⟩, f2⟩
  obtain ⟨a3, ka3, co3, f3, g3, k3⟩ := Cond.arrayClass_spec (hts _ mm_long)
  have hA3 : ArrOfT s a3 .long ∧ va_RA s a3 .long := ⟨fun n z => ⟨fun k h => (by cases h), ka3, g3, co3, k3⟩, f3⟩
  obtain ⟨co4, a4, ka4, f4, -, g4, k4, n4⟩ := Cond.arrayOver_spec (hts _ mm_ao)
  have hA4 : ArrOfT s a4 (.object "CapitalCase$Town") ∧ va_RA s a4 (.object "CapitalCase$Town") := ⟨fun n z => ⟨fun k h => (by cases h), ka4, g4, co4, k4⟩, ka4, co4, g4, k4, f4, n4⟩
  obtain ⟨tys, htys⟩ : ∃ tys : List (ClassId × FieldType), tys = [(a0, .int), (a1, .byte), (a2, .boolean), (a3, .long), (a4, .object "CapitalCase$Town")] := ⟨_, rfl⟩
  have hK : va_K (dC, dI) vwCl tys s := by
    refine ⟨hKc, fun k q hq => ?_⟩
    subst htys
    match k, hq with
    | 0, hq => cases hq; exact hA0
    | 1, hq => cases hq; exact hA1
    | 2, hq => cases hq; exact hA2
    | 3, hq => cases hq; exact hA3
    | 4, hq => cases hq; exact hA4
    | k + 5, hq => simp at hq
  have hmap : tys.map Prod.snd = xTys := by subst htys; rfl
  have hxN : xN s := ⟨fun q hq => va_Nw.of rfl (hts _ (xNT_in q hq)), va_AO.of (hts _ mm_ao)⟩
  have hLw : xLw p s m meth c b L xs (dC, dI) tys := ⟨C0, hK, hmap, hxN, hL⟩
  rw [lg_entry_eq]
  have hus : xRS s.heap.size b [.inr (.inr 0)] [Value.ref b] := ⟨_, [], rfl, rfl, rfl⟩
  have hL0 := xRL_entry (n := 4) hus (by decide)
  refine (xrun_ok (TI_ok (fun _ _ _ => True)) xCa_ok 40 0 xL0 [] xw0 18 xL1 [] xw1 runA).2 p l e room_1 s m _ below meth c _ 4 (dC, dI) tys s.heap.size b 0 0 (xLw_ctx hLw) trivial (Nat.le_of_ble_eq_true rfl) (Nat.le_of_ble_eq_true rfl) (Nat.le_of_ble_eq_true rfl) (Nat.le_of_ble_eq_true rfl) _ [] s.heap [] 0 0 ⟨⟨[], ⟨rfl, (fun k e he => by rw [xw0_none] at he; cases he), (fun k q hq => by simp at hq)⟩, (fun k q hq => by simp at hq)⟩, rfl, va_S.rf, rfl, rfl, rfl⟩ hL0 rfl ?_
  intro ls st H locs cells slots hM hL1 hS
  cases hS
  obtain ⟨⟨ws, hR, hP⟩, hz, hS0, hc9, hs9, hh9⟩ := hM
  have hc9 : 0 + cells = 119 := hc9
  have hs9 : 0 + slots = 31658 := hs9
  have hMz : zMem zG0 (dC, dI) tys s.heap.size 119 0 s (zIof ws) (zM0 s.heap.size ws) H locs := ⟨⟨ws, first_W hR, hP, zM0_X _ _⟩, hz, hS0, rfl, str_of hts hgv⟩
  obtain ⟨hB, heq⟩ := first_B hR
  obtain ⟨-, lv, hlv, hget⟩ := hL1
  obtain ⟨u0, m0, rfl⟩ := hget 0 (.inr (.inr 0)) rfl
  obtain ⟨u1, m1, rfl⟩ := hget 1 (.inr (.inl (some 0))) rfl
  obtain ⟨u2, m2, rfl⟩ := hget 2 (.inr (.inl (some 75))) rfl
  obtain ⟨u3, m3, x, rfl, hx3⟩ := hget 3 (.inl (2147483648, 2147483648)) rfl
  have hx0 := xRI_0 hx3
  have hLL : lv_has ls 4 (lLv s.heap.size b x) := ⟨hlv.1, hlv.2.1, fun q hq => hlv.2.2 q (by
    simp only [lLv, List.mem_cons, List.not_mem_nil, or_false] at hq
    rcases hq with rfl | rfl | rfl | rfl
    · exact m0
    · exact m1
    · exact m2
    · exact m3)⟩
  exact lw_loop ⟨xLw_ctx hLw, hX, hbl, hL⟩ hr hlocks _ 119 cells slots (zIof ws) (zM0 s.heap.size ws) ls H locs x rfl (by omega) (by omega) hMz hLL hB (first_R hR) (by omega) (by omega)
