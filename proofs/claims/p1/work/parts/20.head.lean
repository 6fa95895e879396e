/-! THE CLAIM OUT OF ONE WALK OF THE LAW'S BODY. Your part is whole_start (and what it stands on); all else here is the same for every law, but numbers. -/
def R_law : String := "CapitalCaseLaw"
def lw_P (b : Addr) (xs : List Int32) (args : Array Value) (s : State) : Prop := args = #[.ref b] ∧ s.IntsAt b xs ∧ xs.length ≤ 6 ∧ (Jvm.Cond.and given_1 narrow_1).before args s = true
def lw_Q (_ : Array Value) (s : State) (o : Outcome) (t : State) : Prop := o = .returned (some (.int 1)) ∧ Framed s o t [] 600000 7302250
def lw_Z (below : List Frame) (a : Array Value) (s : State) : State → Prop := fun t => ∃ o, t.status = .running ∧ Ended t below o ∧ lw_Q a s o t
/-- the law's own end, with 1 on the stack, nothing written that was there before, its room as the claim has it -/
theorem lw_ret {p : Program} {l : Launch} {e : Env} {s : State} {m : MethodId} {below : List Frame} {meth : Method} {c : Code} {b : Nat} (hx : p.tables.exec = Jvm.exec) (hb : c.code = code) (hr : meth.sig.returnType = ret) (hlocks : meth.locks = false) {pc : Nat} {H : Heap} {ls : Array Slot} (hdg : decode code pc = .ok (.ireturn, 1)) : W p l e room_1 s m #[Value.ref b] below meth c H [] 600000 7302250 (lw_Z below #[Value.ref b] s) (F0 m pc ls [.int 1]) := by
  intro T hT X
  obtain ⟨fs, hret, hrun, hended, hW, hframe⟩ := X.leave (v := some (.int 1)) (hlocks := hlocks) (fun h => by rw [hr] at h; cases h)
  have hmeth' : T.vm.method? m = some meth := X.method'
  refine ⟨T.setFrames fs, ?_, .returned (some (.int 1)), hrun, hended, rfl, ⟨_, rfl⟩, hW, hframe⟩
  jvm_step X.here [X.here.top, hx, hb, hdg, hmeth', hr, ret, narrow_b1]
  (try refine ⟨rfl, ?_⟩); (try refine ⟨rfl, ?_⟩)
  first | (intro acts; rw [hret _ acts rfl rfl rfl]) | rw [hret _ _ rfl rfl rfl]
  exact Steps.refl _
/-- what holds at the law's entry: the machine, the code, the tables' words (any of lw_tbl by 'hts w (by decide +kernel)'), the script of L ints xs at the cell b, what the Statement gives of the start (any of its parts by flat_of_before) -/
def lw_At (p : Program) (s : State) (m : MethodId) (meth : Method) (c : Code) (b L : Nat) (xs : Nat → Int32) : Prop :=
  p.tables.exec = Jvm.exec ∧ c.code = code ∧ meth.sig.returnType = ret ∧ c.maxLocals = 4 ∧ s.vm.findClass R_law = some m.cls ∧ (∀ w ∈ lw_tbl, w.before #[Value.ref b] s = true) ∧ va_X b L xs s s.heap ∧ b < s.heap.size ∧ meth.locks = false ∧ (Jvm.Cond.and given_1 narrow_1).before #[Value.ref b] s = true

def xLw (p : Program) (s : State) (m : MethodId) (meth : Method) (c : Code) (b sl : Nat) (xs : Nat → Int32) (D : va_G) (tys : List (ClassId × FieldType)) : Prop := lw_At p s m meth c b sl xs ∧ va_K D vwCl tys s ∧ tys.map Prod.snd = xTys ∧ xN s ∧ sl ≤ 6
section XW
variable {p : Program} {l : Launch} {e : Env} {s : State} {m : MethodId} {below : List Frame} {meth : Method} {c : Code} {b sl : Nat} {xs : Nat → Int32} {D : va_G} {tys : List (ClassId × FieldType)}
theorem xLw_ctx (h : xLw p s m meth c b sl xs D tys) : xCtx p s m #[Value.ref b] meth c code "CapitalCaseLaw" false 4 D tys := by
  obtain ⟨⟨hx, hb, hr, hml, hown, hts, hX, hbl, hlocks, hgv⟩, hK, hmap, hxN, -⟩ := h
  exact ⟨hx, hb, hml, hown, fun w hw => hts w (List.mem_filter.mp hw).1, hK, hmap, fun h => (by cases h), hxN⟩
theorem xLw_G {sb : List (Nat × Nat)} (h : xLw p s m meth c b sl xs D tys) (hbx : ∀ (j : Nat) (q : Nat × Nat), xget sb j = some q → xRI q (xs j)) : xG sl xs sb s s.heap.size b := by
  obtain ⟨⟨hx, hb, hr, hml, hown, hts, hX, hbl, hlocks, hgv⟩, hK, hmap, hxN, hsl⟩ := h
  exact ⟨hX, hbl, Nat.not_le.mpr hbl, by omega, hbx⟩
theorem leaf_ok {pc : Nat} {sb : List (Nat × Nat)} {ls : Array Slot} {H : Heap} {locs : List Loc} {cells slots : Nat} (hl : xleaf sl sb pc = true) (h : xLw p s m meth c b sl xs D tys) (hbx : ∀ (j : Nat) (q : Nat × Nat), xget sb j = some q → xRI q (xs j)) (hM : xMem D tys s.heap.size b s 0 0 xw1 H locs cells slots) (hL : xRL s.heap.size b xL1 ls 4) : W p l e room_1 s m #[Value.ref b] below meth c H locs cells slots (lw_Z below #[Value.ref b] s) (F0 m pc ls []) := by
  unfold xleaf at hl
  rw [yrun_eq] at hl
  cases hr : xrun (TL sl sb) xCa 3000 (pc, xL1, [], xw1) with
  | none => rw [hr] at hl; cases hl
  | some q =>
    obtain ⟨pc', L', S', w'⟩ := q
    rw [hr] at hl
    match S', hr, hl with
    | [.inl a], hr, hl =>
      simp only [Bool.and_eq_true] at hl
      obtain ⟨e1, e2, e3, e4, e5⟩ := hl
      have e1 := Nat.eq_of_beq_eq_true e1
      have e2 := Nat.eq_of_beq_eq_true e2
      have e3 := Nat.eq_of_beq_eq_true e3
      have e4 := xble e4
      have e5 := xble e5
      subst e1
      obtain ⟨hle, hre⟩ := xrun_ok (TL_ok sl xs sb) xCa_ok 3000 pc xL1 [] xw1 _ _ _ _ hr
      refine hre p l e room_1 s m _ below meth c _ 4 D tys s.heap.size b 0 0 (xLw_ctx h) (xLw_G h hbx) (Nat.le_of_ble_eq_true rfl) (Nat.le_of_ble_eq_true rfl) (by rw [Nat.zero_add]; exact e4) (by rw [Nat.zero_add]; exact e5) ls [] H locs cells slots hM hL rfl ?_
      intro ls' st' H' locs' cells' slots' hM' hL' hS'
      obtain ⟨u, st2, rfl, ⟨x, rfl, hx1, hx2⟩, rfl⟩ := hS'
      have ex : x = 1 := xo_inj (by have e9 : xo 1 = 2147483649 := by decide +kernel
                                    rw [e9]; omega)
      subst ex
      obtain ⟨⟨hx, hb, hret, hml, hown, hts, hX, hbl, hlocks, hgv⟩, -⟩ := h
      obtain ⟨-, -, hS9, hc9, hs9, -⟩ := hM'
      refine va_forget (fun q hq => hS9.2.2 q hq) ?_
      refine W.widen (k := 600000) (n := 7302250) (by omega) (by omega) ?_
      exact lw_ret hx hb hret hlocks dL_1256
end XW
theorem xB6 {xs : Nat → Int32} {q0 q1 q2 q3 q4 q5 : Nat × Nat} (h0 : xRI q0 (xs 0)) (h1 : xRI q1 (xs 1)) (h2 : xRI q2 (xs 2)) (h3 : xRI q3 (xs 3)) (h4 : xRI q4 (xs 4)) (h5 : xRI q5 (xs 5)) : ∀ (j : Nat) (q : Nat × Nat), xget [q0, q1, q2, q3, q4, q5] j = some q → xRI q (xs j) := by
  intro j q h
  rw [xget_eq] at h
  match j, h with
  | 0, h => cases h; exact h0
  | 1, h => cases h; exact h1
  | 2, h => cases h; exact h2
  | 3, h => cases h; exact h3
  | 4, h => cases h; exact h4
  | 5, h => cases h; exact h5
  | j + 6, h => simp at h
