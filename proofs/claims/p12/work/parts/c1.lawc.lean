/-! ===== THE LAW: what stands at its loop's head, a call, a number of the script ===== -/
def TBL : List (Nat × aQ) := [(1, (0, 2000)), (2, (0, 400)), (3, (0, 12)), (4, (0, 408)), (5, (0, 5)), (6, (0, 7)), (7, (0, 20)), (8, (0, 29)), (9, (0, 30)), (10, (0, 2000)), (20, (0, 30)), (21, (0, 20)), (22, (0, 1))]
def lwB (I : zI) : Prop := zInv I ∧ ∀ q ∈ TBL, q.2.1 ≤ zf I q.1 ∧ zf I q.1 ≤ q.2.2
/-- a contract that the standing bounds give, and that keeps them -/
def lchk (c : aC) : Bool := c.2.1.all (fun q => TBL.any (fun t => Nat.beq t.1 q.1 && (decide (q.2.1 ≤ t.2.1) && decide (t.2.2 ≤ q.2.2)))) && (c.2.2.1.all (fun al => al.2.1.all (fun q => TBL.all (fun t => !Nat.beq t.1 q.1 || (decide (t.2.1 ≤ q.2.2.1) && decide (q.2.2.2 ≤ t.2.2))))) && (c.2.2.2.1.1 || (!c.2.2.2.1.2 && c.2.2.1.all (fun al => al.2.1.all (fun q => !Nat.beq q.1 22)))))
def lno (c : aC) (id : Nat) : Bool := c.2.2.1.all (fun al => al.2.1.all (fun q => !Nat.beq q.1 id))
def lint (c : aC) : Bool := c.2.2.1.all (fun al => match al.1 with
  | some (.inl _) => true
  | _ => false)
def lzero (c : aC) (id : Nat) : Bool := c.2.2.1.all (fun al => al.2.1.any (fun q => Nat.beq q.1 id && (decide (0 ≤ q.2.2.1) && decide (q.2.2.2 ≤ 0))))
theorem lwB_flds {c : aC} {I : zI} (h : lchk c = true) (hB : lwB I) : ∀ q ∈ c.2.1, q.2.1 ≤ (I q.1).toInt ∧ (I q.1).toInt ≤ q.2.2 := by
  intro q hq
  unfold lchk at h
  simp only [Bool.and_eq_true] at h
  have h1 := List.all_eq_true.mp h.1 q hq
  obtain ⟨t, ht, h2⟩ := List.any_eq_true.mp h1
  simp only [Bool.and_eq_true, decide_eq_true_eq] at h2
  obtain ⟨e, h3, h4⟩ := h2
  have e := Nat.eq_of_beq_eq_true e
  have h5 := hB.2 t ht
  rw [e] at h5
  have h5 : t.2.1 ≤ (I q.1).toInt ∧ (I q.1).toInt ≤ t.2.2 := h5
  omega
theorem lno_fr {c : aC} {id : Nat} {as : List zV} {I I' : zI} {r : Option zV} (hid : id < 4096) (h : lno c id = true) (hp : aPost zInv c as I r I') : I' id = I id := by
  obtain ⟨⟨al, hal, -, -, h3, -⟩, -⟩ := hp
  refine h3 id hid (fun a ha => ?_)
  have h1 := List.all_eq_true.mp (List.all_eq_true.mp h al hal) (id, a) ha
  have e : Nat.beq id id = true := by rw [Nat.beq_eq]
  rw [show Nat.beq (id, a).1 id = Nat.beq id id from rfl, e] at h1
  cases h1
theorem lzero_at {c : aC} {id : Nat} {as : List zV} {I I' : zI} {r : Option zV} (h : lzero c id = true) (hp : aPost zInv c as I r I') : zf I' id = 0 := by
  obtain ⟨⟨al, hal, -, h2, -⟩, -⟩ := hp
  obtain ⟨q, hq, h1⟩ := List.any_eq_true.mp (List.all_eq_true.mp h al hal)
  simp only [Bool.and_eq_true, decide_eq_true_eq] at h1
  obtain ⟨e, h3, h4⟩ := h1
  have e := Nat.eq_of_beq_eq_true e
  have h5 := (h2 q hq).2
  rw [e] at h5
  show (I' id).toInt = 0
  omega
theorem lint_r {c : aC} {as : List zV} {I I' : zI} {r : Option zV} (h : lint c = true) (hp : aPost zInv c as I r I') : ∃ x : Int32, r = some (.inl x) := by
  obtain ⟨⟨al, hal, h1, -⟩, -⟩ := hp
  have h2 := List.all_eq_true.mp h al hal
  cases hr : al.1 with
  | none => simp [hr] at h2
  | some q =>
    cases q with
    | inr u => simp [hr] at h2
    | inl q =>
      rw [hr] at h1
      obtain ⟨x, hx, -⟩ := h1
      exact ⟨x, hx⟩
theorem lwB_post {c : aC} {as : List zV} {I I' : zI} {r : Option zV} (h : lchk c = true) (hB : lwB I) (hp : aPost zInv c as I r I') : lwB I' := by
  obtain ⟨⟨al, hal, h1, h2, h3, h4⟩, h5, h6⟩ := id hp
  unfold lchk at h
  simp only [Bool.and_eq_true] at h
  obtain ⟨-, k1, k2⟩ := h
  have k1 := List.all_eq_true.mp k1 al hal
  refine ⟨?_, fun t ht => ?_⟩
  · cases hf : c.2.2.2.1.1 with
    | true => exact h5 hf
    | false =>
      rw [hf, Bool.false_or, Bool.and_eq_true] at k2
      obtain ⟨f2, k3⟩ := k2
      have f2 : c.2.2.2.1.2 = false := by cases hq : c.2.2.2.1.2 with
        | true => rw [hq] at f2; cases f2
        | false => rfl
      refine zext I I' (fun id hid => ?_) hB.1
      by_cases hlo : 4096 ≤ id
      · exact h6 f2 id hlo
      · have e : id = 22 := by
          rcases hid with q | q
          · omega
          · unfold zprot at q
            rcases Bool.or_eq_true _ _ |>.mp q with q | q
            · exact Nat.eq_of_beq_eq_true q
            · have := Nat.le_of_ble_eq_true q; omega
        subst e
        exact lno_fr (c := c) (by decide) k3 hp
  · by_cases hin : ∃ a, (t.1, a) ∈ al.2.1
    · obtain ⟨a, ha⟩ := hin
      have h7 := List.all_eq_true.mp (List.all_eq_true.mp k1 (t.1, a) ha) t ht
      have e : Nat.beq t.1 t.1 = true := by rw [Nat.beq_eq]
      have h8 := (h2 (t.1, a) ha).2
      simp only [e, Bool.not_true, Bool.false_or, Bool.and_eq_true, decide_eq_true_eq] at h7
      have h8 : a.2.1 ≤ (I' t.1).toInt ∧ (I' t.1).toInt ≤ a.2.2 := h8
      have h7 : t.2.1 ≤ a.2.1 ∧ a.2.2 ≤ t.2.2 := h7
      show t.2.1 ≤ (I' t.1).toInt ∧ (I' t.1).toInt ≤ t.2.2
      omega
    · have hlt : t.1 < 4096 := (show ∀ t ∈ TBL, t.1 < 4096 by decide) t ht
      have e := h3 t.1 hlt (fun a ha => hin ⟨a, ha⟩)
      show t.2.1 ≤ (I' t.1).toInt ∧ (I' t.1).toInt ≤ t.2.2
      rw [e]
      exact hB.2 t ht
theorem lwB_at {I : zI} (hB : lwB I) (id : Nat) (lo hi : Int) (h : (id, (lo, hi)) ∈ TBL) : lo ≤ zf I id ∧ zf I id ≤ hi := hB.2 _ h
theorem lwB_upd {I : zI} {id : Nat} {v : Int32} (hB : lwB I) (hp : zprot id = false) (hid : id < 4096) (h : ∀ q ∈ TBL, q.1 = id → q.2.1 ≤ v.toInt ∧ v.toInt ≤ q.2.2) : lwB (zupd I id v) := by
  refine ⟨zextp _ id _ hp hid hB.1, fun q hq => ?_⟩
  by_cases e : q.1 = id
  · rw [e, zf_same]
    exact h q hq e
  · rw [zf_ne e]
    exact hB.2 q hq
section LW
variable {p : Program} {l : Launch} {e : Env} {s : State} {m : MethodId} {below : List Frame} {meth : Method} {c : Code} {b sl : Nat} {xs : Nat → Int32} {D : va_G} {tys : List (ClassId × FieldType)} {Q : State → Prop}
def lLv (sz b : Nat) (i : Int32) : List (Nat × Value) := [(0, .ref b), (1, .ref (sz + 0)), (2, .ref (sz + 75)), (3, .int i)]
def lCx (p : Program) (s : State) (m : MethodId) (meth : Method) (c : Code) (b sl : Nat) (xs : Nat → Int32) (D : va_G) (tys : List (ClassId × FieldType)) : Prop := xCtx p s m #[Value.ref b] meth c code "CapitalCaseLaw" false 4 D tys ∧ va_X b sl xs s s.heap ∧ b < s.heap.size ∧ sl ≤ 3072
/-- a number of the script -/
theorem lw_ld {N pc cells slots : Nat} {I : zI} {μ : xM} {ls : Array Slot} {H : Heap} {locs : List Loc} {i kv : Int32} {kk : Int} {st : List Value} (C : lCx p s m meth c b sl xs D tys) (hM : zMem zG0 D tys s.heap.size N 0 s I μ H locs) (hL : lv_has ls 4 (lLv s.heap.size b i)) (d0 : decode code pc = .ok (.aload_n 0, 1)) (d1 : decode code (pc + 1) = .ok (.iload_n 3, 1)) (d2 : decode code (pc + 2) = .ok (.iconst kk, 1)) (hkk : Int32.ofInt kk = kv) (d3 : decode code (pc + 3) = .ok (.iadd, 1)) (d4 : decode code (pc + 4) = .ok (.iaload, 1)) (h0 : 0 ≤ i.toInt) (h6 : i.toInt + 6 ≤ (sl : Int)) (hk0 : 0 ≤ kv.toInt) (hk5 : kv.toInt ≤ 5) (k : ∀ z : Int32, W p l e room_1 s m #[Value.ref b] below meth c H locs cells slots Q (F0 m (pc + 5) ls (.int z :: st))) : W p l e room_1 s m #[Value.ref b] below meth c H locs cells slots Q (F0 m pc ls st) := by
  obtain ⟨⟨hx, hb, -⟩, hX, hbl, hsl⟩ := C
  have ea : (i + kv).toInt = i.toInt + kv.toInt := by
    rw [Int32.toInt_add]
    exact an_bm (by omega) (by omega)
  refine lv_aload_n hx hb d0 rfl (lv_at hL 0 rfl) ?_
  refine lv_iload_n hx hb d1 rfl (lv_at hL 3 rfl) ?_
  refine lv_iconst hx hb d2 hkk ?_
  refine lv_iadd hx hb d3 ?_
  exact va_sld hx hb hX hbl (by omega) hM.2.2.1 (ix (n := sl) (by omega) (by omega)).1 d4 (k _)
/-- a call -/
theorem lw_call {N pc cells slots j np ci index a : Nat} {I : zI} {μ : xM} {ls : Array Slot} {H : Heap} {locs : List Loc} {y : MethodName} {bytes : ByteArray} {maxL M : Nat} {ret : Option FieldType} {T : u_T} {us : List Int32} {st rest : List Value} {fts : List zT} (C : lCx p s m meth c b sl xs D tys) (hM : zMem zG0 D tys s.heap.size N 0 s I μ H locs) (hls : ls.size = 4) (hd : decode code pc = .ok (.invokevirtual index, 3)) (hq : xCal PZ j y bytes maxL ret np) (hcl : vwCl[ci]? = some (y.cls, T, M)) (hw1 : Cond.methodLink "CapitalCaseLaw" index y ∈ xTB) (hw2 : Cond.instanceMethod y ∈ xTB) (hw3 : Cond.selects y.cls y y ∈ xTB) (hkd : zG0.2.1 (zG0.1 a) = .inl (ci, fts)) (haN : a < 119) (hpre : zpre 1000 j (.inr (.inl (some a)) :: us.map Sum.inl) I) (hst : st = (us.map Value.int).reverse ++ .ref (s.heap.size + a) :: rest) (hlen : us.length = np) (hcat : (rest.map fun v => v.category).sum ≤ 8) (hc1 : cells + (zbd j).1 ≤ 600000) (hc2 : slots + (zbd j).2 ≤ 7302250)
    (k : ∀ (N' : Nat) (I' : zI) (r : Option zV) (v : Option Value) (H' : Heap) (locs' : List Loc) (μ' : xM), zpost j (.inr (.inl (some a)) :: us.map Sum.inl) I r I' → Ex gx (y, bytes, maxL, ret) (.inr (.inl (some a)) :: us.map Sum.inl) μ r μ' → zRO s.heap.size N' r v → zMem zG0 D tys s.heap.size N' 0 s I' μ' H' locs' → W p l e room_1 s m #[Value.ref b] below meth c H' locs' (cells + (zbd j).1) (slots + (zbd j).2) Q (F0 m (pc + 3) ls (v.toList ++ rest))) : W p l e room_1 s m #[Value.ref b] below meth c H locs cells slots Q (F0 m pc ls st) := by
  obtain ⟨C1, -⟩ := C
  obtain ⟨hx0, hb, hml, hown, hts, hKt, hmap, hin, hxN⟩ := C1
  obtain ⟨hpx, hcode, hini0, hml0, hdd⟩ := hq
  have hmet := calls_ok 1000 j _ I _ hpre hpx l D tys s.heap.size μ
  obtain ⟨hws, hz, hS0, hsc, hstr⟩ := id hM
  obtain ⟨ws, hR, hP, hXs⟩ := id hws
  have hN119 := hR.2.2.1
  have haN' : a < N := by omega
  obtain ⟨ue, hue, huc⟩ := zcell_at hR haN'
  unfold zCell at huc
  rw [hkd] at huc
  obtain ⟨vs, rfl, -, -⟩ := huc
  have hUs : ∀ us : List Int32, zRS s.heap.size N (us.map Sum.inl) (us.map Value.int) := by
    intro us
    induction us with
    | nil => rfl
    | cons x us ih => exact ⟨_, _, rfl, rfl, ih⟩
  have hAs : zRS s.heap.size N (.inr (.inl (some a)) :: us.map Sum.inl) (.ref (s.heap.size + a) :: us.map Value.int) := ⟨_, _, rfl, ⟨rfl, haN'⟩, hUs us⟩
  have hr := va_runV (l := l) (e := e) (below := below) (meth := meth) (locs := locs) (cells := cells) (slots := slots) (g := F0 m pc ls st) (R := room_1) (As := us.map Value.int) (rest := rest) (Ts := xTB) (C := y.cls) ⟨hx0, hb, hml, hown, hts⟩ hmet ⟨callB_of np hts (xGI hcode) rfl rfl rfl (hts _ hini0) (hts _ hw1) hdd ⟨by show 1000 + 1 ≤ 2048; omega, by show 8 + (maxL + 11) + 64 * 1000 ≤ 84000; omega⟩, hts _ hw2, hts _ hw3⟩ ⟨zPc_blind, va_recv hKt hP hcl hue, zPc_of hAs hws hz hKt hmap hxN hstr hS0⟩ rfl (by rw [List.length_map]; exact hlen) hls hst (by show 2 * 0 + _ ≤ 8; omega) hd ⟨hc1, hc2⟩
  intro T' hT X
  obtain ⟨v, st₀, t, T2, L1, h0, X', hL1, e1, e2, ⟨N', v2, r, I', μ', hN, hv2, ⟨hPo, hEx⟩, hro, hw1', hsz, hF⟩, go⟩ := hr T' hT X
  cases hv2
  have hM' : zMem zG0 D tys s.heap.size N' 0 s I' μ' T2.heap (locs ++ L1) := by
    refine ⟨by rw [e1]; exact hw1', by rw [e1]; exact hsz, ⟨?_, fun q q1 q2 => ?_, fun q hq => ?_⟩, hsc, hstr⟩
    · have := hF.1
      rw [h0] at this
      rw [e1]
      exact Nat.le_trans hS0.1 this
    · rw [e1, hF.2 q (by rw [h0]; exact Nat.lt_of_lt_of_le q1 hS0.1) q2, h0]
      exact hS0.2.1 q q1 q2
    · rcases List.mem_append.mp hq with h | h
      · exact hS0.2.2 q h
      · exact hL1 q h
  obtain ⟨t2, a1, b1⟩ := k N' I' r v T2.heap (locs ++ L1) μ' hPo hEx hro hM' T2 rfl X'
  exact ⟨t2, go t2 a1, b1⟩
/-- a call by the tables, its answer dropped -/
theorem lw_tab {N pc cells slots j np ci index a : Nat} {I : zI} {μ : xM} {ls : Array Slot} {H : Heap} {locs : List Loc} {y : MethodName} {bytes : ByteArray} {maxL M : Nat} {ret : Option FieldType} {T : u_T} {us : List Int32} {st : List Value} {fts : List zT} {ct : aC} (C : lCx p s m meth c b sl xs D tys) (hM : zMem zG0 D tys s.heap.size N 0 s I μ H locs) (hls : ls.size = 4) (hB : lwB I) (hd : decode code pc = .ok (.invokevirtual index, 3)) (hpop : decode code (pc + 3) = .ok (.pop, 1)) (hq : xCal PZ j y bytes maxL ret np) (hcl : vwCl[ci]? = some (y.cls, T, M)) (hw1 : Cond.methodLink "CapitalCaseLaw" index y ∈ xTB) (hw2 : Cond.instanceMethod y ∈ xTB) (hw3 : Cond.selects y.cls y y ∈ xTB) (hkd : zG0.2.1 (zG0.1 a) = .inl (ci, fts)) (haN : a < 119) (hz : ZC j = some ct) (hch : lchk ct = true) (hin : lint ct = true) (hdep : ct.2.2.2.2 ≤ 1000) (hars : aArsOk zG0 ct.1 (.inr (.inl (some a)) :: us.map Sum.inl)) (hst : st = (us.map Value.int).reverse ++ [.ref (s.heap.size + a)]) (hlen : us.length = np) (hbd : zbd j = (0, 0) ∨ zbd j = (6, 396)) (hc1 : cells + 6 ≤ 600000) (hc2 : slots + 396 ≤ 7302250)
    (k : ∀ (N' : Nat) (I' : zI) (μ' : xM) (H' : Heap) (locs' : List Loc) (cells' slots' : Nat), (∃ r, aPost zInv ct (.inr (.inl (some a)) :: us.map Sum.inl) I r I' ∧ Ex gx (y, bytes, maxL, ret) (.inr (.inl (some a)) :: us.map Sum.inl) μ r μ') → lwB I' → zMem zG0 D tys s.heap.size N' 0 s I' μ' H' locs' → cells' = cells + (zbd j).1 → slots' = slots + (zbd j).2 → W p l e room_1 s m #[Value.ref b] below meth c H' locs' cells' slots' Q (F0 m (pc + 4) ls [])) : W p l e room_1 s m #[Value.ref b] below meth c H locs cells slots Q (F0 m pc ls st) := by
  have hbb : (zbd j).1 ≤ 6 ∧ (zbd j).2 ≤ 396 := by rcases hbd with h | h <;> rw [h] <;> decide
  refine lw_call (rest := []) C hM hls hd hq hcl hw1 hw2 hw3 hkd haN (zpre_of hz ⟨hdep, hars, lwB_flds hch hB, fun _ => hB.1⟩) hst hlen (by decide) (by omega) (by omega) (fun N' I' r v H' locs' μ' hp hE hro hM' => ?_)
  have hp := zpost_of hz hp
  obtain ⟨x, rfl⟩ := lint_r hin hp
  obtain ⟨u, rfl, rfl⟩ := hro
  obtain ⟨hx, hb, -⟩ := C.1
  exact lv_pop hx hb hpop rfl (k N' I' μ' H' locs' _ _ ⟨_, hp, hE⟩ (lwB_post hch hB hp) hM' rfl rfl)
end LW
