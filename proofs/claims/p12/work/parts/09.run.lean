/-! ===== calls, runs, contracts ===== -/
def xpop : Nat → List xV → List xV → Option (List xV × List xV)
  | 0, acc, S => some (acc, S)
  | _ + 1, _, [] => none
  | k + 1, acc, v :: S => xpop k (v :: acc) S
theorem xpop_eq : ∀ (k : Nat) (acc S as rest : List xV), xpop k acc S = some (as, rest) → ∃ S1, S = S1 ++ rest ∧ as = S1.reverse ++ acc ∧ S1.length = k
  | 0, acc, S, as, rest, h => by cases h; exact ⟨[], rfl, rfl, rfl⟩
  | k + 1, acc, [], as, rest, h => by cases h
  | k + 1, acc, v :: S, as, rest, h => by
    obtain ⟨S1, rfl, rfl, h3⟩ := xpop_eq k (v :: acc) S as rest h
    exact ⟨v :: S1, rfl, by simp, by simp [h3]⟩
def xpush (r : Option xV) (S : List xV) : List xV := match r with
  | none => S
  | some v => v :: S
noncomputable def x_inv (j na n : Nat) : xF := fun call L S w => match xpop na [] S with
  | some (as, rest) => bif Nat.ble (xcat rest) 8 then (match call j as w with
    | some (r, w') => some (n, L, xpush r rest, w')
    | none => none) else none
  | none => none
/-- is the first one an object of this class -/
noncomputable def xob (w : xW) (ci : Nat) (as : List xV) : Bool := match as with
  | .inr (.inl (some k)) :: _ => (match xwg w k with
    | some (.inr (.inr (c, _))) => Nat.beq c ci
    | _ => false)
  | _ => false
noncomputable def x_invV (ci j na n : Nat) : xF := fun call L S w => match xpop na [] S with
  | some (as, rest) => bif xob w ci as && Nat.ble (xcat rest) 8 then (match call j as w with
    | some (r, w') => some (n, L, xpush r rest, w')
    | none => none) else none
  | none => none
section XC
variable {PX : xPX} {G : State → Nat → Nat → Prop} {cc : ByteArray} {own : String} {ini : Bool} {pc : Nat}
theorem x_inv_eq {j na n : Nat} {call : xC} {L : List (Option xV)} {S : List xV} {w : xW} {q : xS} (h : x_inv j na n call L S w = some q) : ∃ as rest r w', S = as.reverse ++ rest ∧ as.length = na ∧ xcat rest ≤ 8 ∧ call j as w = some (r, w') ∧ q = (n, L, xpush r rest, w') := by
  unfold x_inv at h
  split at h
  · rename_i as rest hp
    obtain ⟨S1, rfl, rfl, h3⟩ := xpop_eq _ _ _ _ _ hp
    cases hb : Nat.ble (xcat rest) 8 with
    | false => rw [hb] at h; cases h
    | true =>
      rw [hb] at h
      cases hc : call j (S1.reverse ++ []) w with
      | none => simp only [hc] at h; cases h
      | some q1 =>
        obtain ⟨r, w'⟩ := q1
        simp only [hc] at h
        exact ⟨_, rest, r, w', by simp, by simp [h3], xble hb, hc, (Option.some.inj h).symm⟩
  · cases h
theorem x_invV_eq {ci j na n : Nat} {call : xC} {L : List (Option xV)} {S : List xV} {w : xW} {q : xS} (h : x_invV ci j na n call L S w = some q) : ∃ as rest r w', S = as.reverse ++ rest ∧ as.length = na ∧ xob w ci as = true ∧ xcat rest ≤ 8 ∧ call j as w = some (r, w') ∧ q = (n, L, xpush r rest, w') := by
  unfold x_invV at h
  split at h
  · rename_i as rest hp
    obtain ⟨S1, rfl, rfl, h3⟩ := xpop_eq _ _ _ _ _ hp
    cases hb : (xob w ci (S1.reverse ++ []) && Nat.ble (xcat rest) 8) with
    | false => rw [hb] at h; cases h
    | true =>
      rw [hb] at h
      simp only [Bool.and_eq_true] at hb
      cases hc : call j (S1.reverse ++ []) w with
      | none => simp only [hc] at h; cases h
      | some q1 =>
        obtain ⟨r, w'⟩ := q1
        simp only [hc] at h
        exact ⟨_, rest, r, w', by simp, by simp [h3], hb.1, xble hb.2, hc, (Option.some.inj h).symm⟩
  · cases h
theorem xPc_blind {D : va_G} {tys : List (ClassId × FieldType)} {sz b : Nat} {as : List xV} {w : xW} : FrameBlind (xPc D tys sz b as w) := by
  intro a U g mk h
  obtain ⟨us, h1, h2, h3, h4, h5, h6, h7⟩ := h
  exact ⟨us, h1, h2, h3, h4, va_K.moved (u := U) (U := U.calling g mk a) (Vm.Alike.refl U.vm) h5, h6, xN_same rfl h7⟩
theorem xPc_of {D : va_G} {tys : List (ClassId × FieldType)} {sz b : Nat} {as : List xV} {us : List Value} {w : xW} {s : State} {H : Heap} (h2 : xRS sz b as us) (h3 : ∃ ws : va_W, xRW sz b tys w ws ∧ va_P D vwCl ws H) (h4 : H.size = sz + w.2.1) (hK : va_K D vwCl tys s) (h6 : tys.map Prod.snd = xTys) (h7 : xN s) : ∀ U : State, U.heap = H → s.WarmedH U.vm → xPc D tys sz b as w us.toArray U :=
  fun U hU hW => ⟨us, rfl, h2, by rw [hU]; exact h3, by rw [hU]; exact h4, va_K.moved hW.alike hK, h6, xN_warm hW h7⟩
/-- behind a call -/
theorem x_back {p : Program} {l : Launch} {e : Env} {R : Room} {s : State} {m : MethodId} {args : Array Value} {below : List Frame} {meth : Method} {c : Code} {H : Heap} {locs : List Loc} {cells slots : Nat} {Q : State → Prop} {D : va_G} {tys : List (ClassId × FieldType)} {sz b c0 s0 nL : Nat} {w w' : xW} {r : Option xV} {ls : Array Slot} {st0 rest : List Value} {L : List (Option xV)} {S : List xV} {a : Array Value}
    (hr : va_Run p l e R s m args below meth c H locs cells slots (w'.2.1 - w.2.1) (w'.1 - w.1) (F0 m pc ls st0) rest (xQc D tys sz b r w' a) (fun q => sz ≤ q)) (hle : xLe w w') (hM : xMem D tys sz b s c0 s0 w H locs cells slots) (hL : xRL sz b L ls nL) (hS : xRS sz b S rest)
    (kk : ∀ (ls' : Array Slot) (st' : List Value) (H' : Heap) (locs' : List Loc) (cells' slots' : Nat), xMem D tys sz b s c0 s0 w' H' locs' cells' slots' → xRL sz b L ls' nL → xRS sz b (xpush r S) st' → W p l e R s m args below meth c H' locs' cells' slots' Q (F0 m (pc + 3) ls' st')) : W p l e R s m args below meth c H locs cells slots Q (F0 m pc ls st0) := by
  intro T hT X
  obtain ⟨v, st₀, t, T', L1, h0, X', hL1, e1, e2, ⟨v2, hv2, hro, hw1, hsz, hF⟩, go⟩ := hr T hT X
  cases hv2
  obtain ⟨-, g1, g2, g3, g4, g5⟩ := hM
  obtain ⟨k1, k2⟩ := hle
  have hM' : xMem D tys sz b s c0 s0 w' T'.heap (locs ++ L1) (cells + (w'.2.1 - w.2.1)) (slots + (w'.1 - w.1)) := by
    refine ⟨by rw [e1]; exact hw1, by rw [e1]; exact hsz, ⟨?_, fun q q1 q2 => ?_, fun q hq => ?_⟩, by omega, by omega, g5⟩
    · have := hF.1
      rw [h0] at this
      rw [e1]
      exact Nat.le_trans g2.1 this
    · rw [e1, hF.2 q (by rw [h0]; exact Nat.lt_of_lt_of_le q1 g2.1) q2, h0]
      exact g2.2.1 q q1 q2
    · rcases List.mem_append.mp hq with h | h
      · exact g2.2.2 q h
      · exact hL1 q h
  have hS' : xRS sz b (xpush r S) (v.toList ++ rest) := by
    cases r with
    | none => cases hro; exact hS
    | some a1 =>
      obtain ⟨u, rfl, hu⟩ := hro
      exact ⟨u, rest, rfl, hu, hS⟩
  obtain ⟨t2, a1, b1⟩ := kk ls _ _ _ _ _ hM' hL hS' T' rfl X'
  exact ⟨t2, go t2 a1, b1⟩
theorem xGI {y : MethodName} {bytes : ByteArray} {maxL : Nat} {ret : Option FieldType} (h : Cond.code y bytes maxL ret ∈ xTB) : GoodIn xTB (Cond.code y bytes maxL ret :: xTB) := by
  have key : ∀ w ∈ xTB, w ∈ xTB ∧ ((w.onTables && w.keeps) = true ∨ ∃ ty, w = .arrayClass ty) := fun w hw => ⟨hw, good_of_word (List.mem_filter.mp hw).2⟩
  intro w hw
  rcases List.mem_cons.mp hw with rfl | hw
  · exact key _ h
  · exact key w hw
/-- what a call needs of the callee -/
def xCal (PX : xPX) (j : Nat) (y : MethodName) (bytes : ByteArray) (maxL : Nat) (ret : Option FieldType) (np : Nat) : Prop :=
  PX j = some (y, bytes, maxL, ret) ∧ Cond.code y bytes maxL ret ∈ xTB ∧ Cond.initialized y.cls ∈ xTB ∧ maxL ≤ 45 ∧ (y.cls ≠ "java/lang/invoke/MethodHandle" ∧ y.cls ≠ "java/lang/invoke/VarHandle" ∧ (parseMethodDescriptor y.desc).map (fun d => d.parameters.length) = some np)
theorem s_invS {index j np : Nat} {y : MethodName} {bytes : ByteArray} {maxL : Nat} {ret : Option FieldType} (hd : decode cc pc = .ok (.invokestatic index, 3)) (hq : xCal PX j y bytes maxL ret np) (hw1 : Cond.methodLink own index y ∈ xTB) (hw2 : Cond.static y ∈ xTB) : xSound PX G cc own ini pc (x_inv j np (pc + 3)) := by
  intro call d hc L S w pc' L' S' w' h
  obtain ⟨as, rest, r, w1, rfl, hlen, hcat, hcl, hr⟩ := x_inv_eq h
  cases hr
  obtain ⟨hle, hmet⟩ := hc j as w r _ hcl
  obtain ⟨hpx, hcode, hini0, hml0, hdd⟩ := hq
  refine ⟨hle, ?_⟩
  intro p l e R s m args below meth c Q nL D tys sz b c0 s0 C1 hG hf hlo h1 h2 ls st H locs cells slots hM hL hS kk
  obtain ⟨t1, t2, rfl, hS1, hS2⟩ := xRS_split hS
  obtain ⟨hx0, hb, hml, hown, hts, hK, hmap, hin, hxN⟩ := C1
  obtain ⟨hws, hz, hS0, hM3, hM4, hM5⟩ := id hM
  have hcs := xcat_ok hS2
  have hAs : xRS sz b as t1.reverse := by
    have := xRS_rev hS1
    rwa [List.reverse_reverse] at this
  have hk1 := hle.1
  have hk2 := hle.2
  refine x_back (D := D) (tys := tys) (w := w) (w' := w') (r := r) (a := t1.reverse.toArray) ?_ hle hM hL hS2 kk
  exact va_runS (As := t1.reverse) (rest := t2) (Ts := xTB) ⟨hx0, hb, hml, hown, hts⟩ (hmet _ hpx l D tys sz b) ⟨callB_of np hts (xGI hcode) rfl rfl rfl (hts _ hini0) (hts _ hw1) hdd ⟨by show d + 1 ≤ _; omega, by show 8 + (maxL + 11) + 64 * d ≤ _; omega⟩, hts _ hw2⟩ ⟨xPc_blind, xPc_of hAs hws hz hK hmap hxN⟩ rfl (by rw [xRS_len hAs]; exact hlen) (by obtain ⟨-, lv, g, -⟩ := hL; exact g.1) (by rw [List.reverse_reverse]) (by show 2 * 0 + _ ≤ 8; omega) hd ⟨by omega, by omega⟩
theorem xob_eq {w : xW} {ci : Nat} {as : List xV} (h : xob w ci as = true) : ∃ k fs as', as = .inr (.inl (some k)) :: as' ∧ xwg w k = some (.inr (.inr (ci, fs))) := by
  unfold xob at h
  split at h
  · rename_i k as'
    split at h
    · rename_i c fs hk
      have e := Nat.eq_of_beq_eq_true h
      subst e
      exact ⟨k, fs, as', rfl, hk⟩
    · cases h
  · cases h
theorem s_invV {index j np ci : Nat} {y : MethodName} {bytes : ByteArray} {maxL : Nat} {ret : Option FieldType} {T : u_T} {N : Nat} (hd : decode cc pc = .ok (.invokevirtual index, 3)) (hq : xCal PX j y bytes maxL ret np) (hcl : vwCl[ci]? = some (y.cls, T, N)) (hw1 : Cond.methodLink own index y ∈ xTB) (hw2 : Cond.instanceMethod y ∈ xTB) (hw3 : Cond.selects y.cls y y ∈ xTB) : xSound PX G cc own ini pc (x_invV ci j (np + 1) (pc + 3)) := by
  intro call d hc L S w pc' L' S' w' h
  obtain ⟨as, rest, r, w1, rfl, hlen, hob, hcat, hcall, hr⟩ := x_invV_eq h
  cases hr
  obtain ⟨hle, hmet⟩ := hc j as w r _ hcall
  obtain ⟨hpx, hcode, hini0, hml0, hdd⟩ := hq
  obtain ⟨k, fs, as', rfl, hk⟩ := xob_eq hob
  refine ⟨hle, ?_⟩
  intro p l e R s m args below meth c Q nL D tys sz b c0 s0 C1 hG hf hlo h1 h2 ls st H locs cells slots hM hL hS kk
  obtain ⟨t1, t2, rfl, hS1, hS2⟩ := xRS_split hS
  obtain ⟨hx0, hb, hml, hown, hts, hK, hmap, hin, hxN⟩ := C1
  obtain ⟨hws, hz, hS0, hM3, hM4, hM5⟩ := id hM
  have hcs := xcat_ok hS2
  have hAs : xRS sz b (.inr (.inl (some k)) :: as') t1.reverse := by
    have := xRS_rev hS1
    rwa [List.reverse_reverse] at this
  obtain ⟨u, us, hus, hu, hAs'⟩ := id hAs
  cases hu
  have ht1 : t1 = us.reverse ++ [.ref (sz + k)] := by rw [← List.reverse_reverse t1, hus]; simp
  subst ht1
  rw [List.reverse_append, List.reverse_reverse] at hAs
  have hAs : xRS sz b (.inr (.inl (some k)) :: as') (.ref (sz + k) :: us) := hAs
  have hk1 := hle.1
  have hk2 := hle.2
  obtain ⟨ws, hR, hP⟩ := id hws
  obtain ⟨ue, hue, vs, rfl, -⟩ := xcell hR hk
  refine x_back (D := D) (tys := tys) (w := w) (w' := w') (r := r) (a := (Value.ref (sz + k) :: us).toArray) ?_ hle hM hL hS2 kk
  exact va_runV (As := us) (rest := t2) (Ts := xTB) (C := y.cls) ⟨hx0, hb, hml, hown, hts⟩ (hmet _ hpx l D tys sz b) ⟨callB_of np hts (xGI hcode) rfl rfl rfl (hts _ hini0) (hts _ hw1) hdd ⟨by show d + 1 ≤ _; omega, by show 8 + (maxL + 11) + 64 * d ≤ _; omega⟩, hts _ hw2, hts _ hw3⟩ ⟨xPc_blind, va_recv hK hP hcl hue, xPc_of hAs hws hz hK hmap hxN⟩ rfl (by rw [xRS_len hAs']; simpa using hlen) (by obtain ⟨-, lv, g, -⟩ := hL; exact g.1) (by simp) (by show 2 * 0 + _ ≤ 8; omega) hd ⟨by omega, by omega⟩
theorem s_invI {index j np ci : Nat} {y : MethodName} {bytes : ByteArray} {maxL : Nat} (hd : decode cc pc = .ok (.invokespecial index, 3)) (hq : xCal PX j y bytes maxL none np) (hw1 : Cond.methodLink own index y ∈ xTB) (hw2 : Cond.instanceMethod y ∈ xTB) (hy : y.name = "<init>") : xSound PX G cc own ini pc (x_invV ci j (np + 1) (pc + 3)) := by
  intro call d hc L S w pc' L' S' w' h
  obtain ⟨as, rest, r, w1, rfl, hlen, hob, hcat, hcall, hr⟩ := x_invV_eq h
  cases hr
  obtain ⟨hle, hmet⟩ := hc j as w r _ hcall
  obtain ⟨hpx, hcode, hini0, hml0, hdd⟩ := hq
  obtain ⟨k, fs, as', rfl, hk⟩ := xob_eq hob
  refine ⟨hle, ?_⟩
  intro p l e R s m args below meth c Q nL D tys sz b c0 s0 C1 hG hf hlo h1 h2 ls st H locs cells slots hM hL hS kk
  obtain ⟨t1, t2, rfl, hS1, hS2⟩ := xRS_split hS
  obtain ⟨hx0, hb, hml, hown, hts, hK, hmap, hin, hxN⟩ := C1
  obtain ⟨hws, hz, hS0, hM3, hM4, hM5⟩ := id hM
  have hcs := xcat_ok hS2
  have hAs : xRS sz b (.inr (.inl (some k)) :: as') t1.reverse := by
    have := xRS_rev hS1
    rwa [List.reverse_reverse] at this
  obtain ⟨u, us, hus, hu, hAs'⟩ := id hAs
  cases hu
  have ht1 : t1 = us.reverse ++ [.ref (sz + k)] := by rw [← List.reverse_reverse t1, hus]; simp
  subst ht1
  rw [List.reverse_append, List.reverse_reverse] at hAs
  have hAs : xRS sz b (.inr (.inl (some k)) :: as') (.ref (sz + k) :: us) := hAs
  have hk1 := hle.1
  have hk2 := hle.2
  refine x_back (D := D) (tys := tys) (w := w) (w' := w') (r := r) (a := (Value.ref (sz + k) :: us).toArray) ?_ hle hM hL hS2 kk
  exact va_runI (As := us) (rest := t2) (Ts := xTB) ⟨hx0, hb, hml, hown, hts⟩ (hmet _ hpx l D tys sz b) ⟨callB_of np hts (xGI hcode) rfl rfl rfl (hts _ hini0) (hts _ hw1) hdd ⟨by show d + 1 ≤ _; omega, by show 8 + (maxL + 11) + 64 * d ≤ _; omega⟩, hy, hts _ hw2⟩ ⟨xPc_blind, xPc_of hAs hws hz hK hmap hxN⟩ rfl (by rw [xRS_len hAs']; simpa using hlen) (by obtain ⟨-, lv, g, -⟩ := hL; exact g.1) (by simp) (by show 2 * 0 + _ ≤ 8; omega) hd ⟨by omega, by omega⟩
theorem s_invIN {index j np ci : Nat} {y : MethodName} {host : String} {bytes : ByteArray} {maxL : Nat} (hd : decode cc pc = .ok (.invokespecial index, 3)) (hq : xCal PX j y bytes maxL none np) (hw1 : (own, index, y, host) ∈ xNT) (hw2 : Cond.instanceMethod y ∈ xTB) (hy : y.name = "<init>") : xSound PX G cc own ini pc (x_invV ci j (np + 1) (pc + 3)) := by
  intro call d hc L S w pc' L' S' w' h
  obtain ⟨as, rest, r, w1, rfl, hlen, hob, hcat, hcall, hr⟩ := x_invV_eq h
  cases hr
  obtain ⟨hle, hmet⟩ := hc j as w r _ hcall
  obtain ⟨hpx, hcode, hini0, hml0, hdd⟩ := hq
  obtain ⟨k, fs, as', rfl, hk⟩ := xob_eq hob
  refine ⟨hle, ?_⟩
  intro p l e R s m args below meth c Q nL D tys sz b c0 s0 C1 hG hf hlo h1 h2 ls st H locs cells slots hM hL hS kk
  obtain ⟨t1, t2, rfl, hS1, hS2⟩ := xRS_split hS
  obtain ⟨hx0, hb, hml, hown, hts, hK, hmap, hin, hxN⟩ := C1
  obtain ⟨hws, hz, hS0, hM3, hM4, hM5⟩ := id hM
  have hcs := xcat_ok hS2
  have hAs : xRS sz b (.inr (.inl (some k)) :: as') t1.reverse := by
    have := xRS_rev hS1
    rwa [List.reverse_reverse] at this
  obtain ⟨u, us, hus, hu, hAs'⟩ := id hAs
  cases hu
  have ht1 : t1 = us.reverse ++ [.ref (sz + k)] := by rw [← List.reverse_reverse t1, hus]; simp
  subst ht1
  rw [List.reverse_append, List.reverse_reverse] at hAs
  have hAs : xRS sz b (.inr (.inl (some k)) :: as') (.ref (sz + k) :: us) := hAs
  have hk1 := hle.1
  have hk2 := hle.2
  refine x_back (D := D) (tys := tys) (w := w) (w' := w') (r := r) (a := (Value.ref (sz + k) :: us).toArray) ?_ hle hM hL hS2 kk
  exact va_runIN (As := us) (rest := t2) (Ts := xTB) ⟨hx0, hb, hml, hown, hts⟩ (hmet _ hpx l D tys sz b) ⟨va_cnB np hts (xGI hcode) rfl rfl rfl (hxN.1 _ hw1) (hts _ hini0) hdd ⟨by show d + 1 ≤ _; omega, by show 8 + (maxL + 11) + 64 * d ≤ _; omega⟩, hy, hts _ hw2⟩ ⟨xPc_blind, xPc_of hAs hws hz hK hmap hxN⟩ rfl (by rw [xRS_len hAs']; simpa using hlen) (by obtain ⟨-, lv, g, -⟩ := hL; exact g.1) (by simp) (by show 2 * 0 + _ ≤ 8; omega) hd ⟨by omega, by omega⟩
end XC
