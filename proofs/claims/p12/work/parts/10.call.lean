noncomputable def xrun (T : Nat → Option xF) (call : xC) : Nat → xS → Option xS := Nat.rec (fun _ => none) (fun _ ih st => match T st.1 with
  | none => some st
  | some f => match f call st.2.1 st.2.2.1 st.2.2.2 with
    | none => none
    | some st' => ih st')
theorem xrun_0 (T : Nat → Option xF) (call : xC) (st : xS) : xrun T call 0 st = none := rfl
theorem xrun_s (T : Nat → Option xF) (call : xC) (n : Nat) (st : xS) : xrun T call (n + 1) st = match T st.1 with
  | none => some st
  | some f => match f call st.2.1 st.2.2.1 st.2.2.2 with
    | none => none
    | some st' => xrun T call n st' := rfl
def xTree (PX : xPX) (G : State → Nat → Nat → Prop) (cc : ByteArray) (own : String) (ini : Bool) (T : Nat → Option xF) : Prop := ∀ (pc : Nat) (f : xF), T pc = some f → xSound PX G cc own ini pc f
theorem xLe_tr {a b c : xW} (h1 : xLe a b) (h2 : xLe b c) : xLe a c := ⟨Nat.le_trans h1.1 h2.1, Nat.le_trans h1.2 h2.2⟩
theorem xrun_ok {PX : xPX} {G : State → Nat → Nat → Prop} {cc : ByteArray} {own : String} {ini : Bool} {T : Nat → Option xF} {call : xC} {d : Nat} (hT : xTree PX G cc own ini T) (hc : xCalls PX d call) :
    ∀ (n pc : Nat) (L : List (Option xV)) (S : List xV) (w : xW) (pc' : Nat) (L' : List (Option xV)) (S' : List xV) (w' : xW), xrun T call n (pc, L, S, w) = some (pc', L', S', w') → xLe w w' ∧ xReach G cc own ini pc d L S w pc' L' S' w' := by
  intro n
  induction n with
  | zero => intro pc L S w pc' L' S' w' h; cases h
  | succ n ih =>
    intro pc L S w pc' L' S' w' h
    rw [xrun_s] at h
    cases hf : T pc with
    | none =>
      simp only [hf] at h
      cases h
      refine ⟨xLe_rf, ?_⟩
      intro p l e R s m args below meth c Q nL D tys sz b c0 s0 C hG hf hlo h1 h2 ls st H locs cells slots hM hL hS kk
      exact kk _ _ _ _ _ _ hM hL hS
    | some f =>
      simp only [hf] at h
      cases hs : f call L S w with
      | none => simp only [hs] at h; cases h
      | some q =>
        obtain ⟨pc1, L1, S1, w1⟩ := q
        simp only [hs] at h
        obtain ⟨a1, a2⟩ := hT pc f hf call d hc L S w pc1 L1 S1 w1 hs
        obtain ⟨b1, b2⟩ := ih pc1 L1 S1 w1 pc' L' S' w' h
        refine ⟨xLe_tr a1 b1, ?_⟩
        intro p l e R s m args below meth c Q nL D tys sz b c0 s0 C hG hf hlo h1 h2 ls st H locs cells slots hM hL hS kk
        exact a2 p l e R s m args below meth c Q nL D tys sz b c0 s0 C hG hf hlo (Nat.le_trans b1.1 h1) (Nat.le_trans b1.2 h2) ls st H locs cells slots hM hL hS (fun ls1 st1 H1 locs1 cells1 slots1 hM1 hL1 hS1 => b2 p l e R s m args below meth c Q nL D tys sz b c0 s0 C hG hf hlo h1 h2 ls1 st1 H1 locs1 cells1 slots1 hM1 hL1 hS1 kk)
/-! a method: its steps, its locals, where it returns -/
abbrev xT : Type := (Nat → Option xF) × Nat × List (Nat × Nat)
noncomputable def xrt (rs : List (Nat × Nat)) (pc : Nat) : Nat := List.rec 0 (fun q _ ih => bif Nat.beq q.1 pc then q.2 else ih) rs
/-- what is returned: 1 an int, 2 a boolean, 3 nothing, 4 a long -/
def xfin (k : Nat) (S : List xV) : Option (Option xV) := match k, S with
  | 1, [.inl a] => some (some (.inl a))
  | 2, [.inl a] => bif Nat.ble 2147483648 a.1 && Nat.ble a.2 2147483649 then some (some (.inl a)) else none
  | 3, [] => some none
  | 4, [.inr (.inr (k + 1))] => some (some (.inr (.inr (k + 1))))
  | _, _ => none
def xla : List xV → List (Option xV)
  | [] => []
  | .inr (.inr (k + 1)) :: as => some (.inr (.inr (k + 1))) :: none :: xla as
  | v :: as => some v :: xla as
def xloc (n : Nat) (as : List xV) : List (Option xV) := xla as ++ List.replicate (n - (xla as).length) none
noncomputable def xcall (PT : Nat → Option xT) (fuel : Nat) : Nat → xC := Nat.rec (fun _ _ _ => none) (fun _ ih j as w => match PT j with
  | none => none
  | some q => bif Nat.ble (xla as).length q.2.1 then (match xrun q.1 ih fuel (0, xloc q.2.1 as, [], w) with
    | none => none
    | some r => match xfin (xrt q.2.2 r.1) r.2.2.1 with
      | none => none
      | some v => some (v, r.2.2.2)) else none)
theorem xcall_s (PT : Nat → Option xT) (fuel d j : Nat) (as : List xV) (w : xW) : xcall PT fuel (d + 1) j as w = match PT j with
  | none => none
  | some q => bif Nat.ble (xla as).length q.2.1 then (match xrun q.1 (xcall PT fuel d) fuel (0, xloc q.2.1 as, [], w) with
    | none => none
    | some r => match xfin (xrt q.2.2 r.1) r.2.2.1 with
      | none => none
      | some v => some (v, r.2.2.2)) else none := rfl
def xretok (cc : ByteArray) (ret : Option FieldType) (pc k : Nat) : Prop :=
  (k = 1 ∧ decode cc pc = .ok (.ireturn, 1) ∧ ret = some .int) ∨ (k = 2 ∧ decode cc pc = .ok (.ireturn, 1) ∧ ret = some .boolean) ∨ (k = 3 ∧ decode cc pc = .ok (.return_, 1) ∧ ret = none) ∨ (k = 4 ∧ decode cc pc = .ok (.lreturn, 1) ∧ ret = some .long)
def xMeth (PX : xPX) (j : Nat) (q : xT) : Prop := ∃ (y : MethodName) (cc : ByteArray) (ret : Option FieldType), PX j = some (y, cc, q.2.1, ret) ∧ plainName y.cls = true ∧ (∀ G, xTree PX G cc y.cls (y.name == "<init>") q.1) ∧ ∀ pc, ¬ xrt q.2.2 pc = 0 → xretok cc ret pc (xrt q.2.2 pc)
def xProg (PX : xPX) (PT : Nat → Option xT) : Prop := ∀ (j : Nat) (q : xT), PT j = some q → xMeth PX j q
theorem xla_len {sz b : Nat} : ∀ {as : List xV} {us : List Value}, xRS sz b as us → (lg_sl us).length = (xla as).length
  | [], us, h => by cases h; rfl
  | v :: as, us, h => by
    obtain ⟨u, us', rfl, hu, h2⟩ := h
    have ih := xla_len h2
    have e : lg_sl (u :: us') = (if u.category = 2 then [.val u, .second] else [.val u]) ++ lg_sl us' := rfl
    rw [e, List.length_append, ih]
    match v, hu with
    | .inl a, hu => obtain ⟨x, rfl, -⟩ := hu; show 1 + _ = (xla as).length + 1; omega
    | .inr (.inl none), hu => cases hu; show 1 + _ = (xla as).length + 1; omega
    | .inr (.inl (some k)), hu => cases hu; show 1 + _ = (xla as).length + 1; omega
    | .inr (.inr 0), hu => cases hu; show 1 + _ = (xla as).length + 1; omega
    | .inr (.inr (k + 1)), hu => obtain ⟨x, rfl, -⟩ := hu; show 2 + _ = (xla as).length + 1 + 1; omega
theorem xla_at {sz b : Nat} : ∀ {as : List xV} {us : List Value} (o : Nat), xRS sz b as us → ∀ (i : Nat) (v : xV), (xla as)[i]? = some (some v) → ∃ u, (o + i, u) ∈ lv_args o us ∧ xRV sz b v u
  | [], us, o, h, i, v, hi => by simp [xla] at hi
  | a :: as, us, o, h, i, v, hi => by
    obtain ⟨u, us', rfl, hu, h2⟩ := h
    have one : x1 a = true → xla (a :: as) = some a :: xla as := by
      intro h1
      match a, h1 with
      | .inl a, _ => rfl
      | .inr (.inl r), _ => rfl
      | .inr (.inr 0), _ => rfl
      | .inr (.inr (k + 1)), h1 => cases h1
    cases h1 : x1 a with
    | true =>
      rw [one h1] at hi
      have hc := xRV1 hu h1
      have e : lv_args o (u :: us') = (o, u) :: lv_args (o + 1) us' := by simp [lv_args, hc]
      rw [e]
      cases i with
      | zero =>
        simp only [List.getElem?_cons_zero, Option.some.injEq] at hi
        subst hi
        exact ⟨u, List.mem_cons_self, hu⟩
      | succ i =>
        simp only [List.getElem?_cons_succ] at hi
        obtain ⟨u2, h3, h4⟩ := xla_at (o + 1) h2 i v hi
        rw [show o + 1 + i = o + (i + 1) by omega] at h3
        exact ⟨u2, List.mem_cons_of_mem _ h3, h4⟩
    | false =>
      match a, h1, hu, hi with
      | .inr (.inr (k9 + 1)), _, hu, hi =>
        obtain ⟨x, rfl, -⟩ := id hu
        have e : lv_args o (.long x :: us') = (o, .long x) :: lv_args (o + 2) us' := rfl
        have e2 : xla (.inr (.inr (k9 + 1)) :: as) = some (.inr (.inr (k9 + 1))) :: none :: xla as := rfl
        rw [e]
        rw [e2] at hi
        cases i with
        | zero =>
          simp only [List.getElem?_cons_zero, Option.some.injEq] at hi
          subst hi
          exact ⟨_, List.mem_cons_self, hu⟩
        | succ i =>
          cases i with
          | zero => simp at hi
          | succ i =>
            simp only [List.getElem?_cons_succ] at hi
            obtain ⟨u2, h3, h4⟩ := xla_at (o + 2) h2 i v hi
            rw [show o + 2 + i = o + (i + 1 + 1) by omega] at h3
            exact ⟨u2, List.mem_cons_of_mem _ h3, h4⟩
theorem xRL_entry {sz b n : Nat} {as : List xV} {us : List Value} (h : xRS sz b as us) (hn : (xla as).length ≤ n) : xRL sz b (xloc n as) ((lg_sl us ++ List.replicate (n - (lg_sl us).length) Slot.unset).toArray) n := by
  refine ⟨?_, lv_args 0 us, lv_entry us (by rw [xla_len h]; exact hn), fun i v hi => ?_⟩
  · unfold xloc
    rw [List.length_append, List.length_replicate]
    omega
  · rw [xget_eq] at hi
    unfold xloc at hi
    by_cases hl : i < (xla as).length
    · rw [List.getElem?_append_left hl] at hi
      obtain ⟨u, h1, h2⟩ := xla_at 0 h i v hi
      rw [Nat.zero_add] at h1
      exact ⟨u, h1, h2⟩
    · rw [List.getElem?_append_right (by omega), List.getElem?_replicate] at hi
      split at hi <;> cases hi
theorem xcall_ok {PX : xPX} {PT : Nat → Option xT} {fuel : Nat} (hP : xProg PX PT) : ∀ d, xCalls PX d (xcall PT fuel d) := by
  intro d
  induction d with
  | zero => intro j as w r w' h; cases h
  | succ d ih =>
    intro j as w r w' h
    rw [xcall_s] at h
    cases hq : PT j with
    | none => simp only [hq] at h; cases h
    | some q =>
      simp only [hq] at h
      cases hb : Nat.ble (xla as).length q.2.1 with
      | false => rw [hb] at h; cases h
      | true =>
        rw [hb] at h
        have hb := xble hb
        cases hr : xrun q.1 (xcall PT fuel d) fuel (0, xloc q.2.1 as, [], w) with
        | none => simp only [hr, cond_true] at h; cases h
        | some r1 =>
          obtain ⟨pc1, L1, S1, w1⟩ := r1
          simp only [hr, cond_true] at h
          cases hfi : xfin (xrt q.2.2 pc1) S1 with
          | none => simp only [hfi] at h; cases h
          | some v =>
            simp only [hfi] at h
            cases h
            obtain ⟨y, cc, ret, hpx, hpl, hTr, hrets⟩ := hP j q hq
            have hrun := fun G => xrun_ok (hTr G) ih fuel 0 _ _ _ _ _ _ _ hr
            refine ⟨(hrun (fun _ _ _ => True)).1, fun qx hqx => ?_⟩
            cases hpx.symm.trans hqx
            intro l D tys sz b
            have hle := (hrun (fun _ _ _ => True)).1
            refine Met.ofW (cc := cc) (maxL := q.2.1) (ret := ret) hpl rfl ?_
            intro p e s m args below meth c s₁ B hml hv
            obtain ⟨us, rfl, hus, hws, hsz, hK, hmap, hxN⟩ := hv
            have hts := atoms_spec (ws := .code y cc q.2.1 ret :: xTB) B.pre
            have hown : s.vm.findClass y.cls = some m.cls := findClass_of_methodNamed B.named
            have hnm : meth.name = y.name := (name_of_methodNamed B.named B.method).1
            have hlocks := B.notSynchronized
            have hret := B.returns
            have k1 := hle.1
            have k2 := hle.2
            rw [lg_entry_eq]
            refine (hrun (fun _ _ _ => True)).2 p l e _ s m us.toArray below meth c _ q.2.1 D tys sz b w.2.1 w.1 ⟨B.exec, B.bytes, hml, hown, fun w hw => hts w (List.mem_cons_of_mem _ hw), hK, hmap, fun hi => by rw [hnm]; simpa using hi, hxN⟩ trivial (Nat.le_refl _) (Nat.le_refl _) (by show w'.2.1 ≤ w.2.1 + (w'.2.1 - w.2.1); omega) (by show w'.1 ≤ w.1 + (w'.1 - w.1); omega) _ [] s.heap [] 0 0 ⟨hws, hsz, va_S.rf, by omega, by omega, hsz⟩ (xRL_entry hus hb) rfl ?_
            intro ls' st' H' locs' cells' slots' hM hL hS
            obtain ⟨hws', hsz', hS', hM3, hM4, hM5⟩ := hM
            obtain rfl : cells' = w'.2.1 - w.2.1 := by omega
            obtain rfl : slots' = w'.1 - w.1 := by omega
            have hfr : ∀ q ∈ locs', (fun a => sz ≤ a) q.base := hS'.2.2
            have hxQ : ∀ (v' : Option Value), xRO sz b r v' → ∀ t : State, t.heap = H' → s.WarmedH t.vm → xQc D tys sz b r w' us.toArray s (.returned v') t := fun v' hv' t ht _ => ⟨v', rfl, hv', by rw [ht]; exact hws', by rw [ht]; exact hsz', hS'.F ht⟩
            have hne : ¬ xrt q.2.2 pc1 = 0 := fun h0 => by rw [h0] at hfi; cases hfi
            have hok := hrets pc1 hne
            generalize xrt q.2.2 pc1 = k at hfi hok
            rcases hok with ⟨rfl, hd, hre⟩ | ⟨rfl, hd, hre⟩ | ⟨rfl, hd, hre⟩ | ⟨rfl, hd, hre⟩
            · match S1, hfi, hS with
              | [.inl a], hfi, hS =>
                cases hfi
                obtain ⟨u, st2, rfl, ⟨x, rfl, hx⟩, rfl⟩ := hS
                exact W.iret B.exec B.bytes (by rw [hret, hre]) (hxQ _ ⟨_, rfl, x, rfl, hx⟩) hfr hd
            · match S1, hfi, hS with
              | [.inl a], hfi, hS =>
                obtain ⟨u, st2, rfl, ⟨x, rfl, hx⟩, rfl⟩ := hS
                cases hbb : (Nat.ble 2147483648 a.1 && Nat.ble a.2 2147483649) with
                | false => simp only [xfin, hbb] at hfi; cases hfi
                | true =>
                  simp only [xfin, hbb, cond_true] at hfi
                  cases hfi
                  simp only [Bool.and_eq_true] at hbb
                  have hnar : narrow .boolean (.int x) = .int x := by
                    rcases xz1 (x := x) (Nat.le_trans (xble hbb.1) hx.1) (Nat.le_trans hx.2 (xble hbb.2)) with rfl | rfl <;> decide +kernel
                  exact W.zret B.exec B.bytes (by rw [hret, hre]) hnar (hxQ _ ⟨_, rfl, x, rfl, hx⟩) hfr hd
            · match S1, hfi, hS with
              | [], hfi, hS =>
                cases hfi
                cases hS
                exact W.vret B.exec B.bytes (by rw [hret, hre]) (hxQ _ rfl) hfr hd
            · match S1, hfi, hS with
              | [.inr (.inr (k9 + 1))], hfi, hS =>
                cases hfi
                obtain ⟨u, st2, rfl, ⟨x, rfl, hx⟩, rfl⟩ := hS
                exact W.lret B.exec B.bytes (by rw [hret, hre]) (hxQ _ ⟨_, rfl, x, rfl, hx⟩) hfr hd
