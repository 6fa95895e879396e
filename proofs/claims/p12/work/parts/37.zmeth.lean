theorem zla_len {sz N : Nat} : ∀ {as : List zV} {us : List Value}, zRS sz N as us → (lg_sl us).length = (zla as).length
  | [], us, h => by cases h; rfl
  | v :: as, us, h => by
    obtain ⟨u, us', rfl, hu, h2⟩ := h
    have ih := zla_len h2
    have e : lg_sl (u :: us') = (if u.category = 2 then [.val u, .second] else [.val u]) ++ lg_sl us' := rfl
    rw [e, List.length_append, ih]
    match v, hu with
    | .inl a, hu => cases hu; show 1 + _ = (zla as).length + 1; omega
    | .inr (.inl none), hu => cases hu; show 1 + _ = (zla as).length + 1; omega
    | .inr (.inl (some k)), hu => obtain ⟨rfl, -⟩ := hu; show 1 + _ = (zla as).length + 1; omega
    | .inr (.inr _), hu => cases hu; show 2 + _ = (zla as).length + 1 + 1; omega
theorem zla_at {sz N : Nat} : ∀ {as : List zV} {us : List Value} (o : Nat), zRS sz N as us → ∀ (i : Nat) (v : zV), (zla as)[i]? = some (some v) → ∃ u, (o + i, u) ∈ lv_args o us ∧ zRV sz N v u
  | [], us, o, h, i, v, hi => by simp [zla] at hi
  | a :: as, us, o, h, i, v, hi => by
    obtain ⟨u, us', rfl, hu, h2⟩ := h
    have one : z1 a = true → zla (a :: as) = some a :: zla as := by
      intro h1
      match a, h1 with
      | .inl a, _ => rfl
      | .inr (.inl r), _ => rfl
    cases h1 : z1 a with
    | true =>
      rw [one h1] at hi
      have hc := zRV1 hu h1
      have e : lv_args o (u :: us') = (o, u) :: lv_args (o + 1) us' := by simp [lv_args, hc]
      rw [e]
      cases i with
      | zero =>
        simp only [List.getElem?_cons_zero, Option.some.injEq] at hi
        subst hi
        exact ⟨u, List.mem_cons_self, hu⟩
      | succ i =>
        simp only [List.getElem?_cons_succ] at hi
        obtain ⟨u2, h3, h4⟩ := zla_at (o + 1) h2 i v hi
        rw [show o + 1 + i = o + (i + 1) by omega] at h3
        exact ⟨u2, List.mem_cons_of_mem _ h3, h4⟩
    | false =>
      match a, h1, hu, hi with
      | .inr (.inr q), _, hu, hi =>
        cases id hu
        have e : lv_args o (.long q :: us') = (o, .long q) :: lv_args (o + 2) us' := rfl
        have e2 : zla (.inr (.inr q) :: as) = some (.inr (.inr q)) :: none :: zla as := rfl
        rw [e]
        rw [e2] at hi
        cases i with
        | zero =>
          simp only [List.getElem?_cons_zero, Option.some.injEq] at hi
          subst hi
          exact ⟨_, List.mem_cons_self, hu⟩
        | succ i =>
          cases i with
          | zero => simp at hi
          | succ i =>
            simp only [List.getElem?_cons_succ] at hi
            obtain ⟨u2, h3, h4⟩ := zla_at (o + 2) h2 i v hi
            rw [show o + 2 + i = o + (i + 1 + 1) by omega] at h3
            exact ⟨u2, List.mem_cons_of_mem _ h3, h4⟩
theorem zRL_entry {sz N n : Nat} {as : List zV} {us : List Value} (h : zRS sz N as us) (hn : (zla as).length ≤ n) : zRL sz N (zloc n as) ((lg_sl us ++ List.replicate (n - (lg_sl us).length) Slot.unset).toArray) n := by
  refine ⟨?_, lv_args 0 us, lv_entry us (by rw [zla_len h]; exact hn), fun i v hi => ?_⟩
  · unfold zloc
    rw [List.length_append, List.length_replicate]
    omega
  · unfold zloc at hi
    by_cases hl : i < (zla as).length
    · rw [List.getElem?_append_left hl] at hi
      obtain ⟨u, h1, h2⟩ := zla_at 0 h i v hi
      rw [Nat.zero_add] at h1
      exact ⟨u, h1, h2⟩
    · rw [List.getElem?_append_right (by omega), List.getElem?_replicate] at hi
      split at hi <;> cases hi
/-- at a return, with the post -/
def zRet (cc : ByteArray) (ret : Option FieldType) (b : Nat × Nat) (P : Option zV → zI → Prop) : zK := fun pc _ S I B => (B.1 ≤ b.1 ∧ B.2 ≤ b.2) ∧
  ((ret = some .int ∧ decode cc pc = .ok (.ireturn, 1) ∧ ∃ x : Int32, S = [.inl x] ∧ P (some (.inl x)) I) ∨ (ret = some .boolean ∧ decode cc pc = .ok (.ireturn, 1) ∧ ∃ x : Int32, (x = 0 ∨ x = 1) ∧ S = [.inl x] ∧ P (some (.inl x)) I) ∨
   (ret = none ∧ decode cc pc = .ok (.return_, 1) ∧ S = [] ∧ P none I) ∨ (ret = some .long ∧ decode cc pc = .ok (.lreturn, 1) ∧ ∃ x : Int64, S = [.inr (.inr x)] ∧ P (some (.inr (.inr x))) I))
def zEntry (n : Nat) (as : List zV) (I : zI) : zK := fun pc L S I' B => pc = 0 ∧ L = zloc n as ∧ S = [] ∧ I' = I ∧ B = (0, 0)
/-- a method's contract out of its walk -/
theorem zmet_ok {g : zG} {PX : xPX} {bd : Nat → Nat × Nat} {pre : zPre} {post : zPost} {d : Nat} {b : Nat × Nat} {y : MethodName} {cc : ByteArray} {maxL : Nat} {ret : Option FieldType} {as : List zV} {I : zI} {P : Option zV → zI → Prop} (hpl : plainName y.cls = true) (hn : (zla as).length ≤ maxL) (hv : zReach g PX bd pre post (d, b.1, b.2) cc y.cls (zEntry maxL as I) (zRet cc ret b P)) (hc : zCalls g PX bd pre post d) : zMet g (y, cc, maxL, ret) (d + 1) b as I P := by
  intro l D tys sz μ
  refine Met.ofW (cc := cc) (maxL := maxL) (ret := ret) hpl rfl ?_
  intro p e s m args below meth c s₁ B hml hpc
  obtain ⟨N, us, rfl, hus, hws, hsz, hK, hmap, hxN, hst⟩ := hpc
  have hts := atoms_spec (ws := .code y cc maxL ret :: xTB) B.pre
  have hown : s.vm.findClass y.cls = some m.cls := findClass_of_methodNamed B.named
  have hlocks := B.notSynchronized
  have hret := B.returns
  rw [lg_entry_eq]
  refine hv hc p l e _ s m us.toArray below meth c _ maxL D tys sz N (fun b => ∃ n, eN (zk g) (Ex (zk g)) cc y.cls n (0, zloc maxL as, [], μ) b) (fun a b ⟨n, h1⟩ h2 => ⟨n + 1, eN_snoc h1 h2⟩) ⟨B.exec, B.bytes, hml, hown, fun w hw => hts w (List.mem_cons_of_mem _ hw), hK, hmap, fun h => (by cases h), hxN⟩ (Nat.le_refl _) ⟨Nat.le_refl _, Nat.le_refl _, Nat.le_refl _⟩ ?_ 0 (zloc maxL as) [] I (0, 0) ⟨rfl, rfl, rfl, rfl, rfl⟩ N _ [] s.heap [] μ ⟨hws, hsz, va_S.rf, hsz, hst⟩ (zRL_entry hus hn) rfl (Nat.zero_le _) (Nat.zero_le _) ⟨0, rfl⟩
  intro pc' L' S' I' B' hK' N' ls' st' H' locs' μ' hM hL hS hB1 hB2 hτ
  obtain ⟨nn, hnn⟩ := hτ
  obtain ⟨hws', hsz', hS', hM3⟩ := hM
  obtain ⟨⟨hb1, hb2⟩, hcase⟩ := hK'
  have hfr : ∀ q ∈ locs', (fun a => sz ≤ a) q.base := hS'.2.2
  have hxQ : ∀ (v' : Option Value) (r : Option zV), zRO sz N' r v' → P r I' → xRt cc pc' S' r → ∀ t : State, t.heap = H' → s.WarmedH t.vm → zQc g D tys sz P (Ex (zk g) (y, cc, maxL, ret) as μ) us.toArray s (.returned v') t := fun v' r hv' hP hr t ht _ => ⟨N', v', r, I', μ', by rw [← hsz']; exact hS'.1, rfl, ⟨hP, Ex_in ⟨nn, pc', L', S', hnn, hr⟩⟩, hv', by rw [ht]; exact hws', by rw [ht]; exact hsz', hS'.F ht⟩
  refine W.widen (k := b.1) (n := b.2) hb1 hb2 ?_
  rcases hcase with ⟨rfl, hd, x, rfl, hP⟩ | ⟨rfl, hd, x, hx, rfl, hP⟩ | ⟨rfl, hd, rfl, hP⟩ | ⟨rfl, hd, x, rfl, hP⟩
  · obtain ⟨u, st2, rfl, rfl, rfl⟩ := hS
    exact W.iret B.exec B.bytes hret (hxQ _ (some (.inl x)) ⟨_, rfl, rfl⟩ hP (Or.inl ⟨hd, x, rfl, rfl⟩)) hfr hd
  · obtain ⟨u, st2, rfl, rfl, rfl⟩ := hS
    have hnar : narrow .boolean (.int x) = .int x := by rcases hx with rfl | rfl <;> decide +kernel
    exact W.zret B.exec B.bytes hret hnar (hxQ _ (some (.inl x)) ⟨_, rfl, rfl⟩ hP (Or.inl ⟨hd, x, rfl, rfl⟩)) hfr hd
  · cases hS
    exact W.vret B.exec B.bytes hret (hxQ none none rfl hP (Or.inr (Or.inl ⟨hd, rfl, rfl⟩))) hfr hd
  · obtain ⟨u, st2, rfl, rfl, rfl⟩ := hS
    exact W.lret B.exec B.bytes hret (hxQ _ (some (.inr (.inr x))) ⟨_, rfl, rfl⟩ hP (Or.inr (Or.inr ⟨hd, x, rfl, rfl⟩))) hfr hd
