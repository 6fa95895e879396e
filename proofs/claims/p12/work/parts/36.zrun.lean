section ZR
variable {g : zG} {PX : xPX} {bd : Nat → Nat × Nat} {pre : zPre} {post : zPost} {d : Nat × Nat × Nat} {cc : ByteArray} {own : String} {pc : Nat}
/-- a call of an object's method: the receiver's class -/
def z_invV (g : zG) (bd : Nat → Nat × Nat) (pre : zPre) (post : zPost) (d : Nat × Nat × Nat) (ci j na n : Nat) : zF := fun K L S I B => match zpop na [] S with
  | some (.inr (.inl (some a)) :: as, rest) => (∃ fts, g.2.1 (g.1 a) = .inl (ci, fts)) ∧ zcat rest ≤ 8 ∧ pre d.1 j (.inr (.inl (some a)) :: as) I ∧ B.1 + (bd j).1 ≤ d.2.1 ∧ B.2 + (bd j).2 ≤ d.2.2 ∧ ∀ (r : Option zV) (I' : zI), post j (.inr (.inl (some a)) :: as) I r I' → K n L (zpush r rest) I' (B.1 + (bd j).1, B.2 + (bd j).2)
  | _ => False
theorem zs_invV {index j np ci : Nat} {y : MethodName} {bytes : ByteArray} {maxL : Nat} {ret : Option FieldType} {T : u_T} {M : Nat} (hd : decode cc pc = .ok (.invokevirtual index, 3)) (hq : xCal PX j y bytes maxL ret np) (hcl : vwCl[ci]? = some (y.cls, T, M)) (hw1 : Cond.methodLink own index y ∈ xTB) (hw2 : Cond.instanceMethod y ∈ xTB) (hw3 : Cond.selects y.cls y y ∈ xTB) {mn : Nat} (hxt : xTb own index = (4, np + 1, (mn : Int))) (hxm : xMB mn = some (y, bytes, maxL, ret)) : zSound g PX bd pre post d cc own pc (z_invV g bd pre post d ci j (np + 1) (pc + 3)) := by
  intro K L S I B h hc p l e R s m args below meth c Q nL D tys sz sc TT hT C1 hf hlo kk N ls st H locs μ hM hL hS hB1 hB2 hτ
  unfold z_invV at h
  split at h
  · rename_i a as rest hp
    obtain ⟨S1, rfl, has, h3⟩ := zpop_eq _ _ _ _ _ hp
    rw [List.append_nil] at has
    obtain ⟨⟨fts, hkd⟩, hcat, hpre, hb1, hb2, hK⟩ := h
    obtain ⟨hpx, hcode, hini0, hml0, hdd⟩ := hq
    have hmet := hc j _ I _ hpre hpx l D tys sz μ
    obtain ⟨t1, t2, rfl, hS1, hS2⟩ := zRS_split hS
    obtain ⟨hx0, hb, hml, hown, hts, hKt, hmap, hin, hxN⟩ := C1
    obtain ⟨hws, hz, hS0, hM3⟩ := id hM
    have hcs := zcat_ok hS2
    have hAs : zRS sz N (.inr (.inl (some a)) :: as) t1.reverse := by rw [has]; exact zRS_rev hS1
    obtain ⟨u, us, hus, ⟨hu, haN⟩, hAs'⟩ := id hAs
    subst hu
    have ht1 : t1 = us.reverse ++ [.ref (sz + a)] := by rw [← List.reverse_reverse t1, hus]; simp
    subst ht1
    rw [List.reverse_append, List.reverse_reverse] at hAs
    have hAs : zRS sz N (.inr (.inl (some a)) :: as) (.ref (sz + a) :: us) := hAs
    have hlen : as.length = np := by
      have e := congrArg List.length has
      simp only [List.length_cons, List.length_reverse, h3] at e
      omega
    obtain ⟨hlo1, hlo2, hlo3⟩ := hlo
    obtain ⟨ws, hR, hP, -⟩ := id hws
    obtain ⟨ue, hue, huc⟩ := zcell_at hR haN
    unfold zCell at huc
    rw [hkd] at huc
    obtain ⟨vs, rfl, -, -⟩ := huc
    refine z_back (b := bd j) (P := post j _ I) (a := (Value.ref (sz + a) :: us).toArray) (E := Ex (zk g) _ (.inr (.inl (some a)) :: as) μ) ?_ hM hL hS2 (by omega) (by omega) hK kk (fun r μ' hE => hT _ _ hτ (est hd ⟨_, _, hxt, _, _, rest, r, μ', hp, hxm, hE, rfl⟩))
    exact va_runV (As := us) (rest := t2) (Ts := xTB) (C := y.cls) ⟨hx0, hb, hml, hown, hts⟩ hmet ⟨callB_of np hts (xGI hcode) rfl rfl rfl (hts _ hini0) (hts _ hw1) hdd ⟨by show d.1 + 1 ≤ _; omega, by show 8 + (maxL + 11) + 64 * d.1 ≤ _; omega⟩, hts _ hw2, hts _ hw3⟩ ⟨zPc_blind, va_recv hKt hP hcl hue, zPc_of hAs hws hz hKt hmap hxN hM3.2 hS0⟩ rfl (by rw [zRS_len hAs']; exact hlen) (by obtain ⟨-, lv, g, -⟩ := hL; exact g.1) (by simp) (by show 2 * 0 + _ ≤ 8; omega) hd ⟨by omega, by omega⟩
  · exact h.elim
/-- from P the machine comes to K -/
def zReach (g : zG) (PX : xPX) (bd : Nat → Nat × Nat) (pre : zPre) (post : zPost) (d : Nat × Nat × Nat) (cc : ByteArray) (own : String) (P K : zK) : Prop :=
  zCalls g PX bd pre post d.1 → ∀ (p : Program) (l : Launch) (e : Env) (R : Room) (s : State) (m : MethodId) (args : Array Value) (below : List Frame) (meth : Method) (c : Code) (Q : State → Prop) (nL : Nat) (D : va_G) (tys : List (ClassId × FieldType)) (sz sc : Nat) (TT : eS → Prop), xCl (zk g) cc own TT →
    xCtx p s m args meth c cc own false nL D tys → d.1 + 1 ≤ R.frames → (64 * (d.1 + 1) ≤ R.locals ∧ d.2.1 ≤ R.cells ∧ d.2.2 ≤ R.slots) →
    (∀ (pc' : Nat) (L' : zL) (S' : List zV) (I' : zI) (B' : Nat × Nat), K pc' L' S' I' B' → ∀ (N' : Nat) (ls' : Array Slot) (st' : List Value) (H' : Heap) (locs' : List Loc) (μ' : xM), zMem g D tys sz N' sc s I' μ' H' locs' → zRL sz N' L' ls' nL → zRS sz N' S' st' → B'.1 ≤ R.cells → B'.2 ≤ R.slots → TT (pc', L', S', μ') → W p l e R s m args below meth c H' locs' B'.1 B'.2 Q (F0 m pc' ls' st')) →
    ∀ (pc : Nat) (L : zL) (S : List zV) (I : zI) (B : Nat × Nat), P pc L S I B → ∀ (N : Nat) (ls : Array Slot) (st : List Value) (H : Heap) (locs : List Loc) (μ : xM), zMem g D tys sz N sc s I μ H locs → zRL sz N L ls nL → zRS sz N S st → B.1 ≤ R.cells → B.2 ≤ R.slots → TT (pc, L, S, μ) → W p l e R s m args below meth c H locs B.1 B.2 Q (F0 m pc ls st)
theorem zReach_trans {P P' K : zK} (h1 : zReach g PX bd pre post d cc own P P') (h2 : zReach g PX bd pre post d cc own P' K) : zReach g PX bd pre post d cc own P K :=
  fun hc p l e R s m args below meth c Q nL D tys sz sc TT hT C hf hlo kk => h1 hc p l e R s m args below meth c Q nL D tys sz sc TT hT C hf hlo (h2 hc p l e R s m args below meth c Q nL D tys sz sc TT hT C hf hlo kk)
theorem zReach_weak {P P' K : zK} (hP : ∀ pc L S I B, P pc L S I B → P' pc L S I B) (h : zReach g PX bd pre post d cc own P' K) : zReach g PX bd pre post d cc own P K :=
  fun hc p l e R s m args below meth c Q nL D tys sz sc TT hT C hf hlo kk pc L S I B hp => h hc p l e R s m args below meth c Q nL D tys sz sc TT hT C hf hlo kk pc L S I B (hP pc L S I B hp)
end ZR
