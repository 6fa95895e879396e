theorem zpop_eq : ∀ (k : Nat) (acc S as rest : List zV), zpop k acc S = some (as, rest) → ∃ S1, S = S1 ++ rest ∧ as = S1.reverse ++ acc ∧ S1.length = k
  | 0, acc, S, as, rest, h => by cases h; exact ⟨[], rfl, rfl, rfl⟩
  | k + 1, acc, [], as, rest, h => by cases h
  | k + 1, acc, v :: S, as, rest, h => by
    obtain ⟨S1, rfl, rfl, h3⟩ := zpop_eq k (v :: acc) S as rest h
    exact ⟨v :: S1, rfl, by simp, by simp [h3]⟩
def zcat (S : List zV) : Nat := match S with
  | [] => 0
  | .inr (.inr _) :: S => zcat S + 2
  | _ :: S => zcat S + 1
theorem zcat_ok {sz N : Nat} : ∀ {S : List zV} {st : List Value}, zRS sz N S st → (st.map fun v => v.category).sum = zcat S
  | [], st, h => by cases h; rfl
  | v :: S, st, h => by
    obtain ⟨u, st', rfl, hu, h2⟩ := h
    have ih := zcat_ok h2
    simp only [List.map_cons, List.sum_cons]
    rw [ih]
    match v, hu with
    | .inl a, hu => cases hu; show 1 + zcat S = zcat S + 1; omega
    | .inr (.inl none), hu => cases hu; show 1 + zcat S = zcat S + 1; omega
    | .inr (.inl (some k)), hu => obtain ⟨rfl, -⟩ := hu; show 1 + zcat S = zcat S + 1; omega
    | .inr (.inr _), hu => cases hu; show 2 + zcat S = zcat S + 2; omega
/-- a call: the callee's pre; behind it its post -/
def z_inv (bd : Nat → Nat × Nat) (pre : zPre) (post : zPost) (d : Nat × Nat × Nat) (j na n : Nat) : zF := fun K L S I B => match zpop na [] S with
  | some (as, rest) => zcat rest ≤ 8 ∧ pre d.1 j as I ∧ B.1 + (bd j).1 ≤ d.2.1 ∧ B.2 + (bd j).2 ≤ d.2.2 ∧ ∀ (r : Option zV) (I' : zI), post j as I r I' → K n L (zpush r rest) I' (B.1 + (bd j).1, B.2 + (bd j).2)
  | none => False
section ZC
variable {g : zG} {PX : xPX} {bd : Nat → Nat × Nat} {pre : zPre} {post : zPost} {d : Nat × Nat × Nat} {cc : ByteArray} {own : String} {pc : Nat}
theorem zPc_blind {D : va_G} {tys : List (ClassId × FieldType)} {sz : Nat} {as : List zV} {I : zI} {μ : xM} : FrameBlind (zPc g D tys sz as I μ) := by
  intro a U g1 mk h
  obtain ⟨N, us, h1, h2, h3, h4, h5, h6, h7, h8⟩ := h
  exact ⟨N, us, h1, h2, h3, h4, va_K.moved (u := U) (U := U.calling g1 mk a) (Vm.Alike.refl U.vm) h5, h6, xN_same rfl h7, zStr_same rfl rfl h8⟩
theorem zPc_of {D : va_G} {tys : List (ClassId × FieldType)} {sz N : Nat} {as : List zV} {us : List Value} {I : zI} {μ : xM} {s : State} {H : Heap} (h2 : zRS sz N as us) (h3 : ∃ ws : va_W, zW g sz N tys I ws ∧ va_P D vwCl ws H ∧ zXs sz μ ws) (h4 : H.size = sz + N) (hK : va_K D vwCl tys s) (h6 : tys.map Prod.snd = xTys) (h7 : xN s) {locs : List Loc} (h8 : zStr sz s) (hS : va_S (fun q => sz ≤ q) s.heap H locs) : ∀ U : State, U.heap = H → s.WarmedH U.vm → zPc g D tys sz as I μ us.toArray U :=
  fun U hU hW => ⟨N, us, rfl, h2, by rw [hU]; exact h3, by rw [hU]; exact h4, va_K.moved hW.alike hK, h6, xN_warm hW h7, zStr_mv hW (by rw [hU]; exact hS) h8⟩
theorem zRL_mono {sz N N' nL : Nat} (h : N ≤ N') {L : zL} {ls : Array Slot} (hL : zRL sz N L ls nL) : zRL sz N' L ls nL := by
  obtain ⟨h1, lv, h2, h3⟩ := hL
  refine ⟨h1, lv, h2, fun i v hi => ?_⟩
  obtain ⟨u, h4, h5⟩ := h3 i v hi
  exact ⟨u, h4, zRV_mono h h5⟩
theorem z_back {p : Program} {l : Launch} {e : Env} {R : Room} {s : State} {m : MethodId} {args : Array Value} {below : List Frame} {meth : Method} {c : Code} {H : Heap} {locs : List Loc} {B b : Nat × Nat} {Q : State → Prop} {D : va_G} {tys : List (ClassId × FieldType)} {sz sc N nL : Nat} {P : Option zV → zI → Prop} {I : zI} {ls : Array Slot} {st0 rest : List Value} {L : zL} {S : List zV} {a : Array Value} {K : zK} {E : Option zV → xM → Prop} {μ : xM} {TT : eS → Prop}
    (hr : va_Run p l e R s m args below meth c H locs B.1 B.2 b.1 b.2 (F0 m pc ls st0) rest (zQc g D tys sz P E a) (fun q => sz ≤ q)) (hM : zMem g D tys sz N sc s I μ H locs) (hL : zRL sz N L ls nL) (hS : zRS sz N S rest) (hb1 : B.1 + b.1 ≤ R.cells) (hb2 : B.2 + b.2 ≤ R.slots)
    (hK : ∀ (r : Option zV) (I' : zI), P r I' → K (pc + 3) L (zpush r S) I' (B.1 + b.1, B.2 + b.2))
    (kk : ∀ (pc' : Nat) (L' : zL) (S' : List zV) (I' : zI) (B' : Nat × Nat), K pc' L' S' I' B' → ∀ (N' : Nat) (ls' : Array Slot) (st' : List Value) (H' : Heap) (locs' : List Loc) (μ' : xM), zMem g D tys sz N' sc s I' μ' H' locs' → zRL sz N' L' ls' nL → zRS sz N' S' st' → B'.1 ≤ R.cells → B'.2 ≤ R.slots → TT (pc', L', S', μ') → W p l e R s m args below meth c H' locs' B'.1 B'.2 Q (F0 m pc' ls' st')) (hTE : ∀ (r : Option zV) (μ' : xM), E r μ' → TT (pc + 3, L, zpush r S, μ')) : W p l e R s m args below meth c H locs B.1 B.2 Q (F0 m pc ls st0) := by
  intro T hT X
  obtain ⟨v, st₀, t, T', L1, h0, X', hL1, e1, e2, ⟨N', v2, r, I', μ', hN, hv2, ⟨hP, hE⟩, hro, hw1, hsz, hF⟩, go⟩ := hr T hT X
  cases hv2
  obtain ⟨-, g1, g2, g3⟩ := hM
  have hNN : N ≤ N' := by rw [h0] at hN; omega
  have hM' : zMem g D tys sz N' sc s I' μ' T'.heap (locs ++ L1) := by
    refine ⟨by rw [e1]; exact hw1, by rw [e1]; exact hsz, ⟨?_, fun q q1 q2 => ?_, fun q hq => ?_⟩, g3⟩
    · have := hF.1
      rw [h0] at this
      rw [e1]
      exact Nat.le_trans g2.1 this
    · rw [e1, hF.2 q (by rw [h0]; exact Nat.lt_of_lt_of_le q1 g2.1) q2, h0]
      exact g2.2.1 q q1 q2
    · rcases List.mem_append.mp hq with h | h
      · exact g2.2.2 q h
      · exact hL1 q h
  have hS' : zRS sz N' (zpush r S) (v.toList ++ rest) := by
    cases r with
    | none => cases hro; exact zRS_mono hNN hS
    | some a1 =>
      obtain ⟨u, rfl, hu⟩ := hro
      exact ⟨u, rest, rfl, hu, zRS_mono hNN hS⟩
  obtain ⟨t2, a1, b1⟩ := kk _ _ _ _ _ (hK r I' hP) N' ls _ _ _ _ hM' (zRL_mono hNN hL) hS' hb1 hb2 (hTE r μ' hE) T' rfl X'
  exact ⟨t2, go t2 a1, b1⟩
theorem z_inv_eq {j na n : Nat} {K : zK} {L : zL} {S : List zV} {I : zI} {B : Nat × Nat} (h : z_inv bd pre post d j na n K L S I B) : ∃ as rest, zpop na [] S = some (as, rest) ∧ S = as.reverse ++ rest ∧ as.length = na ∧ zcat rest ≤ 8 ∧ pre d.1 j as I ∧ B.1 + (bd j).1 ≤ d.2.1 ∧ B.2 + (bd j).2 ≤ d.2.2 ∧ ∀ (r : Option zV) (I' : zI), post j as I r I' → K n L (zpush r rest) I' (B.1 + (bd j).1, B.2 + (bd j).2) := by
  unfold z_inv at h
  split at h
  · rename_i as rest hp
    obtain ⟨S1, rfl, rfl, h3⟩ := zpop_eq _ _ _ _ _ hp
    exact ⟨_, rest, hp, by simp, by simp [h3], h⟩
  · exact h.elim
theorem zs_invS {index j np : Nat} {y : MethodName} {bytes : ByteArray} {maxL : Nat} {ret : Option FieldType} (hd : decode cc pc = .ok (.invokestatic index, 3)) (hq : xCal PX j y bytes maxL ret np) (hw1 : Cond.methodLink own index y ∈ xTB) (hw2 : Cond.static y ∈ xTB) {mn : Nat} (hxt : xTb own index = (4, np, (mn : Int))) (hxm : xMB mn = some (y, bytes, maxL, ret)) : zSound g PX bd pre post d cc own pc (z_inv bd pre post d j np (pc + 3)) := by
  intro K L S I B h hc p l e R s m args below meth c Q nL D tys sz sc TT hT C1 hf hlo kk N ls st H locs μ hM hL hS hB1 hB2 hτ
  obtain ⟨as, rest, hpop, rfl, hlen, hcat, hpre, hb1, hb2, hK⟩ := z_inv_eq h
  obtain ⟨hpx, hcode, hini0, hml0, hdd⟩ := hq
  have hmet := hc j as I _ hpre hpx l D tys sz μ
  obtain ⟨t1, t2, rfl, hS1, hS2⟩ := zRS_split hS
  obtain ⟨hx0, hb, hml, hown, hts, hKt, hmap, hin, hxN⟩ := C1
  obtain ⟨hws, hz, hS0, hM3⟩ := id hM
  have hcs := zcat_ok hS2
  have hAs : zRS sz N as t1.reverse := by
    have := zRS_rev hS1
    rwa [List.reverse_reverse] at this
  obtain ⟨hlo1, hlo2, hlo3⟩ := hlo
  refine z_back (b := bd j) (P := post j as I) (a := t1.reverse.toArray) (E := Ex (zk g) _ as μ) ?_ hM hL hS2 (by omega) (by omega) hK kk (fun r μ' hE => hT _ _ hτ (est hd (Or.inl ⟨_, _, hxt, _, as, rest, r, μ', hpop, hxm, hE, rfl⟩)))
  exact va_runS (As := t1.reverse) (rest := t2) (Ts := xTB) ⟨hx0, hb, hml, hown, hts⟩ hmet ⟨callB_of np hts (xGI hcode) rfl rfl rfl (hts _ hini0) (hts _ hw1) hdd ⟨by show d.1 + 1 ≤ _; omega, by show 8 + (maxL + 11) + 64 * d.1 ≤ _; omega⟩, hts _ hw2⟩ ⟨zPc_blind, zPc_of hAs hws hz hKt hmap hxN hM3.2 hS0⟩ rfl (by rw [zRS_len hAs]; exact hlen) (by obtain ⟨-, lv, g, -⟩ := hL; exact g.1) (by rw [List.reverse_reverse]) (by show 2 * 0 + _ ≤ 8; omega) hd ⟨by omega, by omega⟩
end ZC
