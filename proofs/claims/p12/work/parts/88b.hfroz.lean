/-! ===== a stretch in which the array of names stands still: its elements are T's ===== -/
noncomputable def gT (T : Nat → Int64) : zG := (zkn, zds, fun kd i v => eOK (zta (ztb kd)) i v.toInt, fun iv v => (zfv iv).1 ≤ v.toInt ∧ v.toInt ≤ (zfv iv).2, fun kd j v => kd = 81 → v = T j ∧ zword 8 v.toInt, zvs)
set_option maxRecDepth 100000 in
theorem zkn_81a : ∀ (k v : Nat), zknT k = some v → v = 81 → k = 81 := (xB_n (xB_n (xB_n (xB_n (xB_n (xB_n (xB_l (fun h => absurd h (by decide))) (xB_n (xB_l (fun h => absurd h (by decide))) (xB_l (fun h => absurd h (by decide))))) (xB_n (xB_n (xB_l (fun h => absurd h (by decide))) (xB_l (fun h => absurd h (by decide)))) (xB_n (xB_l (fun h => absurd h (by decide))) (xB_l (fun h => absurd h (by decide)))))) (xB_n (xB_n (xB_l (fun h => absurd h (by decide))) (xB_n (xB_l (fun h => absurd h (by decide))) (xB_l (fun h => absurd h (by decide))))) (xB_n (xB_n (xB_l (fun h => absurd h (by decide))) (xB_l (fun h => absurd h (by decide)))) (xB_n (xB_l (fun h => absurd h (by decide))) (xB_l (fun h => absurd h (by decide))))))) (xB_n (xB_n (xB_n (xB_l (fun h => absurd h (by decide))) (xB_n (xB_l (fun h => absurd h (by decide))) (xB_l (fun h => absurd h (by decide))))) (xB_n (xB_n (xB_l (fun h => absurd h (by decide))) (xB_l (fun h => absurd h (by decide)))) (xB_n (xB_l (fun h => absurd h (by decide))) (xB_l (fun h => absurd h (by decide)))))) (xB_n (xB_n (xB_n (xB_l (fun h => absurd h (by decide))) (xB_l (fun h => absurd h (by decide)))) (xB_n (xB_l (fun h => absurd h (by decide))) (xB_l (fun h => absurd h (by decide))))) (xB_n (xB_n (xB_l (fun h => absurd h (by decide))) (xB_l (fun h => absurd h (by decide)))) (xB_n (xB_l (fun h => absurd h (by decide))) (xB_l (fun h => absurd h (by decide)))))))) (xB_n (xB_n (xB_n (xB_n (xB_l (fun h => absurd h (by decide))) (xB_n (xB_l (fun h => absurd h (by decide))) (xB_l (fun h => absurd h (by decide))))) (xB_n (xB_n (xB_l (fun h => absurd h (by decide))) (xB_l (fun h => absurd h (by decide)))) (xB_n (xB_l (fun h => absurd h (by decide))) (xB_l (fun h => absurd h (by decide)))))) (xB_n (xB_n (xB_n (xB_l (fun h => absurd h (by decide))) (xB_l (fun h => absurd h (by decide)))) (xB_n (xB_l (fun h => absurd h (by decide))) (xB_l (fun h => absurd h (by decide))))) (xB_n (xB_n (xB_l (fun h => absurd h (by decide))) (xB_l (fun h => absurd h (by decide)))) (xB_n (xB_l (fun h => absurd h (by decide))) (xB_l (fun h => absurd h (by decide))))))) (xB_n (xB_n (xB_n (xB_l (fun h => absurd h (by decide))) (xB_n (xB_l (fun h => absurd h (by decide))) (xB_l (fun h => absurd h (by decide))))) (xB_n (xB_n (xB_l (fun h => absurd h (by decide))) (xB_l (fun h => absurd h (by decide)))) (xB_n (xB_l (fun h => absurd h (by decide))) (xB_l (fun h => absurd h (by decide)))))) (xB_n (xB_n (xB_n (xB_l (fun h => absurd h (by decide))) (xB_l (fun h => absurd h (by decide)))) (xB_n (xB_l (fun h => absurd h (by decide))) (xB_l (fun h => absurd h (by decide))))) (xB_n (xB_n (xB_l (fun h => absurd h (by decide))) (xB_l (fun h => absurd h (by decide)))) (xB_n (xB_l (fun h => absurd h (by decide))) (xB_l (fun h => absurd h (by decide))))))))) (xB_n (xB_n (xB_n (xB_n (xB_n (xB_l (fun h => absurd h (by decide))) (xB_n (xB_l (fun h => absurd h (by decide))) (xB_l (fun h => absurd h (by decide))))) (xB_n (xB_n (xB_l (fun h => absurd h (by decide))) (xB_l (fun h => absurd h (by decide)))) (xB_n (xB_l (fun h => absurd h (by decide))) (xB_l (fun h => absurd h (by decide)))))) (xB_n (xB_n (xB_n (xB_l (fun h => absurd h (by decide))) (xB_l (fun h => absurd h (by decide)))) (xB_n (xB_l (fun h => absurd h (by decide))) (xB_l (fun h => absurd h (by decide))))) (xB_n (xB_n (xB_l (fun h => absurd h (by decide))) (xB_l (fun h => absurd h (by decide)))) (xB_n (xB_l (fun h => absurd h (by decide))) (xB_l (fun h => absurd h (by decide))))))) (xB_n (xB_n (xB_n (xB_l (fun h => absurd h (by decide))) (xB_n (xB_l (fun h => absurd h (by decide))) (xB_l (fun h => absurd h (by decide))))) (xB_n (xB_n (xB_l (fun h => absurd h (by decide))) (xB_l (fun h => absurd h (by decide)))) (xB_n (xB_l (fun h => absurd h (by decide))) (xB_l (fun h => absurd h (by decide)))))) (xB_n (xB_n (xB_n (xB_l (fun _ => rfl)) (xB_l (fun h => absurd h (by decide)))) (xB_n (xB_l (fun h => absurd h (by decide))) (xB_l (fun h => absurd h (by decide))))) (xB_n (xB_n (xB_l (fun h => absurd h (by decide))) (xB_l (fun h => absurd h (by decide)))) (xB_n (xB_l (fun h => absurd h (by decide))) (xB_l (fun h => absurd h (by decide)))))))) (xB_n (xB_n (xB_n (xB_n (xB_l (fun h => absurd h (by decide))) (xB_n (xB_l (fun h => absurd h (by decide))) (xB_l (fun h => absurd h (by decide))))) (xB_n (xB_n (xB_l (fun h => absurd h (by decide))) (xB_l (fun h => absurd h (by decide)))) (xB_n (xB_l (fun h => absurd h (by decide))) (xB_l (fun h => absurd h (by decide)))))) (xB_n (xB_n (xB_n (xB_l (fun h => absurd h (by decide))) (xB_l (fun h => absurd h (by decide)))) (xB_n (xB_l (fun h => absurd h (by decide))) (xB_l (fun h => absurd h (by decide))))) (xB_n (xB_n (xB_l (fun h => absurd h (by decide))) (xB_l (fun h => absurd h (by decide)))) (xB_n (xB_l (fun h => absurd h (by decide))) (xB_l (fun h => absurd h (by decide))))))) (xB_n (xB_n (xB_n (xB_l (fun h => absurd h (by decide))) (xB_n (xB_l (fun h => absurd h (by decide))) (xB_l (fun h => absurd h (by decide))))) (xB_n (xB_n (xB_l (fun h => absurd h (by decide))) (xB_l (fun h => absurd h (by decide)))) (xB_n (xB_l (fun h => absurd h (by decide))) (xB_l (fun h => absurd h (by decide)))))) (xB_n (xB_n (xB_n (xB_l (fun h => absurd h (by decide))) (xB_l (fun h => absurd h (by decide)))) (xB_n (xB_l (fun h => absurd h (by decide))) (xB_l (fun h => absurd h (by decide))))) (xB_n (xB_n (xB_l (fun h => absurd h (by decide))) (xB_l (fun h => absurd h (by decide)))) (xB_n (xB_l (fun h => absurd h (by decide))) (xB_l (fun h => absurd h (by decide))))))))))
theorem zkn_81 {k : Nat} (h : zkn k = 81) : k = 81 := by
  unfold zkn at h
  split at h
  · rename_i v hv
    exact zkn_81a k v hv h
  · omega
theorem zCell_T {T : Nat → Int64} {sz N : Nat} {tys : List (ClassId × FieldType)} {I : zI} {k : Nat} {u : va_E} (hT : ∀ (f : Nat → Int64) (cA : ClassId) (n : Nat), k = 81 → u = .inl (cA, n, .inr (.inl f)) → f = T) (hu : zCell zG0 sz N tys I k u) : zCell (gT T) sz N tys I k u := by
  unfold zCell at hu ⊢
  have e1 : (gT T).2.1 ((gT T).1 k) = zG0.2.1 (zG0.1 k) := rfl
  rw [e1]
  cases hd : zG0.2.1 (zG0.1 k) with
  | inl q =>
    obtain ⟨ci, fts⟩ := q
    rw [hd] at hu
    exact hu
  | inr q =>
    obtain ⟨t, n⟩ := q
    rw [hd] at hu
    obtain ⟨cA, ty, h1, h2, h3⟩ := hu
    refine ⟨cA, ty, h1, h2, ?_⟩
    rcases h3 with h3 | ⟨h3, f, h4, h5⟩ | h3
    · exact Or.inl h3
    · refine Or.inr (Or.inl ⟨h3, f, h4, fun j hj => ?_⟩)
      intro (hk : zkn k = 81)
      have ek := zkn_81 hk
      have ef := hT f cA n ek h4
      have := h5 j hj hk
      exact ⟨by rw [ef], this⟩
    · exact Or.inr (Or.inr h3)
theorem zCell_Z {T : Nat → Int64} {sz N : Nat} {tys : List (ClassId × FieldType)} {I : zI} {k : Nat} {u : va_E} (hu : zCell (gT T) sz N tys I k u) : zCell zG0 sz N tys I k u := by
  unfold zCell at hu ⊢
  have e1 : (gT T).2.1 ((gT T).1 k) = zG0.2.1 (zG0.1 k) := rfl
  rw [e1] at hu
  cases hd : zG0.2.1 (zG0.1 k) with
  | inl q =>
    obtain ⟨ci, fts⟩ := q
    rw [hd] at hu
    exact hu
  | inr q =>
    obtain ⟨t, n⟩ := q
    rw [hd] at hu
    obtain ⟨cA, ty, h1, h2, h3⟩ := hu
    refine ⟨cA, ty, h1, h2, ?_⟩
    rcases h3 with h3 | ⟨h3, f, h4, h5⟩ | h3
    · exact Or.inl h3
    · exact Or.inr (Or.inl ⟨h3, f, h4, fun j hj hk => (h5 j hj hk).2⟩)
    · exact Or.inr (Or.inr h3)
theorem zMem_T {D : va_G} {tys : List (ClassId × FieldType)} {sz N sc : Nat} {s : State} {I : zI} {μ : xM} {H : Heap} {locs : List Loc} (h : zMem zG0 D tys sz N sc s I μ H locs) : ∃ T, zMem (gT T) D tys sz N sc s I μ H locs := by
  obtain ⟨⟨ws, ⟨w1, w2, w3, w4⟩, hP⟩, h2, h3, h4, h5⟩ := h
  obtain ⟨u, hu, -⟩ := w2 81 (by omega)
  have : ∃ T : Nat → Int64, ∀ (f : Nat → Int64) (cA : ClassId) (n : Nat), u = .inl (cA, n, .inr (.inl f)) → f = T := by
    by_cases hq : ∃ (f : Nat → Int64) (cA : ClassId) (n : Nat), u = .inl (cA, n, .inr (.inl f))
    · obtain ⟨f, cA, n, rfl⟩ := hq
      exact ⟨f, fun f' cA' n' e => by cases e; rfl⟩
    · exact ⟨fun _ => 0, fun f cA n e => absurd ⟨f, cA, n, e⟩ hq⟩
  obtain ⟨T, hT⟩ := this
  refine ⟨T, ⟨ws, ⟨w1, fun k hk => ?_, w3, w4⟩, hP⟩, h2, h3, h4, h5⟩
  obtain ⟨u', hu', hc⟩ := w2 k hk
  refine ⟨u', hu', zCell_T (fun f cA n ek e => hT f cA n ?_) hc⟩
  subst ek
  cases hu.symm.trans hu'
  exact e
theorem zMem_Z {T : Nat → Int64} {D : va_G} {tys : List (ClassId × FieldType)} {sz N sc : Nat} {s : State} {I : zI} {μ : xM} {H : Heap} {locs : List Loc} (h : zMem (gT T) D tys sz N sc s I μ H locs) : zMem zG0 D tys sz N sc s I μ H locs := by
  obtain ⟨⟨ws, ⟨w1, w2, w3, w4⟩, hP⟩, h2, h3, h4, h5⟩ := h
  refine ⟨⟨ws, ⟨w1, fun k hk => ?_, w3, w4⟩, hP⟩, h2, h3, h4, h5⟩
  obtain ⟨u', hu', hc⟩ := w2 k hk
  exact ⟨u', hu', zCell_Z hc⟩
def preT : zPre := fun d j as I => (j = 254 ∨ j = 255) ∧ zpre d j as I
theorem preT_of {j d : Nat} {as : List zV} {I : zI} (hj : j = 254 ∨ j = 255) (h : ZC j = none) (hp : hpre d j as I) : preT d j as I := ⟨hj, hpre_of h hp⟩
theorem zAt_T {bd : Nat → Nat × Nat} {post : zPost} {pre pre' : zPre} {d : Nat × Nat × Nat} {cc : ByteArray} {own : String} {K K' : zK} {PX : xPX} {pc : Nat} {L : zL} {S : List zV} {I : zI} {B : Nat × Nat} (hc : ∀ T, zCalls (gT T) PX bd pre' post d.1) (h : ∀ T, zAt (gT T) PX bd pre' post d cc own K' pc L S I B) (h2 : ∀ pc' L' S' I' B', K' pc' L' S' I' B' → zAt zG0 PX bd pre post d cc own K pc' L' S' I' B') : zAt zG0 PX bd pre post d cc own K pc L S I B := by
  intro hc0 p l e R s m args below meth c Q nL D tys sz sc TT hTT C hf hlo kk pc1 L1 S1 I1 B1 h1 N ls st H locs μ hM hL hS hB1 hB2 hτ
  obtain ⟨T, hT⟩ := zMem_T hM
  refine h T (hc T) p l e R s m args below meth c Q nL D tys sz sc TT hTT C hf hlo (fun pc' L' S' I' B' hK N' ls' st' H' locs' μ' hM' hL' hS' hb1 hb2 hτ' => ?_) pc1 L1 S1 I1 B1 h1 N ls st H locs μ hT hL hS hB1 hB2 hτ
  exact h2 pc' L' S' I' B' hK hc0 p l e R s m args below meth c Q nL D tys sz sc TT hTT C hf hlo kk pc' L' S' I' B' ⟨rfl, rfl, rfl, rfl, rfl⟩ N' ls' st' H' locs' μ' (zMem_Z hM') hL' hS' hb1 hb2 hτ'
theorem zInjT {T : Nat → Int64} : zInj (gT T) := zInj0
def zOKT (T : Nat → Int64) (j : Nat) : Prop := ∀ d, zCalls (gT T) PZ zbd preT zpost d → ∀ (as : List zV) (I : zI) (q : xP), hpre (d + 1) j as I → PZ j = some q → zMet (gT T) q (d + 1) (zbd j) as I (hpost j as I)
section HT
variable {T : Nat → Int64} {B' : Nat × Nat} {PX : xPX} {bd : Nat → Nat × Nat} {pre : zPre} {post : zPost} {d : Nat × Nat × Nat} {cc : ByteArray} {own : String} {K : zK} {pc n : Nat} {L L' : zL} {S : List zV} {I : zI} {B : Nat × Nat}
theorem gA {f : zF} (hs : zSound (gT T) PX bd pre post d cc own pc f) (h : f (fun pc' L' S' I' B' => zAt (gT T) PX bd pre post d cc own K pc' L' S' I' B') L S I B) : zAt (gT T) PX bd pre post d cc own K pc L S I B := zAt_step hs h (fun _ _ _ _ _ h => h)
theorem gA_const {v : Int32} {k : Int} (hs : zSound (gT T) PX bd pre post d cc own pc (z_const v n)) (hk : v.toInt = k) (h : ∀ z : Int32, z.toInt = k → zAt (gT T) PX bd pre post d cc own K n L (.inl z :: S) I B) : zAt (gT T) PX bd pre post d cc own K pc L S I B := gA hs (h v hk)
theorem gA_lconst {v : Int64} (hs : zSound (gT T) PX bd pre post d cc own pc (z_lconst v n)) (h : zAt (gT T) PX bd pre post d cc own K n L (.inr (.inr v) :: S) I B) : zAt (gT T) PX bd pre post d cc own K pc L S I B := gA hs h
theorem gA_iload {i : Nat} {x : Int32} (hs : zSound (gT T) PX bd pre post d cc own pc (z_iload i n)) (hl : L[i]? = some (some (.inl x))) (h : zAt (gT T) PX bd pre post d cc own K n L (.inl x :: S) I B) : zAt (gT T) PX bd pre post d cc own K pc L S I B := gA hs (by unfold z_iload; rw [hl]; exact h)
theorem gA_aload {i : Nat} {r : Option Nat} (hs : zSound (gT T) PX bd pre post d cc own pc (z_aload i n)) (hl : L[i]? = some (some (.inr (.inl r)))) (h : zAt (gT T) PX bd pre post d cc own K n L (.inr (.inl r) :: S) I B) : zAt (gT T) PX bd pre post d cc own K pc L S I B := gA hs (by unfold z_aload; rw [hl]; exact h)
theorem gA_lload {i : Nat} {x : Int64} (hs : zSound (gT T) PX bd pre post d cc own pc (z_lload i n)) (hl : L[i]? = some (some (.inr (.inr x)))) (h : zAt (gT T) PX bd pre post d cc own K n L (.inr (.inr x) :: S) I B) : zAt (gT T) PX bd pre post d cc own K pc L S I B := gA hs (by unfold z_lload; rw [hl]; exact h)
theorem gA_istore {i : Nat} {x : Int32} (hs : zSound (gT T) PX bd pre post d cc own pc (z_istore i n)) (hc : zcan L i) (hL : L.set i (some (.inl x)) = L') (h : zAt (gT T) PX bd pre post d cc own K n L' S I B) : zAt (gT T) PX bd pre post d cc own K pc L (.inl x :: S) I B := gA hs ⟨hc, by rw [hL]; exact h⟩
theorem gA_lstore {i : Nat} {x : Int64} (hs : zSound (gT T) PX bd pre post d cc own pc (z_lstore i n)) (hc : i + 1 < L.length ∧ zlg L[i - 1]? = false) (hL : (L.set i (some (.inr (.inr x)))).set (i + 1) none = L') (h : zAt (gT T) PX bd pre post d cc own K n L' S I B) : zAt (gT T) PX bd pre post d cc own K pc L (.inr (.inr x) :: S) I B := gA hs ⟨hc, by rw [hL]; exact h⟩
theorem gA_iinc {i : Nat} {x k : Int32} {c : Int} (hs : zSound (gT T) PX bd pre post d cc own pc (z_iinc i k n)) (hk : k.toInt = c) (hl : L[i]? = some (some (.inl x))) (hc : zcan L i) (h1 : -2147483648 ≤ x.toInt + c) (h2 : x.toInt + c ≤ 2147483647) (h : ∀ z : Int32, z.toInt = x.toInt + c → zAt (gT T) PX bd pre post d cc own K n (L.set i (some (.inl z))) S I B) : zAt (gT T) PX bd pre post d cc own K pc L S I B := gA hs (by unfold z_iinc; rw [hl]; exact ⟨hc, h _ (by rw [an_add (by omega) (by omega), hk])⟩)
theorem gA_add {x y : Int32} (hs : zSound (gT T) PX bd pre post d cc own pc (z_bin (fun x y => x + y) n)) (h1 : -2147483648 ≤ x.toInt + y.toInt) (h2 : x.toInt + y.toInt ≤ 2147483647) (h : ∀ z : Int32, z.toInt = x.toInt + y.toInt → zAt (gT T) PX bd pre post d cc own K n L (.inl z :: S) I B) : zAt (gT T) PX bd pre post d cc own K pc L (.inl y :: .inl x :: S) I B := gA hs (h _ (an_add h1 h2))
theorem gA_sub {x y : Int32} (hs : zSound (gT T) PX bd pre post d cc own pc (z_bin (fun x y => x - y) n)) (h1 : -2147483648 ≤ x.toInt - y.toInt) (h2 : x.toInt - y.toInt ≤ 2147483647) (h : ∀ z : Int32, z.toInt = x.toInt - y.toInt → zAt (gT T) PX bd pre post d cc own K n L (.inl z :: S) I B) : zAt (gT T) PX bd pre post d cc own K pc L (.inl y :: .inl x :: S) I B := gA hs (h _ (an_sub h1 h2))
theorem gA_goto (hs : zSound (gT T) PX bd pre post d cc own pc (z_goto n)) (h : zAt (gT T) PX bd pre post d cc own K n L S I B) : zAt (gT T) PX bd pre post d cc own K pc L S I B := gA hs h
theorem gA_if {op t : Nat} {x : Int32} (hs : zSound (gT T) PX bd pre post d cc own pc (z_if op t n)) (h1 : xcmpI op x.toInt 0 → zAt (gT T) PX bd pre post d cc own K t L S I B) (h2 : ¬ xcmpI op x.toInt 0 → zAt (gT T) PX bd pre post d cc own K n L S I B) : zAt (gT T) PX bd pre post d cc own K pc L (.inl x :: S) I B := gA hs ⟨fun h => h1 ((xcmpI_eq op x 0).mp h), fun h => h2 (fun q => h ((xcmpI_eq op x 0).mpr q))⟩
theorem gA_icmp {op t : Nat} {x y : Int32} (hs : zSound (gT T) PX bd pre post d cc own pc (z_icmp op t n)) (h1 : xcmpI op x.toInt y.toInt → zAt (gT T) PX bd pre post d cc own K t L S I B) (h2 : ¬ xcmpI op x.toInt y.toInt → zAt (gT T) PX bd pre post d cc own K n L S I B) : zAt (gT T) PX bd pre post d cc own K pc L (.inl y :: .inl x :: S) I B := gA hs ⟨fun h => h1 ((xcmpI_eq op x y).mp h), fun h => h2 (fun q => h ((xcmpI_eq op x y).mpr q))⟩
theorem gA_getf0 {ci j a id : Nat} (hs : zSound (gT T) PX bd pre post d cc own pc (z_getf (gT T) ci j n)) (hk : ∃ fts, (gT T).2.1 ((gT T).1 a) = .inl (ci, fts) ∧ fts[j]? = some (0, id)) (h : ∀ z : Int32, z.toInt = zf I id → zAt (gT T) PX bd pre post d cc own K n L (.inl z :: S) I B) : zAt (gT T) PX bd pre post d cc own K pc L (.inr (.inl (some a)) :: S) I B := by
  obtain ⟨fts, e1, e2⟩ := hk
  refine gA hs ?_
  unfold z_getf
  simp only [e1, e2]
  exact ⟨trivial, zget0 (h _ rfl)⟩
theorem gA_getf2 {ci j a r : Nat} (hs : zSound (gT T) PX bd pre post d cc own pc (z_getf (gT T) ci j n)) (hk : ∃ fts, (gT T).2.1 ((gT T).1 a) = .inl (ci, fts) ∧ fts[j]? = some (2, r)) (h : zAt (gT T) PX bd pre post d cc own K n L (.inr (.inl (some r)) :: S) I B) : zAt (gT T) PX bd pre post d cc own K pc L (.inr (.inl (some a)) :: S) I B := by
  obtain ⟨fts, e1, e2⟩ := hk
  refine gA hs ?_
  unfold z_getf
  simp only [e1, e2]
  exact ⟨trivial, zget2 h⟩
theorem gA_puti0 {ci j a id kd : Nat} {v : Int32} (hs : zSound (gT T) PX bd pre post d cc own pc (z_puti (gT T) ci j kd n)) (hk : ∃ fts, (gT T).2.1 ((gT T).1 a) = .inl (ci, fts) ∧ fts[j]? = some (0, id)) (hb : kd = 1 → 0 ≤ v.toInt ∧ v.toInt ≤ 1) (h : zAt (gT T) PX bd pre post d cc own K n L S (zupd I id v) B) : zAt (gT T) PX bd pre post d cc own K pc L (.inl v :: .inr (.inl (some a)) :: S) I B := by
  obtain ⟨fts, e1, e2⟩ := hk
  refine gA hs ?_
  unfold z_puti
  simp only [e1, e2]
  exact ⟨trivial, zput0 (fun q => i01 (hb q).1 (hb q).2) h⟩
theorem gA_iald {a kd len : Nat} {i : Int32} (hs : zSound (gT T) PX bd pre post d cc own pc (z_iald (gT T) n)) (hk : (gT T).1 a = kd ∧ (gT T).2.1 kd = .inr (0, len) ∧ zvs kd = true) (h0 : 0 ≤ i.toInt) (h1 : i.toInt < (len : Int)) (h : ∀ z : Int32, z.toInt = zv I kd i.toInt → zAt (gT T) PX bd pre post d cc own K n L (.inl z :: S) I B) : zAt (gT T) PX bd pre post d cc own K pc L (.inl i :: .inr (.inl (some a)) :: S) I B := by
  obtain ⟨e1, e2, e3⟩ := hk
  refine gA hs ?_
  unfold z_iald
  simp only [e1, e2]
  refine ⟨trivial, (ix h0 h1).1, fun v hv => h v ?_⟩
  rcases hv with ⟨-, rfl⟩ | ⟨h2, -⟩
  · rfl
  · rw [show (gT T).2.2.2.2.2 kd = zvs kd from rfl, e3] at h2; cases h2
theorem gA_iast {a kd len : Nat} {i v : Int32} (hs : zSound (gT T) PX bd pre post d cc own pc (z_iast (gT T) n)) (hk : (gT T).1 a = kd ∧ (gT T).2.1 kd = .inr (0, len) ∧ zvs kd = true) (h0 : 0 ≤ i.toInt) (h1 : i.toInt < (len : Int)) (h : zAt (gT T) PX bd pre post d cc own K n L S (zupd I (zid kd i.toInt.toNat) v) B) : zAt (gT T) PX bd pre post d cc own K pc L (.inl v :: .inl i :: .inr (.inl (some a)) :: S) I B := by
  obtain ⟨e1, e2, e3⟩ := hk
  refine gA hs ?_
  unfold z_iast
  simp only [e1, e2]
  refine ⟨trivial, (ix h0 h1).1, Or.inl e3, ?_⟩
  unfold zst
  rw [if_pos (show (gT T).2.2.2.2.2 kd = true from e3)]
  exact h
theorem gA_lald {a kd len : Nat} {i : Int32} (hs : zSound (gT T) PX bd pre post d cc own pc (z_lald (gT T) n)) (hk : (gT T).1 a = kd ∧ (gT T).2.1 kd = .inr (3, len)) (h0 : 0 ≤ i.toInt) (h1 : i.toInt < (len : Int)) (h : ∀ z : Int64, (gT T).2.2.2.2.1 kd i.toInt.toNat z → zAt (gT T) PX bd pre post d cc own K n L (.inr (.inr z) :: S) I B) : zAt (gT T) PX bd pre post d cc own K pc L (.inl i :: .inr (.inl (some a)) :: S) I B := by
  obtain ⟨e1, e2⟩ := hk
  refine gA hs ?_
  unfold z_lald
  simp only [e1, e2]
  exact ⟨trivial, (ix h0 h1).1, fun v hv => h v hv⟩
theorem gA_inv {j na : Nat} {as rest : List zV} (hs : zSound (gT T) PX bd pre post d cc own pc (z_inv bd pre post d j na n)) (hp : zpop na [] S = some (as, rest)) (hcat : zcat rest ≤ 8) (hpre : pre d.1 j as I) (hb : B.1 + (bd j).1 ≤ d.2.1 ∧ B.2 + (bd j).2 ≤ d.2.2) (h : ∀ (r : Option zV) (I' : zI), post j as I r I' → zAt (gT T) PX bd pre post d cc own K n L (zpush r rest) I' (B.1 + (bd j).1, B.2 + (bd j).2)) : zAt (gT T) PX bd pre post d cc own K pc L S I B := by
  refine gA hs ?_
  unfold z_inv
  rw [hp]
  exact ⟨hcat, hpre, hb.1, hb.2, h⟩
theorem gA_call {j na : Nat} {as rest : List zV} (hs : zSound (gT T) PX bd pre post d cc own pc (z_inv bd pre post d j na n)) (hp : zpop na [] S = some (as, rest)) (hcat : zcat rest ≤ 8) (hB : (B.1 + (bd j).1, B.2 + (bd j).2) = B') (hb : B'.1 ≤ d.2.1 ∧ B'.2 ≤ d.2.2) (hpre : pre d.1 j as I) (h : ∀ (r : Option zV) (I' : zI), post j as I r I' → zAt (gT T) PX bd pre post d cc own K n L (zpush r rest) I' B') : zAt (gT T) PX bd pre post d cc own K pc L S I B := by
  subst hB
  exact gA_inv hs hp hcat hpre hb h
theorem gA_ireturn {ret : Option FieldType} {b : Nat × Nat} {P : Option zV → zI → Prop} {x : Int32} (hd : ret = some .int ∧ decode cc pc = .ok (.ireturn, 1)) (hB : B.1 ≤ b.1 ∧ B.2 ≤ b.2) (h : P (some (.inl x)) I) : zAt (gT T) PX bd pre post d cc own (zRet cc ret b P) pc L [.inl x] I B := zAt_in ⟨hB, Or.inl ⟨hd.1, hd.2, x, rfl, h⟩⟩
theorem gmet {d : Nat} {b : Nat × Nat} {y : MethodName} {maxL : Nat} {ret : Option FieldType} {as : List zV} {P : Option zV → zI → Prop} (hpl : plainName y.cls = true) (hn : (zla as).length ≤ maxL) (hc : zCalls (gT T) PX bd pre post d) (hL : zloc maxL as = L) (h : zAt (gT T) PX bd pre post (d, b.1, b.2) cc y.cls (zRet cc ret b P) 0 L [] I (0, 0)) : zMet (gT T) (y, cc, maxL, ret) (d + 1) b as I P := by
  refine zmet_ok hpl hn (zAt_reach ?_) hc
  intro pc L' S' I' B' hE
  obtain ⟨rfl, rfl, rfl, rfl, rfl⟩ := hE
  rw [hL]
  exact h
end HT
set_option maxRecDepth 10000 in
set_option maxHeartbeats 4000000 in
theorem hT_254 {T : Nat → Int64} : zOKT T 254 := by
  intro d hc as I q h hq
  have h : hpr_254 (d + 1) as I := h
  obtain ⟨hd, x, rfl, hpre⟩ := h
  cases (show some _ = some q from hq)
  obtain ⟨c0, hc0, hzw⟩ := hpre
  have loop : ∀ (n : Nat) (nn : Int32) (v : Int64) (k : Nat) (hk : zwx k v.toInt) (hn0 : 0 ≤ nn.toInt) (hnk : nn.toInt + (k : Int) = (c0 : Int)), (8 - nn.toInt).toNat = n → zAt (gT T) PZ zbd preT zpost (d, (zbd 254).1, (zbd 254).2) prog_14_method_28_code "CapitalCaseModel" (zRet prog_14_method_28_code (some .int) (zbd 254) (hpost 254 [.inr (.inr x)] I)) 4 [some (.inr (.inr x)), none, some (.inl nn), some (.inr (.inr v)), none] [] I (0, 0) := by
    intro n
    induction n using Nat.strongRecOn with
    | ind n ih =>
      intro nn v k hk hn0 hnk hn
      have hv0 := zwx_nn hk
      refine gA_lload (zs_lload_n em222_4) rfl ?_
      refine gA_lconst (zs_lconst (v := 0) em222_5 (by decide +kernel)) ?_
      refine gA (zs_lcmp em222_6) ?_
      show zAt _ _ _ _ _ _ _ _ _ _ _ (.inl (lg_cmp (v) ((0 : Int64))) :: _) _ _
      generalize hz6 : lg_cmp (v) ((0 : Int64)) = z6
      have hcm := lgc0 (v := v) hv0.1
      rw [hz6] at hcm
      refine gA_if (zs_ifle em222_7 (t := 22) (by decide)) (fun (c7 : z6.toInt ≤ 0) => ?_) (fun (c7 : ¬ z6.toInt ≤ 0) => ?_)
      · refine gA_iload (zs_iload_n em222_22) rfl ?_
        refine gA_ireturn ⟨rfl, em222_23⟩ ⟨Nat.le_refl _, Nat.le_refl _⟩ ?_
        intro x' he
        cases he
        exact ⟨_, rfl, rfl, c0, hc0, hzw, by omega⟩
      · refine gA_iinc (c := 1) (zs_iinc (k := 1) em222_10 (by decide +kernel)) (by decide +kernel) rfl ⟨Nat.le_of_ble_eq_true rfl, rfl⟩ (by omega) (by omega) (fun z10 hz10 => ?_)
        show zAt _ _ _ _ _ _ _ _ _ _ [some (.inr (.inr x)), none, some (.inl z10), some (.inr (.inr v)), none] _ _ _
        refine gA_lload (zs_lload_n em222_13) rfl ?_
        refine gA_lconst (zs_ldc2 (v := 27) em222_14 wd_1273 ((congrFun xo_12 172).trans (by decide +kernel))) ?_
        refine gA (zs_ldiv em222_17) ⟨by decide, ?_⟩
        show zAt _ _ _ _ _ _ _ _ _ _ _ (.inr (.inr (v / (27 : Int64))) :: _) _ _
        refine gA_lstore (L' := [some (.inr (.inr x)), none, some (.inl z10), some (.inr (.inr (v / (27 : Int64)))), none]) (zs_lstore_n em222_18) ⟨Nat.le_of_ble_eq_true rfl, rfl⟩ rfl ?_
        refine gA_goto (zs_goto em222_19 (t := 4) (by decide)) ?_
        obtain ⟨k', rfl⟩ : ∃ k', k = k' + 1 := ⟨k - 1, by omega⟩
        exact ih _ (by omega) z10 _ k' (by rw [al_div (by omega)]; exact (zwx_dm hk).1) (by omega) (by omega) rfl
  refine gmet (L := [some (.inr (.inr x)), none, none, none, none]) (by decide) (Nat.le_of_ble_eq_true rfl) hc rfl ?_
  refine gA_const (k := 0) (zs_iconst (v := 0) em222_0 (by decide +kernel)) (by decide +kernel) (fun z0 hz0 => ?_)
  refine gA_istore (L' := [some (.inr (.inr x)), none, some (.inl z0), none, none]) (zs_istore_n em222_1) ⟨Nat.le_of_ble_eq_true rfl, rfl⟩ rfl ?_
  refine gA_lload (zs_lload_n em222_2) rfl ?_
  refine gA_lstore (L' := [some (.inr (.inr x)), none, some (.inl z0), some (.inr (.inr x)), none]) (zs_lstore_n em222_3) ⟨Nat.le_of_ble_eq_true rfl, rfl⟩ rfl ?_
  exact loop _ z0 _ c0 hzw (by omega) (by omega) rfl
set_option maxRecDepth 10000 in
set_option maxHeartbeats 4000000 in
theorem hT_255 {T : Nat → Int64} : zOKT T 255 := by
  intro d hc as I q h hq
  have h : hpr_255 (d + 1) as I := h
  obtain ⟨hd, x, a, rfl, hpre⟩ := h
  cases (show some _ = some q from hq)
  obtain ⟨c0, hc0, hzw, ha0, hac⟩ := hpre
  have loop : ∀ (n : Nat) (v : Int64) (k : Int32) (m : Nat) (hm : zwx m v.toInt) (hkm : (m : Int) = k.toInt + 1) (hka : a.toInt ≤ k.toInt) (hk8 : k.toInt ≤ 8), (k.toInt - a.toInt).toNat = n → zAt (gT T) PZ zbd preT zpost (d, (zbd 255).1, (zbd 255).2) prog_14_method_29_code "CapitalCaseModel" (zRet prog_14_method_29_code (some .int) (zbd 255) (hpost 255 [.inr (.inr x), .inl a] I)) 10 [some (.inr (.inr x)), none, some (.inl a), some (.inr (.inr v)), none, some (.inl k)] [] I (0, 0) := by
    intro n
    induction n using Nat.strongRecOn with
    | ind n ih =>
      intro v k m hm hkm hka hk8 hn
      have hv0 := zwx_nn hm
      refine gA_iload (zs_iload em223_10) rfl ?_
      refine gA_iload (zs_iload_n em223_12) rfl ?_
      refine gA_icmp (zs_icmple em223_13 (t := 28) (by decide)) (fun (c13 : k.toInt ≤ a.toInt) => ?_) (fun (c13 : ¬ k.toInt ≤ a.toInt) => ?_)
      · refine gA_lload (zs_lload_n em223_28) rfl ?_
        refine gA_lconst (zs_ldc2 (v := 27) em223_29 wd_1273 ((congrFun xo_12 172).trans (by decide +kernel))) ?_
        refine gA (zs_lrem em223_32) ⟨by decide, ?_⟩
        show zAt _ _ _ _ _ _ _ _ _ _ _ (.inr (.inr (v - v / (27 : Int64) * (27 : Int64))) :: _) _ _
        refine gA (zs_l2i em223_33) ?_
        show zAt _ _ _ _ _ _ _ _ _ _ _ (.inl ((v - v / (27 : Int64) * (27 : Int64))).toInt32 :: _) _ _
        generalize hz33 : ((v - v / (27 : Int64) * (27 : Int64))).toInt32 = z33
        obtain ⟨m', rfl⟩ : ∃ m', m = m' + 1 := ⟨m - 1, by omega⟩
        have hdm := zwx_dm hm
        have hre := al_rem (x := v) hv0.1
        have hl2 := al_l2i (x := v - v / 27 * 27) (by omega) (by omega)
        rw [hz33] at hl2
        refine gA_const (k := 1) (zs_iconst (v := 1) em223_34 (by decide +kernel)) (by decide +kernel) (fun z34 hz34 => ?_)
        refine gA_sub (zs_isub em223_35) (by omega) (by omega) (fun z35 hz35 => ?_)
        refine gA_ireturn ⟨rfl, em223_36⟩ ⟨Nat.le_refl _, Nat.le_refl _⟩ ?_
        intro x' a' he
        cases he
        exact ⟨_, rfl, rfl, by omega, by omega⟩
      · refine gA_lload (zs_lload_n em223_16) rfl ?_
        refine gA_lconst (zs_ldc2 (v := 27) em223_17 wd_1273 ((congrFun xo_12 172).trans (by decide +kernel))) ?_
        refine gA (zs_ldiv em223_20) ⟨by decide, ?_⟩
        show zAt _ _ _ _ _ _ _ _ _ _ _ (.inr (.inr (v / (27 : Int64))) :: _) _ _
        refine gA_lstore (L' := [some (.inr (.inr x)), none, some (.inl a), some (.inr (.inr (v / (27 : Int64)))), none, some (.inl k)]) (zs_lstore_n em223_21) ⟨Nat.le_of_ble_eq_true rfl, rfl⟩ rfl ?_
        refine gA_iinc (c := (-1)) (zs_iinc (k := (-1)) em223_22 (by decide +kernel)) (by decide +kernel) rfl ⟨Nat.le_of_ble_eq_true rfl, rfl⟩ (by omega) (by omega) (fun z22 hz22 => ?_)
        show zAt _ _ _ _ _ _ _ _ _ _ [some (.inr (.inr x)), none, some (.inl a), some (.inr (.inr (v / (27 : Int64)))), none, some (.inl z22)] _ _ _
        refine gA_goto (zs_goto em223_25 (t := 10) (by decide)) ?_
        obtain ⟨m', rfl⟩ : ∃ m', m = m' + 1 := ⟨m - 1, by omega⟩
        exact ih _ (by omega) _ z22 m' (by rw [al_div (by omega)]; exact (zwx_dm hm).1) (by omega) (by omega) (by omega) rfl
  refine gmet (L := [some (.inr (.inr x)), none, some (.inl a), none, none, none]) (by decide) (Nat.le_of_ble_eq_true rfl) hc rfl ?_
  refine gA_lload (zs_lload_n em223_0) rfl ?_
  refine gA_lstore (L' := [some (.inr (.inr x)), none, some (.inl a), some (.inr (.inr x)), none, none]) (zs_lstore_n em223_1) ⟨Nat.le_of_ble_eq_true rfl, rfl⟩ rfl ?_
  refine gA_lload (zs_lload_n em223_2) rfl ?_
  refine gA_call (as := [.inr (.inr x)]) (rest := []) (B' := (0, 0)) (zs_invS em223_3 zl_254 wd_1571 wd_1572 ((congrFun xo_12 280).trans rfl) xm_222) rfl (Nat.le_of_ble_eq_true rfl) rfl ⟨Nat.zero_le _, Nat.zero_le _⟩ (preT_of (by decide) rfl (show hpr_254 d [.inr (.inr x)] I from ⟨by show 1 ≤ d; omega, x, rfl, ⟨c0, hc0, hzw⟩⟩)) (fun r3 I3 hp3 => ?_)
  replace hp3 : hpo_254 _ _ _ _ := hpost_of rfl hp3
  replace hp3 := hp3 x rfl
  obtain ⟨y3, rfl, rfl, c1, hc1, hw1, hy3⟩ := hp3
  have hcc := zwx_uq hzw hw1
  refine gA_const (k := 1) (zs_iconst (v := 1) em223_6 (by decide +kernel)) (by decide +kernel) (fun z6 hz6 => ?_)
  refine gA_sub (zs_isub em223_7) (by omega) (by omega) (fun z7 hz7 => ?_)
  refine gA_istore (L' := [some (.inr (.inr x)), none, some (.inl a), some (.inr (.inr x)), none, some (.inl z7)]) (zs_istore em223_8) ⟨Nat.le_of_ble_eq_true rfl, rfl⟩ rfl ?_
  exact loop _ _ z7 c1 hw1 (by omega) (by omega) (by omega) rfl
theorem callsT (T : Nat → Int64) : ∀ d, zCalls (gT T) PZ zbd preT zpost d
  | 0 => fun j as I q hp hq => by
    obtain ⟨rfl | rfl, hp⟩ := hp
    · have hp : hpr_254 0 as I := hp
      exact absurd hp.1 (by decide)
    · have hp : hpr_255 0 as I := hp
      exact absurd hp.1 (by decide)
  | d + 1 => fun j as I q hp hq => by
    obtain ⟨rfl | rfl, hp⟩ := hp
    · exact hT_254 d (callsT T d) as I q hp hq
    · exact hT_255 d (callsT T d) as I q hp hq
