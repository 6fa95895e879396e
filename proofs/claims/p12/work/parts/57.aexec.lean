section A7
variable {g : zG} {T : aT} {Inv : zI → Prop} {fl : Bool × Bool}
theorem a_inv_ok {prot : Nat → Bool} (hext : ∀ I I' : zI, (∀ id, (4096 ≤ id ∨ prot id = true) → I' id = I id) → Inv I → Inv I') {c : aC} {b : Nat × Nat} {d : Nat × Nat × Nat} {na n : Nat} (hcv0 : c.2.2.2.1.1 = false → c.2.2.2.1.2 = false) {I0 : zI} {A : aS} {outs : List (Nat × aS)} (h : a_inv g prot fl c b d na n A = some outs) {ρ : Nat → Int} {L : zL} {S : List zV} {I : zI} {B : Nat × Nat} (h0 : 0 < A.1.length) (hA : aG g T Inv fl I0 ρ A L S I B) {K : zK}
    (hK : ∀ (pc : Nat) (A' : aS), (pc, A') ∈ outs → ∀ (ρ' : Nat → Int) (L' : zL) (S' : List zV) (I' : zI) (B' : Nat × Nat), aAg ρ ρ' A.1.length → A.1.length ≤ A'.1.length → aG g T Inv fl I0 ρ' A' L' S' I' B' → K pc L' S' I' B') :
    ∃ as rest aas arest, zpop na [] S = some (as, rest) ∧ apop na [] A.2.2.2.1 = some (aas, arest) ∧ aSOk g ρ A.1.length aas as ∧ zcat rest ≤ 8 ∧ aPre g Inv c d.1 as I ∧ B.1 + b.1 ≤ d.2.1 ∧ B.2 + b.2 ≤ d.2.2 ∧ ∀ (r : Option zV) (I' : zI), aPost Inv c as I r I' → K n L (zpush r rest) I' (B.1 + b.1, B.2 + b.2) := by
  unfold a_inv at h
  split at h
  · rename_i aas arest hp
    cases hc : Nat.ble (acat arest) 8 && (Nat.ble c.2.2.2.2 d.1 && (aargs g A.1 aas c.1 && (aflds A.1 A.2.2.2.2.1 c.2.1 && (akeys A.2.2.2.2.1 && ((!c.2.2.2.1.1 || fl.1) && ((!c.2.2.2.1.2 || fl.2) && (Nat.ble (A.2.2.2.2.2.1 + b.1) d.2.1 && Nat.ble (A.2.2.2.2.2.2 + b.2) d.2.2))))))) with
    | false => rw [hc] at h; cases h
    | true =>
      rw [hc] at h
      have h : aalts A aas arest (A.2.2.2.2.2.1 + b.1, A.2.2.2.2.2.2 + b.2) n prot (fl.1 && !c.2.2.2.1.1) c.2.2.1 = some outs := h
      simp only [Bool.and_eq_true] at hc
      obtain ⟨c1, c2, c3, c4, c5, c6, c7, c8, c9⟩ := hc
      obtain ⟨as, rest, z1, z2, z3⟩ := apop_ok na (accz := []) hp rfl hA.2.2.2.1
      have hB : B = A.2.2.2.2.2 := hA.2.2.2.2.2.1
      refine ⟨as, rest, aas, arest, z1, hp, z2, by rw [acat_ok z3]; exact xble c1, ⟨xble c2, aargs_ok hA.1 z2 c3, aflds_ok hA.1 hA.2.2.2.2.1 c4, fun hi => ?_⟩, by rw [hB]; exact xble c8, by rw [hB]; exact xble c9, fun r I' hpo => ?_⟩
      · refine hA.2.2.2.2.2.2.1 ?_
        rw [hi] at c6
        simpa using c6
      · obtain ⟨A', ρ', q1, q2, q3, q4⟩ := a_back hext h0 hA c5 (fun hv => by rw [hv] at c7; simpa using c7) hcv0 z2 z3 h hpo
        rw [hB]
        exact hK n A' q1 ρ' _ _ _ _ q2 q3 q4
  · cases h
theorem aPre_mono {c : aC} {d d' : Nat} {as : List zV} {I : zI} (h : d ≤ d') (hp : aPre g Inv c d as I) : aPre g Inv c d' as I := ⟨Nat.le_trans hp.1 h, hp.2⟩
theorem as_inv {prot : Nat → Bool} (hext : ∀ I I' : zI, (∀ id, (4096 ≤ id ∨ prot id = true) → I' id = I id) → Inv I → Inv I') {bd : Nat → Nat × Nat} {pre : zPre} {post : zPost} {c : aC} {d dl : Nat × Nat × Nat} {j na n : Nat} (hd : dl.1 ≤ d.1 ∧ dl.2.1 ≤ d.2.1 ∧ dl.2.2 ≤ d.2.2) (hcv0 : c.2.2.2.1.1 = false → c.2.2.2.1.2 = false) (hpre : ∀ as I, aPre g Inv c d.1 as I → pre d.1 j as I) (hpost : ∀ as I r I', post j as I r I' → aPost Inv c as I r I') : aSnd g T Inv fl (z_inv bd pre post d j na n) (a_inv g prot fl c (bd j) dl na n) := by
  intro I0 A outs h ρ L S I B h0 hA K hK
  obtain ⟨as, rest, aas, arest, h1, -, -, h2, h3, h4, h5, h6⟩ := a_inv_ok hext hcv0 h h0 hA hK
  unfold z_inv
  rw [h1]
  exact ⟨h2, hpre _ _ (aPre_mono hd.1 h3), Nat.le_trans h4 hd.2.1, Nat.le_trans h5 hd.2.2, fun r I' hp => h6 r I' (hpost _ _ _ _ hp)⟩
theorem as_invV {prot : Nat → Bool} (hext : ∀ I I' : zI, (∀ id, (4096 ≤ id ∨ prot id = true) → I' id = I id) → Inv I → Inv I') {bd : Nat → Nat × Nat} {pre : zPre} {post : zPost} {c : aC} {d dl : Nat × Nat × Nat} {ci j na n : Nat} (hd : dl.1 ≤ d.1 ∧ dl.2.1 ≤ d.2.1 ∧ dl.2.2 ≤ d.2.2) (hcv0 : c.2.2.2.1.1 = false → c.2.2.2.1.2 = false) (hpre : ∀ as I, aPre g Inv c d.1 as I → pre d.1 j as I) (hpost : ∀ as I r I', post j as I r I' → aPost Inv c as I r I') : aSnd g T Inv fl (z_invV g bd pre post d ci j na n) (a_invV g prot fl c (bd j) dl ci na n) := by
  intro I0 A outs h ρ L S I B h0 hA K hK
  unfold a_invV at h
  split at h
  · rename_i aas0 ar0 hp0
    cases hr : arecv g ci aas0 with
    | false => rw [hr] at h; cases h
    | true =>
      rw [hr] at h
      obtain ⟨as, rest, aas, arest, h1, h1b, h1c, h2, h3, h4, h5, h6⟩ := a_inv_ok hext hcv0 h h0 hA hK
      cases hp0.symm.trans h1b
      unfold arecv at hr
      split at hr
      · rename_i q as1
        obtain ⟨z, as', rfl, e1, e2⟩ := h1c
        obtain ⟨r, rfl, hr2⟩ := akd_ok e1
        split at hr
        · rename_i c2 fts hkd
          have e3 := Nat.eq_of_beq_eq_true hr
          unfold z_invV
          rw [h1]
          exact ⟨⟨fts, by rw [hr2, hkd, e3]⟩, h2, hpre _ _ (aPre_mono hd.1 h3), Nat.le_trans h4 hd.2.1, Nat.le_trans h5 hd.2.2, fun r I' hp => h6 r I' (hpost _ _ _ _ hp)⟩
        · cases hr
      · cases hr
  · cases h
end A7
/-! ===== BOXES: runs ===== -/
noncomputable def aexs (run : Nat → aS → Option (List (Nat × aS))) (cut : Nat → Bool) (l : List (Nat × aS)) : Option (List (Nat × aS)) := List.rec (some []) (fun o _ ih => match (bif cut o.1 then some [o] else run o.1 o.2) with
  | none => none
  | some l1 => match ih with
    | none => none
    | some l2 => some (l1 ++ l2)) l
noncomputable def aexec (Tr : Nat → Option aF) (cut : Nat → Bool) (fuel : Nat) : Nat → aS → Option (List (Nat × aS)) := Nat.rec (fun _ _ => none) (fun _ ih pc A => match Tr pc with
  | none => some [(pc, A)]
  | some F => match F A with
    | none => none
    | some outs => aexs ih cut outs) fuel
section A8
variable {g : zG} {T : aT} {Inv : zI → Prop} {fl : Bool × Bool} {PX : xPX} {bd : Nat → Nat × Nat} {pre : zPre} {post : zPost} {d : Nat × Nat × Nat} {cc : ByteArray} {own : String}
def zAt (g : zG) (PX : xPX) (bd : Nat → Nat × Nat) (pre : zPre) (post : zPost) (d : Nat × Nat × Nat) (cc : ByteArray) (own : String) (K : zK) (pc : Nat) (L : zL) (S : List zV) (I : zI) (B : Nat × Nat) : Prop := zReach g PX bd pre post d cc own (fun pc' L' S' I' B' => pc' = pc ∧ L' = L ∧ S' = S ∧ I' = I ∧ B' = B) K
theorem zAt_in {K : zK} {pc : Nat} {L : zL} {S : List zV} {I : zI} {B : Nat × Nat} (h : K pc L S I B) : zAt g PX bd pre post d cc own K pc L S I B := by
  intro hc p l e R s m args below meth c Q nL D tys sz sc TT hT C hf hlo kk pc' L' S' I' B' hp
  obtain ⟨rfl, rfl, rfl, rfl, rfl⟩ := hp
  exact kk _ _ _ _ _ h
theorem zAt_step {K K' : zK} {pc : Nat} {L : zL} {S : List zV} {I : zI} {B : Nat × Nat} {f : zF} (hs : zSound g PX bd pre post d cc own pc f) (hf : f K' L S I B) (h : ∀ pc' L' S' I' B', K' pc' L' S' I' B' → zAt g PX bd pre post d cc own K pc' L' S' I' B') : zAt g PX bd pre post d cc own K pc L S I B := by
  intro hc p l e R s m args below meth c Q nL D tys sz sc TT hT C hfr hlo kk pc' L' S' I' B' hp
  obtain ⟨rfl, rfl, rfl, rfl, rfl⟩ := hp
  exact hs K' _ _ _ _ hf hc p l e R s m args below meth c Q nL D tys sz sc TT hT C hfr hlo (fun pc2 L2 S2 I2 B2 h2 => h pc2 L2 S2 I2 B2 h2 hc p l e R s m args below meth c Q nL D tys sz sc TT hT C hfr hlo kk _ _ _ _ _ ⟨rfl, rfl, rfl, rfl, rfl⟩)
theorem zAt_tr {K K' : zK} {pc : Nat} {L : zL} {S : List zV} {I : zI} {B : Nat × Nat} (h1 : zAt g PX bd pre post d cc own K' pc L S I B) (h : ∀ pc' L' S' I' B', K' pc' L' S' I' B' → zAt g PX bd pre post d cc own K pc' L' S' I' B') : zAt g PX bd pre post d cc own K pc L S I B := by
  intro hc p l e R s m args below meth c Q nL D tys sz sc TT hT C hfr hlo kk
  exact h1 hc p l e R s m args below meth c Q nL D tys sz sc TT hT C hfr hlo (fun pc2 L2 S2 I2 B2 h2 => h pc2 L2 S2 I2 B2 h2 hc p l e R s m args below meth c Q nL D tys sz sc TT hT C hfr hlo kk _ _ _ _ _ ⟨rfl, rfl, rfl, rfl, rfl⟩)
theorem zAt_reach {P K : zK} (h : ∀ pc L S I B, P pc L S I B → zAt g PX bd pre post d cc own K pc L S I B) : zReach g PX bd pre post d cc own P K := by
  intro hc p l e R s m args below meth c Q nL D tys sz sc TT hT C hfr hlo kk pc L S I B hp
  exact h pc L S I B hp hc p l e R s m args below meth c Q nL D tys sz sc TT hT C hfr hlo kk _ _ _ _ _ ⟨rfl, rfl, rfl, rfl, rfl⟩
/-- the abstract tree belongs to the code -/
def aTr (g : zG) (T : aT) (Inv : zI → Prop) (fl : Bool × Bool) (PX : xPX) (bd : Nat → Nat × Nat) (pre : zPre) (post : zPost) (d : Nat × Nat × Nat) (cc : ByteArray) (own : String) (Tr : Nat → Option aF) : Prop := ∀ (pc : Nat) (F : aF), Tr pc = some F → ∃ f, zSound g PX bd pre post d cc own pc f ∧ aSnd g T Inv fl f F
def aOut (g : zG) (T : aT) (Inv : zI → Prop) (fl : Bool × Bool) (I0 : zI) (ρ : Nat → Int) (n : Nat) (outs : List (Nat × aS)) : zK := fun pc L S I B => ∃ (A' : aS) (ρ' : Nat → Int), (pc, A') ∈ outs ∧ aAg ρ ρ' n ∧ n ≤ A'.1.length ∧ aG g T Inv fl I0 ρ' A' L S I B
theorem aexs_mem {run : Nat → aS → Option (List (Nat × aS))} {cut : Nat → Bool} : ∀ {l outs : List (Nat × aS)}, aexs run cut l = some outs → ∀ o ∈ l, ∃ l1, (bif cut o.1 then some [o] else run o.1 o.2) = some l1 ∧ ∀ q ∈ l1, q ∈ outs
  | [], outs, h, o, ho => absurd ho List.not_mem_nil
  | o0 :: l, outs, h, o, ho => by
    have h : (match (bif cut o0.1 then some [o0] else run o0.1 o0.2) with
  | none => none
  | some l1 => match aexs run cut l with
    | none => none
    | some l2 => some (l1 ++ l2)) = some outs := h
    split at h
    · cases h
    · rename_i l1 hl1
      split at h
      · cases h
      · rename_i l2 hl2
        cases h
        rcases List.mem_cons.mp ho with rfl | ho
        · exact ⟨l1, hl1, fun q hq => List.mem_append_left _ hq⟩
        · obtain ⟨l3, h3, h4⟩ := aexs_mem hl2 o ho
          exact ⟨l3, h3, fun q hq => List.mem_append_right _ (h4 q hq)⟩
theorem aexec_ok {Tr : Nat → Option aF} {cut : Nat → Bool} (hT : aTr g T Inv fl PX bd pre post d cc own Tr) {I0 : zI} : ∀ (fuel pc : Nat) (A : aS) (outs : List (Nat × aS)), aexec Tr cut fuel pc A = some outs → ∀ (ρ : Nat → Int) (L : zL) (S : List zV) (I : zI) (B : Nat × Nat), 0 < A.1.length → aG g T Inv fl I0 ρ A L S I B → zAt g PX bd pre post d cc own (aOut g T Inv fl I0 ρ A.1.length outs) pc L S I B
  | 0, pc, A, outs, h, ρ, L, S, I, B, h0, hA => by cases h
  | fuel + 1, pc, A, outs, h, ρ, L, S, I, B, h0, hA => by
    have h : (match Tr pc with
  | none => some [(pc, A)]
  | some F => match F A with
    | none => none
    | some outs => aexs (aexec Tr cut fuel) cut outs) = some outs := h
    split at h
    · cases h
      exact zAt_in ⟨A, ρ, List.mem_cons_self, aAg_rf, Nat.le_refl _, hA⟩
    · rename_i F hF
      obtain ⟨f, hs, ha⟩ := hT pc F hF
      split at h
      · cases h
      · rename_i o1 ho1
        refine zAt_step hs (K' := aOut g T Inv fl I0 ρ A.1.length o1) (ha I0 A o1 ho1 ρ L S I B h0 hA _ (fun pc' A' hm ρ' L' S' I' B' g1 g2 g3 => ⟨A', ρ', hm, g1, g2, g3⟩)) ?_
        intro pc' L' S' I' B' hk
        obtain ⟨A', ρ', hm, g1, g2, g3⟩ := hk
        obtain ⟨l1, hl1, hl2⟩ := aexs_mem h (pc', A') hm
        cases hc : cut pc' with
        | true =>
          rw [show cut (pc', A').1 = true from hc] at hl1
          cases hl1
          exact zAt_in ⟨A', ρ', hl2 _ List.mem_cons_self, g1, g2, g3⟩
        | false =>
          rw [show cut (pc', A').1 = false from hc] at hl1
          refine zAt_tr (aexec_ok hT fuel pc' A' l1 hl1 ρ' L' S' I' B' (by omega) g3) ?_
          intro pc2 L2 S2 I2 B2 hk2
          obtain ⟨A2, ρ2, hm2, k1, k2, k3⟩ := hk2
          exact zAt_in ⟨A2, ρ2, hl2 _ hm2, aAg_tr g2 g1 k1, Nat.le_trans g2 k2, k3⟩
end A8
