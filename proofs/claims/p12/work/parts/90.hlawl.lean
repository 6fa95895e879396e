/-! ===== told laws: what holds at each place ===== -/
theorem zf_nF {I I' : zI} (h : nF I I') {f : Nat} (h1 : f ≠ 12) (h2 : f ≠ 13) : zf I' f = zf I f := by unfold zf; rw [h.1 f h1 h2]
theorem nF_vs {I I' : zI} (h : nF I I') : zVs I' = zVs I := by
  funext kd i
  exact h.1 _ (by unfold zid; omega) (by unfold zid; omega)
theorem zv_vs {I I' : zI} (h : zVs I' = zVs I) (kd : Nat) (i : Int) : zv I' kd i = zv I kd i := congrArg (fun V : Nat → Nat → Int32 => (V kd i.toNat).toInt) h
theorem zv_nF {I I' : zI} (h : nF I I') (kd : Nat) (i : Int) : zv I' kd i = zv I kd i := zv_vs (nF_vs h) kd i
theorem nF_inv {I I' : zI} (h : nF I I') (hI : zInv I) : zInv I' := by
  refine zext I I' (fun id hid => h.1 id ?_ ?_) hI
  · intro e; subst e; rcases hid with hid | hid
    · omega
    · cases hid
  · intro e; subst e; rcases hid with hid | hid
    · omega
    · cases hid
theorem nF_mk {I : zI} {a b : Int32} (h12 : zf I 12 ≤ a.toInt) (h12b : a.toInt ≤ 400) (h13 : 0 ≤ b.toInt) (hn : ¬ zf I 13 = 0 → ¬ b.toInt = 0) (hz : b.toInt = 0 → zf I 13 = 0 ∧ a.toInt = zf I 12 + 1) : nF I (zupd (zupd I 12 a) 13 b) := by
  have e12 : zf (zupd (zupd I 12 a) 13 b) 12 = a.toInt := by rw [zf_ne (by decide), zf_same]
  have e13 : zf (zupd (zupd I 12 a) 13 b) 13 = b.toInt := zf_same
  exact ⟨fun id p q => (zupd_fr q).trans (zupd_fr p), by omega, by omega, by omega, by omega⟩
theorem nF_13 {I : zI} {b : Int32} (h12 : zf I 12 ≤ 400) (h13 : 0 ≤ b.toInt) (hz : ¬ b.toInt = 0) : nF I (zupd I 13 b) := by
  have e12 : zf (zupd I 13 b) 12 = zf I 12 := zf_ne (by decide)
  have e13 : zf (zupd I 13 b) 13 = b.toInt := zf_same
  exact ⟨fun id p q => zupd_fr q, by omega, by omega, by omega, by omega⟩
theorem nF_12 {I : zI} {a : Int32} (h12b : a.toInt ≤ 400) (h13 : 0 ≤ zf I 13) (hz : a.toInt = zf I 12 + 1) : nF I (zupd I 12 a) := by
  have e12 : zf (zupd I 12 a) 12 = a.toInt := zf_same
  have e13 : zf (zupd I 12 a) 13 = zf I 13 := zf_ne (by decide)
  exact ⟨fun id p q => zupd_fr p, by omega, by omega, by omega, by omega⟩
theorem must_q {as : List zV} {I I' : zI} {r : Option zV} (h12 : zf I 12 ≤ 400) (h : aPost zInv zc_196 as I r I') : r = none ∧ nF I I' ∧ zInv I' := by
  rcases zq_196 h with ⟨v12, v13, rfl, rfl, e1, l1, u1, e2, l2, u2, hI⟩ | ⟨v13, rfl, rfl, e, l, u, hI⟩ | ⟨v13, rfl, rfl, l, u, hI⟩
  · exact ⟨rfl, nF_mk (by omega) (by omega) (by omega) (by omega) (by omega), hI⟩
  · exact ⟨rfl, nF_13 h12 (by omega) (by omega), hI⟩
  · exact ⟨rfl, nF_13 h12 (by omega) (by omega), hI⟩
theorem goes_q {as : List zV} {I I' : zI} {r : Option zV} (h13 : 0 ≤ zf I 13) (h12 : zf I 12 ≤ 400) (h : aPost zInv zc_151 as I r I') : r = none ∧ nF I I' := by
  rcases zq_151 h with ⟨v12, v13, rfl, rfl, e1, l1, u1, e2, l2, u2⟩ | ⟨v12, v13, rfl, rfl, e1, l1, u1, l2, u2⟩ | ⟨v12, rfl, rfl, e1, l1, u1⟩
  · exact ⟨rfl, nF_mk (by omega) (by omega) (by omega) (by omega) (by omega)⟩
  · exact ⟨rfl, nF_mk (by omega) (by omega) (by omega) (by omega) (by omega)⟩
  · exact ⟨rfl, nF_12 (by omega) h13 (by omega)⟩
theorem fail_q {as : List zV} {I I' : zI} {r : Option zV} (h12 : zf I 12 ≤ 400) (h : aPost zInv zc_140 as I r I') : r = none ∧ nF I I' ∧ ¬ zf I' 13 = 0 := by
  rcases zq_140 h with ⟨v13, rfl, rfl, e, l, u⟩ | ⟨v13, rfl, rfl, l, u⟩
  · exact ⟨rfl, nF_13 h12 (by omega) (by omega), by rw [zf_same]; omega⟩
  · exact ⟨rfl, nF_13 h12 (by omega) (by omega), by rw [zf_same]; omega⟩
theorem bnd_q {as : List zV} {I I' : zI} {r : Option zV} (h12 : zf I 12 ≤ 400) (h : aPost zInv zc_131 as I r I') : ∃ x : Int32, r = some (.inl x) ∧ nF I I' ∧ zInv I' := by
  rcases zq_131 h with ⟨x, v12, v13, rfl, -, -, rfl, e1, l1, u1, e2, l2, u2, hI⟩ | ⟨x, v13, rfl, -, -, rfl, e, l, u, hI⟩ | ⟨x, v13, rfl, -, -, rfl, l, u, hI⟩
  · exact ⟨x, rfl, nF_mk (by omega) (by omega) (by omega) (by omega) (by omega), hI⟩
  · exact ⟨x, rfl, nF_13 h12 (by omega) (by omega), hI⟩
  · exact ⟨x, rfl, nF_13 h12 (by omega) (by omega), hI⟩
theorem eE_of {I : zI} (hI : zInv I) : eE I := ⟨fun i hi => ⟨eall rfl (hI.1 84 i 0 2 rfl rfl hi), eall rfl (hI.1 86 i 0 2 rfl rfl hi)⟩, fun i hi => eall rfl (hI.1 96 i 2 260 rfl rfl hi)⟩
theorem eE_k {I I' : zI} (h : ∀ kd i, i < 4096 → (kd = 84 ∨ kd = 86 ∨ kd = 96) → I' (zid kd i) = I (zid kd i)) (hE : eE I) : eE I' := by
  refine ⟨fun i hi => ?_, fun i hi => ?_⟩
  · rw [h 84 i (by omega) (by omega), h 86 i (by omega) (by omega)]
    exact hE.1 i hi
  · rw [h 96 i (by omega) (by omega)]
    exact hE.2 i hi
theorem sFr_rf {I : zI} : sFr I I := ⟨fun _ _ _ => rfl, fun _ _ _ _ _ _ => rfl, fun _ _ => ⟨rfl, rfl⟩, fun _ _ _ _ _ _ => rfl, fun _ _ _ => ⟨rfl, rfl⟩⟩
theorem sFr_22 {I I' : zI} (h : sFr I I') {f : Nat} (hf : f < 4096) (h2 : f < 12 ∨ 19 < f) : zf I' f = zf I f := by unfold zf; rw [h.1 f hf h2]
theorem sFr_tr {I J I' : zI} (h1 : sFr I J) (h2 : sFr J I') : sFr I I' := by
  have e := sFr_22 h1 (f := 22) (by decide) (by decide)
  obtain ⟨a1, a2, a3, a4, a5⟩ := h1
  obtain ⟨b1, b2, b3, b4, b5⟩ := h2
  rw [e] at b3 b4 b5
  exact ⟨fun id h q => (b1 id h q).trans (a1 id h q), fun kd i h p q r => (b2 kd i h p q r).trans (a2 kd i h p q r), fun k hk => ⟨(b3 k hk).1.trans (a3 k hk).1, (b3 k hk).2.trans (a3 k hk).2⟩, fun b p q kd r s => (b4 b p q kd r s).trans (a4 b p q kd r s), fun c p q => ⟨(b5 c p q).1.trans (a5 c p q).1, (b5 c p q).2.trans (a5 c p q).2⟩⟩
theorem sFr_n {I I' : zI} (h : nF I I') : sFr I I' := ⟨fun id _ q => h.1 id (by omega) (by omega), fun kd i _ _ _ _ => h.1 _ (by unfold zid; omega) (by unfold zid; omega), fun k _ => ⟨h.1 _ (by unfold zid; omega) (by unfold zid; omega), h.1 _ (by unfold zid; omega) (by unfold zid; omega)⟩, fun b _ _ kd _ _ => h.1 _ (by unfold zid; omega) (by unfold zid; omega), fun c _ _ => ⟨h.1 _ (by unfold zid; omega) (by unfold zid; omega), h.1 _ (by unfold zid; omega) (by unfold zid; omega)⟩⟩
theorem sFr_inv {I I' : zI} (hI : zInv I) (h : sFr I I') (hE : eE I') : zInv I' := zInv_side hI (h.1 22 (by decide) (by decide)) h.2.1 h.2.2.1 h.2.2.2.1 h.2.2.2.2 hE
theorem sFr_e {I I' : zI} (h : eFr I I') (h23 : zf I 23 = 1 - zf I 22) (h22 : 0 ≤ zf I 22 ∧ zf I 22 ≤ 1) (hc : (420 * zf I 23 ≤ zf I 17 ∧ zf I' 17 ≤ 420 * zf I 23 + 420) ∨ zf I' 17 = zf I 17) : sFr I I' := by
  obtain ⟨a1, a2, a3, a4, -⟩ := h
  refine ⟨fun id hl q => a1 id hl (by omega) (by omega) (by omega) (by omega) (by omega), fun kd i hi _ _ q => a2 kd i hi (by omega) (by omega) (by omega), fun k hk => ⟨a2 94 _ (by omega) (by decide) (by decide) (by decide), a2 95 _ (by omega) (by decide) (by decide) (by decide)⟩, fun b p q kd r s => a2 kd b (by omega) (by omega) (by omega) (by omega), fun c p q => a3 c (by omega) ?_⟩
  rcases (show zf I 22 = 0 ∨ zf I 22 = 1 by omega) with e | e <;> omega
theorem zpr_cg {V V' : Nat → Nat → Int32} {h cd : Int} {a b : Int32} (h0 : 0 ≤ h) (hb : b.toInt ≤ cd) (hC : ∀ i : Nat, (i : Int) < cd → V' 101 i = V 101 i ∧ V' 102 i = V 102 i) (hp : zpr V h a b) : zpr V' h a b :=
  ⟨hp.1, hp.2.1, hp.2.2.1, hp.2.2.2.1, zpx_cg (fun i hi => hC _ (by have h1 := hp.1; have h2 := hp.2.1; omega)) hp.2.2.2.2⟩
theorem bG_cg {V V' : Nat → Nat → Int32} {s lo hi cd cd' : Int} (hs : 0 ≤ s) (hc : cd ≤ cd') (hB : ∀ b : Nat, lo ≤ (b : Int) → (b : Int) < hi → ∀ kd, 96 ≤ kd → kd ≤ 100 → V' kd b = V kd b) (hC : ∀ i : Nat, (i : Int) < cd → V' 101 i = V 101 i ∧ V' 102 i = V 102 i) (h : bG V s lo hi cd) : bG V' s lo hi cd' := by
  intro b b1 b2
  obtain ⟨⟨a1, a2, a3⟩, a4⟩ := h b b1 b2
  have e := hB b b1 b2
  have h9 := a3.2.1
  refine ⟨⟨a1, ?_, ?_⟩, ?_⟩
  · rw [e 96 (by decide) (by decide), e 97 (by decide) (by decide), e 98 (by decide) (by decide), e 99 (by decide) (by decide)]
    intro hn
    obtain ⟨p1, p2⟩ := a2 hn
    have h8 := p2.2.1
    exact ⟨zpr_cg (by omega) (by omega) hC p1, zpr_cg (by omega) (by omega) hC p2⟩
  · rw [e 99 (by decide) (by decide), e 100 (by decide) (by decide)]
    exact zpr_cg (by omega) a4 hC a3
  · rw [e 100 (by decide) (by decide)]
    omega
theorem bG_add {V : Nat → Nat → Int32} {s lo hi cd : Int} (h0 : 0 ≤ hi) (h : bG V s lo hi cd) (hb : zbr V s hi.toNat ∧ (V 100 hi.toNat).toInt ≤ cd) : bG V s lo (hi + 1) cd := by
  intro b b1 b2
  by_cases e : (b : Int) = hi
  · have e2 : hi.toNat = b := by omega
    rw [e2] at hb
    exact hb
  · exact h b b1 (by omega)
theorem sL_cg {I I' : zI} (hs : 0 ≤ zf I 23) (h23 : zf I' 23 = zf I 23) (h16 : zf I 16 ≤ zf I' 16) (h17 : zf I 17 ≤ zf I' 17) (hL : ∀ k : Nat, k < 4 → zv I' 94 (4 * zf I 23 + (k : Int)) = zv I 94 (4 * zf I 23 + (k : Int)) ∧ zv I' 95 (4 * zf I 23 + (k : Int)) = zv I 95 (4 * zf I 23 + (k : Int))) (hB : ∀ b : Nat, (b : Int) < zf I 16 → ∀ kd, 96 ≤ kd → kd ≤ 100 → I' (zid kd b) = I (zid kd b)) (hC : ∀ i : Nat, (i : Int) < zf I 17 → I' (zid 101 i) = I (zid 101 i) ∧ I' (zid 102 i) = I (zid 102 i)) (h : sL I) : sL I' := by
  intro k hk
  obtain ⟨a1, a2, a3⟩ := h k hk
  rw [h23, (hL k hk).1, (hL k hk).2]
  exact ⟨a1, by omega, bG_cg hs h17 (fun b b1 b2 => hB b (by omega)) hC a3⟩
theorem pS_mo {I : zI} {m m' : Int} (h : pS I m) (hm : zf I 16 ≤ 130 * zf I 23 + m') : pS I m' := by
  obtain ⟨a1, a2, a3, a4, a5, a6, a7, a8⟩ := h
  exact ⟨a1, a2, a3, a4, a5, a6, ⟨a7.1, hm⟩, a8⟩
theorem pG_mo {I : zI} {c c' : Int} (h : pG I c) (hm : c' ≤ c) : pG I c' := by
  obtain ⟨a1, a2, a3, a4, a5⟩ := h
  exact ⟨a1, a2, a3, a4, by omega⟩
theorem pS_n {I I' : zI} {m : Int} (h : pS I m) (hn : nF I I') : pS I' m := by
  obtain ⟨a1, a2, a3, a4, a5, a6, a7, a8⟩ := h
  have e := fun f (h1 : f ≠ 12) (h2 : f ≠ 13) => zf_nF hn h1 h2
  have e22 := e 22 (by decide) (by decide)
  have e23 := e 23 (by decide) (by decide)
  have e15 := e 15 (by decide) (by decide)
  have e16 := e 16 (by decide) (by decide)
  have e17 := e 17 (by decide) (by decide)
  obtain ⟨-, b2, b3, -⟩ := id hn
  exact ⟨nF_inv hn a1, by omega, b2, by omega, by omega, by omega, by omega, by omega⟩
theorem sL_vs {I I' : zI} (h16 : zf I' 16 = zf I 16) (h17 : zf I' 17 = zf I 17) (h23 : zf I' 23 = zf I 23) (hv : ∀ kd i, i < 4096 → 94 ≤ kd → kd ≤ 102 → I' (zid kd i) = I (zid kd i)) (hb : zf I 16 ≤ 4096 ∧ zf I 17 ≤ 4096) (hs : 0 ≤ zf I 23 ∧ zf I 23 ≤ 1) (h : sL I) : sL I' := by
  refine sL_cg hs.1 h23 (by omega) (by omega) (fun k hk => ⟨?_, ?_⟩) (fun b hb' kd p q => hv kd b (by omega) (by omega) (by omega)) (fun i hi => ⟨hv 101 i (by omega) (by decide) (by decide), hv 102 i (by omega) (by decide) (by decide)⟩) h
  · unfold zv; rw [hv 94 _ (by omega) (by decide) (by decide)]
  · unfold zv; rw [hv 95 _ (by omega) (by decide) (by decide)]
theorem pG_n {I I' : zI} {m c : Int} (hS : pS I m) (hm : m ≤ 110) (h : pG I c) (hn : nF I I') (hf : zf I' 13 = 0) : pG I' (c + 1) := by
  obtain ⟨a1, a2, a3, a4, a5⟩ := h
  obtain ⟨-, s2, s3, s4, s5, s6, s7, s8⟩ := hS
  have e := fun f (h1 : f ≠ 12) (h2 : f ≠ 13) => zf_nF hn h1 h2
  have e14 := e 14 (by decide) (by decide)
  have e23 := e 23 (by decide) (by decide)
  have e15 := e 15 (by decide) (by decide)
  have e16 := e 16 (by decide) (by decide)
  have e17 := e 17 (by decide) (by decide)
  have b5 := hn.2.2.2.2 hf
  refine ⟨by omega, by omega, ?_, sL_vs e16 e17 e23 (fun kd i _ _ _ => hn.1 _ (by unfold zid; omega) (by unfold zid; omega)) (by omega) (by omega) a4, by omega⟩
  rw [e23, zv_nF hn, zv_nF hn, e15]
  exact a3
/-- the state inside a law -/
def tlP (I J : zI) (m c : Int) (H : zI → Prop) : Prop := sFr I J ∧ pS J m ∧ zf I 16 ≤ zf J 16 ∧ (zf J 13 = 0 → zf I 12 + 1 ≤ zf J 12 ∧ pG J c ∧ bG (zVs J) (zf J 23) (zf I 16) (zf J 16) (zf J 17) ∧ H J)
def tlT (_ : zI) : Prop := True
def tlB (J : zI) : Prop := zv J 97 (zf J 16) = zf J 17
def tlC (J : zI) : Prop := zprI J (420 * zf J 23) (zv J 97 (zf J 16)) (zf J 17)
def tlD (J : zI) : Prop := tlC J ∧ zv J 98 (zf J 16) = zf J 17
def tlE (J : zI) : Prop := zprI J (420 * zf J 23) (zv J 97 (zf J 16)) (zv J 98 (zf J 16)) ∧ zprI J (420 * zf J 23) (zv J 98 (zf J 16)) (zf J 17)
def tlQ (J : zI) : Prop := zv J 96 (zf J 16) = 0 ∨ tlE J
theorem tlP_b {I J : zI} {m c : Int} {H : zI → Prop} (h : tlP I J m c H) (hm : m ≤ 120) : (0 ≤ zf J 12 ∧ zf J 12 ≤ 400) ∧ 0 ≤ zf J 13 ∧ (0 ≤ zf J 23 ∧ zf J 23 ≤ 1) ∧ (130 * zf J 23 ≤ zf J 16 ∧ zf J 16 ≤ 130 * zf J 23 + m) ∧ (420 * zf J 23 ≤ zf J 17 ∧ zf J 17 ≤ 420 * zf J 23 + 402) ∧ (zf J 13 = 0 → zf J 14 = 0 ∧ zf J 17 ≤ 420 * zf J 23 + zf J 12 ∧ 4 * (zf J 16 - 130 * zf J 23) + c ≤ zf J 12) := by
  obtain ⟨-, ⟨-, a2, a3, a4, a5, a6, a7, a8⟩, -, hz⟩ := h
  exact ⟨a2, a3, by omega, a7, a6, fun q => ⟨(hz q).2.1.1, (hz q).2.1.2.1, (hz q).2.1.2.2.2.2⟩⟩
theorem tlP_i {I J : zI} {m c : Int} {H : zI → Prop} (h : tlP I J m c H) : zInv J := h.2.1.1
theorem tlP_mo {I J : zI} {m m' c c' : Int} {H : zI → Prop} (h : tlP I J m c H) (hm : zf J 16 ≤ 130 * zf J 23 + m') (hc : c' ≤ c) : tlP I J m' c' H := ⟨h.1, pS_mo h.2.1 hm, h.2.2.1, fun q => ⟨(h.2.2.2 q).1, pG_mo (h.2.2.2 q).2.1 hc, (h.2.2.2 q).2.2.1, (h.2.2.2 q).2.2.2⟩⟩
theorem tlP_any {I J : zI} {m c c' : Int} {H H' : zI → Prop} (h : tlP I J m c H) (hf : ¬ zf J 13 = 0) : tlP I J m c' H' := ⟨h.1, h.2.1, h.2.2.1, fun q => absurd q hf⟩
theorem tlP_imp {I J : zI} {m c : Int} {H H' : zI → Prop} (h : tlP I J m c H) (hi : H J → H' J) : tlP I J m c H' := ⟨h.1, h.2.1, h.2.2.1, fun q => ⟨(h.2.2.2 q).1, (h.2.2.2 q).2.1, (h.2.2.2 q).2.2.1, hi (h.2.2.2 q).2.2.2⟩⟩
def nFH (H : zI → Prop) : Prop := ∀ J J', nF J J' → H J → H J'
theorem nFH_T : nFH tlT := fun _ _ _ _ => trivial
theorem zprI_n {J J' : zI} (hn : nF J J') {h x y : Int} (hp : zprI J h x y) : zprI J' h x y := by
  unfold zprI
  rw [nF_vs hn]
  exact hp
theorem nFH_B : nFH tlB := fun J J' hn h => by
  unfold tlB at h ⊢
  rw [zf_nF hn (by decide) (by decide), zf_nF hn (by decide) (by decide), zv_nF hn]
  exact h
theorem nFH_C : nFH tlC := fun J J' hn h => by
  unfold tlC at h ⊢
  rw [zf_nF hn (f := 23) (by decide) (by decide), zf_nF hn (f := 16) (by decide) (by decide), zf_nF hn (f := 17) (by decide) (by decide), zv_nF hn]
  exact zprI_n hn h
theorem nFH_E : nFH tlE := fun J J' hn h => by
  unfold tlE at h ⊢
  rw [zf_nF hn (f := 23) (by decide) (by decide), zf_nF hn (f := 16) (by decide) (by decide), zf_nF hn (f := 17) (by decide) (by decide), zv_nF hn, zv_nF hn]
  exact ⟨zprI_n hn h.1, zprI_n hn h.2⟩
theorem tlP_n {I J J' : zI} {m c : Int} {H : zI → Prop} (h : tlP I J m c H) (hm : m ≤ 110) (hn : nF J J') (hH : nFH H) : tlP I J' m (c + 1) H := by
  obtain ⟨h1, h2, h3, h4⟩ := h
  have e := fun f (h1 : f ≠ 12) (h2 : f ≠ 13) => zf_nF hn h1 h2
  have e23 := e 23 (by decide) (by decide)
  have e16 := e 16 (by decide) (by decide)
  have e17 := e 17 (by decide) (by decide)
  refine ⟨sFr_tr h1 (sFr_n hn), pS_n h2 hn, by omega, fun q => ?_⟩
  obtain ⟨b4, b5⟩ := hn.2.2.2.2 q
  obtain ⟨g1, g2, g3, g4⟩ := h4 b4
  refine ⟨by omega, pG_n h2 hm g2 hn q, ?_, hH J J' hn g4⟩
  rw [nF_vs hn, e23, e16, e17]
  exact g3
/-- a store at the branch that is being told -/
theorem tlP_st {I J : zI} {m c : Int} {H H' : zI → Prop} {kd : Nat} {i x : Int32} (h : tlP I J m c H) (hm : m ≤ 110) (hk : 96 ≤ kd ∧ kd ≤ 98) (hi : i.toInt = zf J 16) (hx : kd = 96 → 0 ≤ x.toInt ∧ x.toInt ≤ 1) (hH : zf J 13 = 0 → H J → H' (zupd J (zid kd i.toInt.toNat) x)) : tlP I (zupd J (zid kd i.toInt.toNat) x) m c H' := by
  obtain ⟨h1, h2, h3, h4⟩ := h
  have hb := tlP_b ⟨h1, h2, h3, h4⟩ (by omega)
  have hS := h2
  obtain ⟨s1, s2, s3, s4, s5, s6, s7, s8⟩ := h2
  have e : ∀ f, f < 4096 → zf (zupd J (zid kd i.toInt.toNat) x) f = zf J f := fun f hf => zf_arr _ _ _ _ _ hf
  have en : ∀ kd' j : Nat, j < 4096 → (kd' ≠ kd ∨ ¬ (j : Int) = zf J 16) → zupd J (zid kd i.toInt.toNat) x (zid kd' j) = J (zid kd' j) := fun kd' j hj hh => zupd_fr (by unfold zid; omega)
  have hsf : sFr J (zupd J (zid kd i.toInt.toNat) x) := by
    refine ⟨fun id hl _ => zupd_hi2 hl, fun kd' j hj _ _ q => en kd' j hj (Or.inl (by omega)), fun k hk' => ⟨en 94 _ (by omega) (Or.inl (by omega)), en 95 _ (by omega) (Or.inl (by omega))⟩, fun b p q kd' _ _ => en kd' b (by omega) (Or.inr ?_), fun c' p q => ⟨en 101 c' (by omega) (Or.inl (by omega)), en 102 c' (by omega) (Or.inl (by omega))⟩⟩
    rcases (show zf J 22 = 0 ∨ zf J 22 = 1 by omega) with e | e <;> omega
  have hE : eE (zupd J (zid kd i.toInt.toNat) x) := by
    have hE0 := eE_of s1
    refine ⟨fun j hj => ?_, fun j hj => ?_⟩
    · rw [en 84 j (by omega) (Or.inl (by omega)), en 86 j (by omega) (Or.inl (by omega))]
      exact hE0.1 j hj
    · by_cases hq : kd = 96 ∧ (j : Int) = zf J 16
      · obtain ⟨rfl, hq⟩ := hq
        have : j = i.toInt.toNat := by omega
        subst this
        unfold zupd
        rw [if_pos rfl]
        exact hx rfl
      · rw [en 96 j (by omega) (by omega)]
        exact hE0.2 j hj
  have hI := sFr_inv s1 hsf hE
  refine ⟨sFr_tr h1 hsf, ⟨hI, by rw [e 12 (by decide)]; exact s2, by rw [e 13 (by decide)]; exact s3, by rw [e 23 (by decide), e 22 (by decide)]; exact s4, by rw [e 22 (by decide)]; exact s5, by rw [e 23 (by decide), e 17 (by decide)]; exact s6, by rw [e 23 (by decide), e 16 (by decide)]; exact s7, by rw [e 15 (by decide)]; exact s8⟩, by rw [e 16 (by decide)]; exact h3, fun q => ?_⟩
  rw [e 13 (by decide)] at q
  obtain ⟨g1, ⟨p1, p2, p3, p4, p5⟩, g3, g4⟩ := h4 q
  refine ⟨by rw [e 12 (by decide)]; exact g1, ⟨by rw [e 14 (by decide)]; exact p1, by rw [e 17 (by decide), e 23 (by decide), e 12 (by decide)]; exact p2, ?_, ?_, by rw [e 16 (by decide), e 23 (by decide), e 12 (by decide)]; exact p5⟩, ?_, hH q g4⟩
  · rw [e 15 (by decide), e 23 (by decide)]
    unfold zv
    rw [en 84 _ (by omega) (Or.inl (by omega)), en 86 _ (by omega) (Or.inl (by omega))]
    exact p3
  · refine sL_cg (by omega) (e 23 (by decide)) (by rw [e 16 (by decide)]; exact Int.le_refl _) (by rw [e 17 (by decide)]; exact Int.le_refl _) (fun k hk' => ⟨?_, ?_⟩) (fun b hb' kd' _ _ => en kd' b (by omega) (Or.inr (by omega))) (fun j hj => ⟨en 101 j (by omega) (Or.inl (by omega)), en 102 j (by omega) (Or.inl (by omega))⟩) p4
    · unfold zv; rw [en 94 _ (by omega) (Or.inl (by omega))]
    · unfold zv; rw [en 95 _ (by omega) (Or.inl (by omega))]
  · rw [e 23 (by decide), e 16 (by decide), e 17 (by decide)]
    exact bG_cg (by omega) (Int.le_refl _) (fun b b1 b2 kd' _ _ => en kd' b (by omega) (Or.inr (by omega))) (fun j hj => ⟨en 101 j (by omega) (Or.inl (by omega)), en 102 j (by omega) (Or.inl (by omega))⟩) g3
/-- an expression -/
theorem tlP_x {I J J' : zI} {m c : Int} {H H' : zI → Prop} (h : tlP I J m c H) (hm : m ≤ 110) (he : eFr J J') (p1 : zf J 13 = 0 → zf J' 17 ≤ 420 * zf J 23 + zf J' 12 + 1) (p2 : zf J' 13 = 0 → zf J 13 = 0 ∧ zf J' 17 ≤ 420 * zf J 23 + zf J' 12 ∧ zf J' 14 = 0 ∧ zf J 12 + 1 ≤ zf J' 12 ∧ zpx (zVs J') (zf J 17).toNat (zf J' 17 - zf J 17).toNat 1) (p3 : ¬ zf J 13 = 0 → zf J' 17 = zf J 17 ∧ zf J' 12 = zf J 12) (hH : zf J' 13 = 0 → H J → H' J') : tlP I J' m (c + 1) H' := by
  obtain ⟨h1, h2, h3, h4⟩ := h
  obtain ⟨s1, s2, s3, s4, s5, s6, s7, s8⟩ := h2
  have e : ∀ f, f < 4096 → f ≠ 12 → f ≠ 13 → f ≠ 14 → f ≠ 17 → f ≠ 18 → zf J' f = zf J f := fun f hf a b c d g => by unfold zf; rw [he.1 f hf a b c d g]
  have e22 := e 22 (by decide) (by decide) (by decide) (by decide) (by decide) (by decide)
  have e23 := e 23 (by decide) (by decide) (by decide) (by decide) (by decide) (by decide)
  have e15 := e 15 (by decide) (by decide) (by decide) (by decide) (by decide) (by decide)
  have e16 := e 16 (by decide) (by decide) (by decide) (by decide) (by decide) (by decide)
  obtain ⟨f1, f2, f3, f4, f5, f6, f7⟩ := id he
  have hc : 420 * zf J 23 ≤ zf J' 17 ∧ zf J' 17 ≤ 420 * zf J 23 + 402 := by
    by_cases q : zf J 13 = 0
    · have := p1 q; omega
    · have := p3 q; omega
  have hsf := sFr_e he s4 s5 (Or.inl (by omega))
  have hI := sFr_inv s1 hsf (eE_k (fun kd i hi hk => f2 kd i hi (by omega) (by omega) (by omega)) (eE_of s1))
  refine ⟨sFr_tr h1 hsf, ⟨hI, by omega, f6, by omega, by omega, by omega, by omega, by omega⟩, by omega, fun q => ?_⟩
  obtain ⟨q1, q2, q3, q4, q5⟩ := p2 q
  obtain ⟨g1, ⟨r1, r2, r3, r4, r5⟩, g3, g4⟩ := h4 q1
  refine ⟨by omega, ⟨q3, by omega, ?_, ?_, by omega⟩, ?_, hH q g4⟩
  · rw [e15, e23]
    unfold zv
    rw [f2 84 _ (by omega) (by decide) (by decide) (by decide), f2 86 _ (by omega) (by decide) (by decide) (by decide)]
    exact r3
  · refine sL_cg (by omega) e23 (by omega) (by omega) (fun k hk' => ⟨?_, ?_⟩) (fun b hb' kd' _ _ => f2 kd' b (by omega) (by omega) (by omega) (by omega)) (fun j hj => f3 j (by omega) (Or.inl hj)) r4
    · unfold zv; rw [f2 94 _ (by omega) (by decide) (by decide) (by decide)]
    · unfold zv; rw [f2 95 _ (by omega) (by decide) (by decide) (by decide)]
  · rw [e23, e16]
    exact bG_cg (by omega) (by omega) (fun b b1 b2 kd' _ _ => f2 kd' b (by omega) (by omega) (by omega) (by omega)) (fun j hj => f3 j (by omega) (Or.inl hj)) g3
theorem zprI_cg {I I' : zI} {h x y : Int} (h0 : 0 ≤ h) (hC : ∀ i : Nat, (i : Int) < y → I' (zid 101 i) = I (zid 101 i) ∧ I' (zid 102 i) = I (zid 102 i)) (hp : zprI I h x y) : zprI I' h x y := by
  obtain ⟨a1, a2, a3, a4, a5⟩ := hp
  exact ⟨a1, a2, a3, a4, zpx_cg (V := zVs I) (fun i hi => hC _ (by omega)) a5⟩
theorem tlx1 {J J' : zI} (he : eFr J J') (s6 : 420 * zf J 23 ≤ zf J 17) (hb : 0 ≤ zf J 16 ∧ zf J 16 < 4096) (q : zf J' 17 ≤ 420 * zf J 23 + zf J' 12) (hz : zpx (zVs J') (zf J 17).toNat (zf J' 17 - zf J 17).toNat 1) (h : tlB J) : tlC J' := by
  obtain ⟨f1, f2, f3, f4, f5, f6, f7⟩ := he
  have e16 : zf J' 16 = zf J 16 := by unfold zf; rw [f1 16 (by decide) (by decide) (by decide) (by decide) (by decide) (by decide)]
  have e23 : zf J' 23 = zf J 23 := by unfold zf; rw [f1 23 (by decide) (by decide) (by decide) (by decide) (by decide) (by decide)]
  have e97 : zv J' 97 (zf J 16) = zf J 17 := by
    unfold tlB at h
    rw [← h]
    unfold zv
    rw [f2 97 _ (by omega) (by decide) (by decide) (by decide)]
  unfold tlC
  rw [e23, e16, e97]
  exact ⟨s6, f4, by omega, by omega, hz⟩
theorem tlx2 {J J' : zI} (he : eFr J J') (s6 : 420 * zf J 23 ≤ zf J 17) (h23 : 0 ≤ zf J 23) (h17 : zf J 17 < 4096) (hb : 0 ≤ zf J 16 ∧ zf J 16 < 4096) (q : zf J' 17 ≤ 420 * zf J 23 + zf J' 12) (hz : zpx (zVs J') (zf J 17).toNat (zf J' 17 - zf J 17).toNat 1) (h : tlD J) : tlE J' := by
  obtain ⟨f1, f2, f3, f4, f5, f6, f7⟩ := he
  have e16 : zf J' 16 = zf J 16 := by unfold zf; rw [f1 16 (by decide) (by decide) (by decide) (by decide) (by decide) (by decide)]
  have e23 : zf J' 23 = zf J 23 := by unfold zf; rw [f1 23 (by decide) (by decide) (by decide) (by decide) (by decide) (by decide)]
  obtain ⟨hC, hD⟩ := h
  have e97 : zv J' 97 (zf J 16) = zv J 97 (zf J 16) := by unfold zv; rw [f2 97 _ (by omega) (by decide) (by decide) (by decide)]
  have e98 : zv J' 98 (zf J 16) = zf J 17 := by
    rw [← hD]
    unfold zv
    rw [f2 98 _ (by omega) (by decide) (by decide) (by decide)]
  unfold tlE
  rw [e23, e16, e97, e98]
  exact ⟨zprI_cg (by omega) (fun i hi => f3 i (by omega) (Or.inl hi)) hC, s6, f4, by omega, by omega, hz⟩
/-- a term: one branch more -/
theorem tlP_t {I J J' : zI} {m c : Int} (h : tlP I J m c tlQ) (hm : m ≤ 109) (ht : tFr J J') (p1 : zf J' 13 = 0 → zf J 13 = 0 ∧ zf J' 14 = 0 ∧ zf J' 17 ≤ 420 * zf J 23 + zf J' 12 ∧ zf J 12 + 1 ≤ zf J' 12 ∧ zv J' 99 (zf J 16) = zf J 17 ∧ zv J' 100 (zf J 16) = zf J' 17 ∧ zpx (zVs J') (zf J 17).toNat (zf J' 17 - zf J 17).toNat 1) (p3 : zf J' 17 ≤ imx (420 * zf J 23 + zf J' 12 + 1) (zf J 17)) : tlP I J' (m + 1) (c - 3) tlT := by
  obtain ⟨h1, h2, h3, h4⟩ := h
  obtain ⟨s1, s2, s3, s4, s5, s6, s7, s8⟩ := h2
  obtain ⟨t1, t16, t2, t3, t4, t5, t6, t7, t8⟩ := ht
  have e : ∀ f, f < 4096 → f ≠ 12 → f ≠ 13 → f ≠ 14 → f ≠ 16 → f ≠ 17 → f ≠ 18 → zf J' f = zf J f := fun f hf a b c d g i => by unfold zf; rw [t1 f hf a b c d g i]
  have e22 := e 22 (by decide) (by decide) (by decide) (by decide) (by decide) (by decide) (by decide)
  have e23 := e 23 (by decide) (by decide) (by decide) (by decide) (by decide) (by decide) (by decide)
  have e15 := e 15 (by decide) (by decide) (by decide) (by decide) (by decide) (by decide) (by decide)
  have hc : zf J' 17 ≤ 420 * zf J 23 + 402 := by unfold imx at p3; split at p3 <;> omega
  have k9 : ∀ b : Nat, b < 4096 → ¬ (b : Int) = zf J 16 → ∀ kd, 96 ≤ kd → kd ≤ 100 → J' (zid kd b) = J (zid kd b) := by
    intro b hb hn kd k1 k2
    by_cases e9 : kd = 99
    · subst e9; exact (t3 b hb hn).1
    · by_cases e10 : kd = 100
      · subst e10; exact (t3 b hb hn).2
      · exact t2 kd b hb e9 e10 (by omega) (by omega) (by omega)
  have hsf : sFr J J' := by
    refine ⟨fun id hl q => t1 id hl (by omega) (by omega) (by omega) (by omega) (by omega) (by omega), fun kd i hi _ _ q => t2 kd i hi (by omega) (by omega) (by omega) (by omega) (by omega), fun k hk => ⟨t2 94 _ (by omega) (by decide) (by decide) (by decide) (by decide) (by decide), t2 95 _ (by omega) (by decide) (by decide) (by decide) (by decide) (by decide)⟩, fun b p q kd r s => k9 b (by omega) ?_ kd r s, fun c' p q => t4 c' (by omega) ?_⟩
    · rcases (show zf J 22 = 0 ∨ zf J 22 = 1 by omega) with e | e <;> omega
    · rcases (show zf J 22 = 0 ∨ zf J 22 = 1 by omega) with e | e <;> omega
  have hI := sFr_inv s1 hsf (eE_k (fun kd i hi hk => t2 kd i hi (by omega) (by omega) (by omega) (by omega) (by omega)) (eE_of s1))
  refine ⟨sFr_tr h1 hsf, ⟨hI, by omega, t7, by omega, by omega, by omega, by omega, by omega⟩, by omega, fun q => ?_⟩
  obtain ⟨q1, q2, q3, q4, q5, q6, q7⟩ := p1 q
  obtain ⟨g1, ⟨r1, r2, r3, r4, r5⟩, g3, g4⟩ := h4 q1
  refine ⟨by omega, ⟨q2, by omega, ?_, ?_, by omega⟩, ?_, trivial⟩
  · rw [e15, e23]
    unfold zv
    rw [t2 84 _ (by omega) (by decide) (by decide) (by decide) (by decide) (by decide), t2 86 _ (by omega) (by decide) (by decide) (by decide) (by decide) (by decide)]
    exact r3
  · refine sL_cg (by omega) e23 (by omega) (by omega) (fun k hk' => ⟨?_, ?_⟩) (fun b hb' kd' p q => k9 b (by omega) (by omega) kd' p q) (fun j hj => t4 j (by omega) (Or.inl hj)) r4
    · unfold zv; rw [t2 94 _ (by omega) (by decide) (by decide) (by decide) (by decide) (by decide)]
    · unfold zv; rw [t2 95 _ (by omega) (by decide) (by decide) (by decide) (by decide) (by decide)]
  · rw [e23, t16]
    have e96 : zv J' 96 (zf J 16) = zv J 96 (zf J 16) := by unfold zv; rw [t2 96 _ (by omega) (by decide) (by decide) (by decide) (by decide) (by decide)]
    have e97 : zv J' 97 (zf J 16) = zv J 97 (zf J 16) := by unfold zv; rw [t2 97 _ (by omega) (by decide) (by decide) (by decide) (by decide) (by decide)]
    have e98 : zv J' 98 (zf J 16) = zv J 98 (zf J 16) := by unfold zv; rw [t2 98 _ (by omega) (by decide) (by decide) (by decide) (by decide) (by decide)]
    have hlast : zprI J' (420 * zf J 23) (zv J' 99 (zf J 16)) (zv J' 100 (zf J 16)) := by
      rw [q5, q6]
      exact ⟨by omega, t5, by omega, by omega, q7⟩
    have hbr : zbr (zVs J') (zf J 23) (zf J 16).toNat := by
      refine ⟨⟨by omega, by omega⟩, fun hn => ?_, hlast⟩
      rcases g4 with g4 | g4
      · exfalso
        refine hn (Int32.toInt_inj.mp ?_)
        show zv J' 96 (zf J 16) = (0 : Int32).toInt
        rw [e96, g4]
        rfl
      · obtain ⟨w1, w2⟩ := g4
        have c1 : zprI J' (420 * zf J 23) (zv J' 97 (zf J 16)) (zv J' 98 (zf J 16)) := by
          rw [e97, e98]
          exact zprI_cg (by omega) (fun i hi => t4 i (by have := w2.2.1; omega) (Or.inl (by have := w2.2.1; omega))) w1
        have c2 : zprI J' (420 * zf J 23) (zv J' 98 (zf J 16)) (zv J' 99 (zf J 16)) := by
          rw [e98, q5]
          exact zprI_cg (by omega) (fun i hi => t4 i (by omega) (Or.inl hi)) w2
        exact ⟨c1, c2⟩
    exact bG_add (by omega) (bG_cg (by omega) (by omega) (fun b b1 b2 kd' p q => k9 b (by omega) (by omega) kd' p q) (fun j hj => t4 j (by omega) (Or.inl hj)) g3) ⟨hbr, by show zv J' 100 (zf J 16) ≤ _; omega⟩
theorem tlP_ret {I J : zI} {m c : Int} {H : zI → Prop} (h : tlP I J m c H) (hm : m ≤ 110) (hf : ¬ zf J 13 = 0) : sFr I J ∧ pS J 110 ∧ (zf J 13 = 0 → zf I 12 + 1 ≤ zf J 12 ∧ pG J 0) := ⟨h.1, pS_mo h.2.1 (by have := h.2.1.2.2.2.2.2.2.1; omega), fun q => absurd q hf⟩
/-- the law is laid down -/
theorem tlP_end {I J : zI} {m : Int} {a f x i j : Int32} (h : tlP I J m 0 tlT) (hm : m ≤ 110) (h0 : 0 ≤ zf I 16) (hq : zf J 13 = 0) (ha : 0 ≤ a.toInt ∧ a.toInt ≤ 3) (hi : i.toInt = 4 * zf J 23 + a.toInt) (hj : j.toInt = 4 * zf J 23 + a.toInt) (hf : f.toInt = zf I 16) (hx : x.toInt = zf J 16) : sFr I (zupd (zupd J (zid 94 i.toInt.toNat) f) (zid 95 j.toInt.toNat) x) ∧ pS (zupd (zupd J (zid 94 i.toInt.toNat) f) (zid 95 j.toInt.toNat) x) 110 ∧ (zf (zupd (zupd J (zid 94 i.toInt.toNat) f) (zid 95 j.toInt.toNat) x) 13 = 0 → zf I 12 + 1 ≤ zf (zupd (zupd J (zid 94 i.toInt.toNat) f) (zid 95 j.toInt.toNat) x) 12 ∧ pG (zupd (zupd J (zid 94 i.toInt.toNat) f) (zid 95 j.toInt.toNat) x) 0) := by
  obtain ⟨h1, h2, h3, h4⟩ := h
  obtain ⟨s1, s2, s3, s4, s5, s6, s7, s8⟩ := h2
  have e : ∀ f', f' < 4096 → zf (zupd (zupd J (zid 94 i.toInt.toNat) f) (zid 95 j.toInt.toNat) x) f' = zf J f' := fun f' hf' => by rw [zf_arr _ _ _ _ _ hf', zf_arr _ _ _ _ _ hf']
  have en : ∀ kd k : Nat, k < 4096 → ((kd ≠ 94 ∧ kd ≠ 95) ∨ ¬ (k : Int) = 4 * zf J 23 + a.toInt) → zupd (zupd J (zid 94 i.toInt.toNat) f) (zid 95 j.toInt.toNat) x (zid kd k) = J (zid kd k) := fun kd k hk hh => (zupd_fr (by unfold zid; omega)).trans (zupd_fr (by unfold zid; omega))
  have hsf : sFr J (zupd (zupd J (zid 94 i.toInt.toNat) f) (zid 95 j.toInt.toNat) x) := by
    refine ⟨fun id hl _ => (zupd_hi2 hl).trans (zupd_hi2 hl), fun kd' k hk _ _ q => en kd' k hk (Or.inl (by omega)), fun k hk' => ⟨en 94 _ (by omega) (Or.inr ?_), en 95 _ (by omega) (Or.inr ?_)⟩, fun b p q kd' _ _ => en kd' b (by omega) (Or.inl (by omega)), fun c' p q => ⟨en 101 c' (by omega) (Or.inl (by omega)), en 102 c' (by omega) (Or.inl (by omega))⟩⟩
    · rcases (show zf J 22 = 0 ∨ zf J 22 = 1 by omega) with e | e <;> omega
    · rcases (show zf J 22 = 0 ∨ zf J 22 = 1 by omega) with e | e <;> omega
  have hI := sFr_inv s1 hsf (eE_k (fun kd k hk hh => en kd k hk (Or.inl (by omega))) (eE_of s1))
  refine ⟨sFr_tr h1 hsf, ⟨hI, by rw [e 12 (by decide)]; exact s2, by rw [e 13 (by decide)]; exact s3, by rw [e 23 (by decide), e 22 (by decide)]; exact s4, by rw [e 22 (by decide)]; exact s5, by rw [e 23 (by decide), e 17 (by decide)]; exact s6, by rw [e 23 (by decide), e 16 (by decide)]; omega, by rw [e 15 (by decide)]; exact s8⟩, fun _ => ?_⟩
  obtain ⟨g1, ⟨p1, p2, p3, p4, p5⟩, g3, -⟩ := h4 hq
  refine ⟨by rw [e 12 (by decide)]; exact g1, by rw [e 14 (by decide)]; exact p1, by rw [e 17 (by decide), e 23 (by decide), e 12 (by decide)]; exact p2, ?_, ?_, by rw [e 16 (by decide), e 23 (by decide), e 12 (by decide)]; exact p5⟩
  · rw [e 15 (by decide), e 23 (by decide)]
    unfold zv
    rw [en 84 _ (by omega) (Or.inl (by omega)), en 86 _ (by omega) (Or.inl (by omega))]
    exact p3
  · intro k hk
    rw [e 23 (by decide), e 16 (by decide), e 17 (by decide)]
    by_cases hka : (k : Int) = a.toInt
    · have v94 : zv (zupd (zupd J (zid 94 i.toInt.toNat) f) (zid 95 j.toInt.toNat) x) 94 (4 * zf J 23 + (k : Int)) = zf I 16 := by
        rw [zv_nk (by decide) (by omega) (by omega), show 4 * zf J 23 + (k : Int) = i.toInt by omega, zv_at]
        exact hf
      have v95 : zv (zupd (zupd J (zid 94 i.toInt.toNat) f) (zid 95 j.toInt.toNat) x) 95 (4 * zf J 23 + (k : Int)) = zf J 16 := by
        rw [show 4 * zf J 23 + (k : Int) = j.toInt by omega, zv_at]
        exact hx
      rw [v94, v95]
      exact ⟨h0, Int.le_refl _, bG_cg (by omega) (Int.le_refl _) (fun b b1 b2 kd' _ _ => en kd' b (by omega) (Or.inl (by omega))) (fun c' _ => ⟨en 101 c' (by omega) (Or.inl (by omega)), en 102 c' (by omega) (Or.inl (by omega))⟩) g3⟩
    · obtain ⟨l1, l2, l3⟩ := p4 k hk
      have v94 : zv (zupd (zupd J (zid 94 i.toInt.toNat) f) (zid 95 j.toInt.toNat) x) 94 (4 * zf J 23 + (k : Int)) = zv J 94 (4 * zf J 23 + (k : Int)) := by
        unfold zv
        rw [en 94 _ (by omega) (Or.inr (by omega))]
      have v95 : zv (zupd (zupd J (zid 94 i.toInt.toNat) f) (zid 95 j.toInt.toNat) x) 95 (4 * zf J 23 + (k : Int)) = zv J 95 (4 * zf J 23 + (k : Int)) := by
        unfold zv
        rw [en 95 _ (by omega) (Or.inr (by omega))]
      rw [v94, v95]
      exact ⟨l1, l2, bG_cg (by omega) (Int.le_refl _) (fun b b1 b2 kd' _ _ => en kd' b (by omega) (Or.inl (by omega))) (fun c' _ => ⟨en 101 c' (by omega) (Or.inl (by omega)), en 102 c' (by omega) (Or.inl (by omega))⟩) l3⟩
theorem zInv_turn {I : zI} {v : Int32} (hI : zInv I) (hv : v.toInt = zf I 23) (h23 : 0 ≤ zf I 23 ∧ zf I 23 ≤ 1) (h : sL I) : zInv (zupd I 22 v) := by
  obtain ⟨g1, g2, g3, g4, -⟩ := hI
  have e : (fun kd i => zupd I 22 v (zid kd i)) = fun kd i => I (zid kd i) := by
    funext kd i
    exact zupd_fr (by unfold zid; omega)
  have e22 : zupd I 22 v 22 = v := by unfold zupd; rw [if_pos rfl]
  unfold zInv
  rw [e, e22]
  refine ⟨g1, g2, g3, g4, by omega, fun k hk => ?_⟩
  obtain ⟨l1, l2, l3⟩ := h k hk
  have ei : 4 * v.toInt.toNat + k = (4 * zf I 23 + (k : Int)).toNat := by omega
  rw [ei, hv]
  exact ⟨l1, fun b b1 b2 => (l3 b b1 b2).1⟩
