/-! ===== contracts of the methods that are walked by hand ===== -/
set_option maxRecDepth 100000 in
theorem zvs_kn0 : ∀ (k : Nat) (u : Unit), zvsT k = some u → zkn k = k := (xB_n (xB_n (xB_n (xB_n (xB_l rfl) (xB_n (xB_l rfl) (xB_l rfl))) (xB_n (xB_l rfl) (xB_n (xB_l rfl) (xB_l rfl)))) (xB_n (xB_n (xB_l rfl) (xB_n (xB_l rfl) (xB_l rfl))) (xB_n (xB_l rfl) (xB_n (xB_l rfl) (xB_l rfl))))) (xB_n (xB_n (xB_n (xB_l rfl) (xB_n (xB_l rfl) (xB_l rfl))) (xB_n (xB_l rfl) (xB_n (xB_l rfl) (xB_l rfl)))) (xB_n (xB_n (xB_l rfl) (xB_n (xB_l rfl) (xB_l rfl))) (xB_n (xB_n (xB_l rfl) (xB_l rfl)) (xB_n (xB_l rfl) (xB_l rfl))))))
theorem zvs_kn {k : Nat} (h : zvs k = true) : zkn k = k := by
  unfold zvs at h
  split at h
  · rename_i u hu
    exact zvs_kn0 k u hu
  · cases h
theorem zvs_len {kd i t len : Nat} (hv : zvs kd = true) (hd : zds kd = .inr (t, len)) (hi : i < len) : i < 4096 := by
  have e : zG0.1 kd = kd := zvs_kn hv
  have h := zInj0.2.2.2 kd t len (by rw [e]; exact hv) (by rw [e]; exact hd)
  omega
theorem zupd_hi2 {I : zI} {kd i id : Nat} {v : Int32} (h : id < 4096) : zupd I (zid kd i) v id = I id := zupd_fr (by unfold zid; omega)
theorem zlaws_cg {I I' : zI} (hh : ∀ kd i : Nat, 23 ≤ kd → I' (zid kd i) = I (zid kd i)) (h22 : I' 22 = I 22) (g5 : zlaws (fun kd i => I (zid kd i)) (I 22)) : zlaws (fun kd i => I' (zid kd i)) (I' 22) := by
  rw [h22]
  have hpf : ∀ (a n D : Nat), zpx (fun kd i => I (zid kd i)) a n D → zpx (fun kd i => I' (zid kd i)) a n D := by
    intro a n
    induction n with
    | zero => intro D hp; exact hp
    | succ n ih =>
      intro D hp
      unfold zpx at hp ⊢
      simp only [hh 101 (a + n) (by decide), hh 102 (a + n) (by decide)]
      exact hp.imp (fun q => ⟨q.1, q.2.1, ih _ q.2.2⟩) (fun q => ⟨q.1, q.2.1, q.2.2.1, ih _ q.2.2.2⟩)
  have hpr : ∀ (h : Int) (a b : Int32), zpr (fun kd i => I (zid kd i)) h a b → zpr (fun kd i => I' (zid kd i)) h a b := fun h a b hp => ⟨hp.1, hp.2.1, hp.2.2.1, hp.2.2.2.1, hpf _ _ _ hp.2.2.2.2⟩
  have hbr : ∀ (s : Int) (b : Nat), zbr (fun kd i => I (zid kd i)) s b → zbr (fun kd i => I' (zid kd i)) s b := by
    intro s b hp
    unfold zbr at hp ⊢
    simp only [hh 96 b (by decide), hh 97 b (by decide), hh 98 b (by decide), hh 99 b (by decide), hh 100 b (by decide)]
    exact ⟨hp.1, fun q => ⟨hpr _ _ _ (hp.2.1 q).1, hpr _ _ _ (hp.2.1 q).2⟩, hpr _ _ _ hp.2.2⟩
  refine ⟨g5.1, fun k hk => ?_⟩
  have e := g5.2 k hk
  simp only [hh 94 _ (by decide), hh 95 _ (by decide)]
  exact ⟨e.1, fun b b1 b2 => hbr _ b (e.2 b b1 b2)⟩
/-- the class's two arrays of steps change, nothing else that the known arrays' invariant speaks of -/
theorem zInv_low {I I' : zI} (hI : zInv I) (h : ∀ id, zid 23 0 ≤ id → I' id = I id) (hk : ∀ kd i, i < 4096 → kd ≠ 21 → kd ≠ 22 → I' (zid kd i) = I (zid kd i)) (h22 : I' 22 = I 22) (hs : ∀ c, c < 408 → I' (zid 21 c) = 1 → 0 ≤ (I' (zid 22 c)).toInt ∧ (I' (zid 22 c)).toInt ≤ 8) : zInv I' := by
  obtain ⟨g1, g2, g3, g4, g5⟩ := hI
  have hh : ∀ kd i : Nat, 23 ≤ kd → I' (zid kd i) = I (zid kd i) := fun kd i hk => h _ (by unfold zid; omega)
  refine ⟨fun kd i t len hv hd hi => ?_, fun c hc e => ?_, fun c hc e => hs c hc e, fun t ht => ?_, zlaws_cg hh h22 g5⟩
  · have hl := zInj0.2.2.2 kd t len
    show eOK _ i (I' (zid kd i)).toInt
    by_cases h1 : kd = 21
    · subst h1; exact eno rfl
    · by_cases h2 : kd = 22
      · subst h2; exact eno rfl
      · rw [hk kd i (zvs_len hv hd hi) h1 h2]
        exact g1 kd i t len hv hd hi
  · have e : I' (zid 10 c) = 1 := e
    show 0 ≤ (I' (zid 11 c)).toInt ∧ (I' (zid 11 c)).toInt ≤ 8
    rw [hk 10 c (by omega) (by decide) (by decide)] at e
    rw [hk 11 c (by omega) (by decide) (by decide)]
    exact g2 c hc e
  · have e := g4 t ht
    show (I' (zid 25 t)).toInt + (I' (zid 26 t)).toInt ≤ 2000 ∧ (I' (zid 24 t) = 2 → (I' (zid 26 t)).toInt ≤ 8)
    rw [hh 25 t (by decide), hh 26 t (by decide), hh 24 t (by decide)]
    exact e
theorem zInv_wide {I : zI} {i v : Int32} (hI : zInv I) (h0 : 0 ≤ i.toInt) (h1 : i.toInt < 4096) (hv : 0 ≤ v.toInt ∧ v.toInt ≤ 8) : zInv (zupd I (zid 17 i.toInt.toNat) v) := by
  have e : ∀ kd j : Nat, j < 4096 → kd ≠ 17 → zupd I (zid 17 i.toInt.toNat) v (zid kd j) = I (zid kd j) := fun kd j hj hk => zupd_fr (by unfold zid; omega)
  have eh : ∀ kd j : Nat, 23 ≤ kd → zupd I (zid 17 i.toInt.toNat) v (zid kd j) = I (zid kd j) := fun kd j hk => zupd_fr (by unfold zid; omega)
  obtain ⟨g1, g2, g3, g4, g5⟩ := hI
  refine ⟨fun kd j t len hvs hd hj => ?_, fun c hc q => ?_, fun c hc q => ?_, fun t ht => ?_, zlaws_cg eh (zupd_hi2 (by decide)) g5⟩
  · show eOK _ j (zupd I (zid 17 i.toInt.toNat) v (zid kd j)).toInt
    by_cases h17 : kd = 17
    · subst h17
      unfold zupd
      split
      · exact eal rfl hv.1 hv.2
      · exact g1 17 j t len hvs hd hj
    · rw [e kd j (zvs_len hvs hd hj) h17]
      exact g1 kd j t len hvs hd hj
  · have q : zupd I (zid 17 i.toInt.toNat) v (zid 10 c) = 1 := q
    rw [e 10 c (by omega) (by decide)] at q
    show 0 ≤ (zupd I (zid 17 i.toInt.toNat) v (zid 11 c)).toInt ∧ (zupd I (zid 17 i.toInt.toNat) v (zid 11 c)).toInt ≤ 8
    rw [e 11 c (by omega) (by decide)]
    exact g2 c hc q
  · have q : zupd I (zid 17 i.toInt.toNat) v (zid 21 c) = 1 := q
    rw [e 21 c (by omega) (by decide)] at q
    show 0 ≤ (zupd I (zid 17 i.toInt.toNat) v (zid 22 c)).toInt ∧ (zupd I (zid 17 i.toInt.toNat) v (zid 22 c)).toInt ≤ 8
    rw [e 22 c (by omega) (by decide)]
    exact g3 c hc q
  · have q := g4 t ht
    show (zupd I (zid 17 i.toInt.toNat) v (zid 25 t)).toInt + (zupd I (zid 17 i.toInt.toNat) v (zid 26 t)).toInt ≤ 2000 ∧ (zupd I (zid 17 i.toInt.toNat) v (zid 24 t) = 2 → (zupd I (zid 17 i.toInt.toNat) v (zid 26 t)).toInt ≤ 8)
    rw [eh 25 t (by decide), eh 26 t (by decide), eh 24 t (by decide)]
    exact q
theorem zInv_add {I : zI} {a b i j v : Int32} (hI : zInv I) (h0 : 0 ≤ i.toInt) (h1 : i.toInt < 408) (hij : j.toInt = i.toInt) (hab : a.toInt = 1 → 0 ≤ b.toInt ∧ b.toInt ≤ 8) : zInv (zupd (zupd (zupd I (zid 21 i.toInt.toNat) a) (zid 22 j.toInt.toNat) b) 4 v) := by
  rw [hij]
  refine zInv_low hI (fun id hid => ?_) (fun kd c hc h1' h2' => ?_) ((zupd_fr (by decide)).trans ((zupd_hi2 (by decide)).trans (zupd_hi2 (by decide)))) (fun c hc e => ?_)
  · unfold zid at hid
    rw [zupd_fr (by omega), zupd_fr (by unfold zid; omega), zupd_fr (by unfold zid; omega)]
  · rw [zupd_fr (by unfold zid; omega), zupd_fr (by unfold zid; omega), zupd_fr (by unfold zid; omega)]
  · rw [zupd_fr (by unfold zid; omega), zupd_fr (by unfold zid; omega)] at e
    rw [zupd_fr (by unfold zid; omega)]
    by_cases hc2 : c = i.toInt.toNat
    · subst hc2
      unfold zupd at e ⊢
      rw [if_pos rfl] at e
      rw [if_pos rfl]
      subst e
      exact hab (by decide)
    · rw [zupd_fr (by unfold zid; omega)] at e
      rw [zupd_fr (by unfold zid; omega), zupd_fr (by unfold zid; omega)]
      exact hI.2.2.1 c hc e
theorem jstp {I : zI} (hI : zInv I) {i : Int} (h0 : 0 ≤ i) (h1 : i < 408) (h : zv I 10 i = 1) : 0 ≤ zv I 11 i ∧ zv I 11 i ≤ 8 := hI.2.1 i.toNat (by omega) (i1 h)
theorem zInv_become {I : zI} (hI : zInv I) : zInv (zcp zG0 (zcp zG0 (zcp zG0 I 17 6 7) 21 10 408) 22 11 408) := by
  have v6 : zG0.2.2.2.2.2 6 = true := rfl
  have v10 : zG0.2.2.2.2.2 10 = true := rfl
  have v11 : zG0.2.2.2.2.2 11 = true := rfl
  have e : ∀ kd i : Nat, i < 4096 → kd ≠ 6 → kd ≠ 10 → kd ≠ 11 → zcp zG0 (zcp zG0 (zcp zG0 I 17 6 7) 21 10 408) 22 11 408 (zid kd i) = I (zid kd i) := fun kd i hi h0 h1 h2 => by rw [zcp_ne h2 (by decide) hi, zcp_ne h1 (by decide) hi, zcp_ne h0 (by decide) hi]
  have e0 : ∀ id, id < 4096 → zcp zG0 (zcp zG0 (zcp zG0 I 17 6 7) 21 10 408) 22 11 408 id = I id := fun id h => by rw [zcp_lo h, zcp_lo h, zcp_lo h]
  have eh : ∀ kd i : Nat, 23 ≤ kd → zcp zG0 (zcp zG0 (zcp zG0 I 17 6 7) 21 10 408) 22 11 408 (zid kd i) = I (zid kd i) := by
    intro kd i hid
    unfold zcp
    rw [if_neg (by unfold zid; omega), if_neg (by unfold zid; omega), if_neg (by unfold zid; omega)]
  have e6 : ∀ i : Nat, i < 7 → zcp zG0 (zcp zG0 (zcp zG0 I 17 6 7) 21 10 408) 22 11 408 (zid 6 i) = I (zid 17 i) := fun i hi => by rw [zcp_ne (by decide) (by decide) (by omega), zcp_ne (by decide) (by decide) (by omega), zcp_at v6 hi]
  obtain ⟨g1, g2, g3, g4, g5⟩ := hI
  refine ⟨fun kd i t len hv hd hi => ?_, fun c hc q => ?_, fun c hc q => ?_, fun t ht => ?_, zlaws_cg eh (e0 22 (by decide)) g5⟩
  · show eOK _ i (zcp zG0 (zcp zG0 (zcp zG0 I 17 6 7) 21 10 408) 22 11 408 (zid kd i)).toInt
    by_cases h10 : kd = 10
    · subst h10; exact eno rfl
    · by_cases h11 : kd = 11
      · subst h11; exact eno rfl
      · by_cases h6 : kd = 6
        · subst h6
          cases (show zds 6 = Sum.inr (0, 7) from rfl).symm.trans hd
          rw [e6 i hi]
          exact g1 17 i 0 7 rfl rfl hi
        · rw [e kd i (zvs_len hv hd hi) h6 h10 h11]
          exact g1 kd i t len hv hd hi
  · have q : zcp zG0 (zcp zG0 (zcp zG0 I 17 6 7) 21 10 408) 22 11 408 (zid 10 c) = 1 := q
    rw [zcp_ne (by decide) (by decide) (by omega), zcp_at v10 hc, zcp_ne (by decide) (by decide) (by omega)] at q
    show 0 ≤ (zcp zG0 (zcp zG0 (zcp zG0 I 17 6 7) 21 10 408) 22 11 408 (zid 11 c)).toInt ∧ (zcp zG0 (zcp zG0 (zcp zG0 I 17 6 7) 21 10 408) 22 11 408 (zid 11 c)).toInt ≤ 8
    rw [zcp_at v11 hc, zcp_ne (by decide) (by decide) (by omega), zcp_ne (by decide) (by decide) (by omega)]
    exact g3 c hc q
  · have q : zcp zG0 (zcp zG0 (zcp zG0 I 17 6 7) 21 10 408) 22 11 408 (zid 21 c) = 1 := q
    rw [e 21 c (by omega) (by decide) (by decide) (by decide)] at q
    show 0 ≤ (zcp zG0 (zcp zG0 (zcp zG0 I 17 6 7) 21 10 408) 22 11 408 (zid 22 c)).toInt ∧ (zcp zG0 (zcp zG0 (zcp zG0 I 17 6 7) 21 10 408) 22 11 408 (zid 22 c)).toInt ≤ 8
    rw [e 22 c (by omega) (by decide) (by decide) (by decide)]
    exact g3 c hc q
  · have q := g4 t ht
    show (zcp zG0 (zcp zG0 (zcp zG0 I 17 6 7) 21 10 408) 22 11 408 (zid 25 t)).toInt + (zcp zG0 (zcp zG0 (zcp zG0 I 17 6 7) 21 10 408) 22 11 408 (zid 26 t)).toInt ≤ 2000 ∧ (zcp zG0 (zcp zG0 (zcp zG0 I 17 6 7) 21 10 408) 22 11 408 (zid 24 t) = 2 → (zcp zG0 (zcp zG0 (zcp zG0 I 17 6 7) 21 10 408) 22 11 408 (zid 26 t)).toInt ≤ 8)
    rw [eh 25 t (by decide), eh 26 t (by decide), eh 24 t (by decide)]
    exact q
/-- a token: where it lies, how long it is -/
theorem tokP {I : zI} (hI : zInv I) {i : Int} (h0 : 0 ≤ i) (h1 : i ≤ 400) : (0 ≤ zv I 25 i ∧ 0 ≤ zv I 26 i ∧ zv I 25 i + zv I 26 i ≤ 2000) ∧ (zv I 24 i = 2 → zv I 26 i ≤ 8) ∧ 0 ≤ zv I 24 i ∧ zv I 24 i ≤ 148 := by
  have hi : i.toNat < 401 := by omega
  have a := hI.2.2.2.1 i.toNat hi
  have b := eall rfl (hI.1 25 i.toNat 0 401 rfl rfl hi)
  have c := eall rfl (hI.1 26 i.toNat 0 401 rfl rfl hi)
  have e := eall rfl (hI.1 24 i.toNat 0 401 rfl rfl hi)
  have two : (2 : Int32).toInt = 2 := by decide
  exact ⟨⟨b.1, c.1, a.1⟩, fun q => a.2 (Int32.toInt_inj.mp (by rw [two]; exact q)), e.1, e.2⟩
/-- what the class's parser of sums leaves: its place, its steps above those that were, the invariant -/
def pFr (I I' : zI) : Prop := (∀ id, zid 23 0 ≤ id → I' id = I id) ∧ (∀ id, id < zid 21 0 → id ≠ 2 → id ≠ 4 → I' id = I id) ∧ (0 ≤ zf I' 2 ∧ zf I' 2 ≤ 400) ∧ (zf I 4 ≤ zf I' 4 ∧ zf I' 4 ≤ 408) ∧ (∀ i : Nat, (i : Int) < zf I 4 → I' (zid 21 i) = I (zid 21 i) ∧ I' (zid 22 i) = I (zid 22 i)) ∧ zInv I'
theorem pFr_rf {I : zI} (h2 : 0 ≤ zf I 2 ∧ zf I 2 ≤ 400) (h4 : zf I 4 ≤ 408) (hI : zInv I) : pFr I I := ⟨fun _ _ => rfl, fun _ _ _ _ => rfl, h2, ⟨Int.le_refl _, h4⟩, fun _ _ => ⟨rfl, rfl⟩, hI⟩
theorem pFr_tr {I J I' : zI} (h1 : pFr I J) (h2 : pFr J I') : pFr I I' := by
  obtain ⟨a1, a2, a3, a4, a5, a6⟩ := h1
  obtain ⟨b1, b2, b3, b4, b5, b6⟩ := h2
  exact ⟨fun id h => (b1 id h).trans (a1 id h), fun id h h' h'' => (b2 id h h' h'').trans (a2 id h h' h''), b3, ⟨by omega, b4.2⟩, fun i hi => ⟨(b5 i (by omega)).1.trans (a5 i hi).1, (b5 i (by omega)).2.trans (a5 i hi).2⟩, b6⟩
theorem pFr_at {I J : zI} {v : Int32} (h1 : pFr I J) (h0 : 0 ≤ v.toInt) (hv : v.toInt ≤ 400) : pFr I (zupd J 2 v) := by
  obtain ⟨a1, a2, a3, a4, a5, a6⟩ := h1
  refine ⟨fun id h => (zupd_fr (by unfold zid at h; omega)).trans (a1 id h), fun id h h' h'' => (zupd_fr h').trans (a2 id h h' h''), by rw [zf_same]; exact ⟨h0, hv⟩, by rw [zf_ne (by decide)]; exact a4, fun i hi => ?_, zextp _ 2 _ rfl (by decide) a6⟩
  rw [zupd_fr (by unfold zid; omega), zupd_fr (by unfold zid; omega)]
  exact a5 i hi
theorem pFr_add {I I' : zI} {a b : Int32} {r : Option zV} (h2 : 0 ≤ zf I 2 ∧ zf I 2 ≤ 400) (h4 : 0 ≤ zf I 4 ∧ zf I 4 ≤ 408) (hI : zInv I) (hab : a.toInt = 1 → 0 ≤ b.toInt ∧ b.toInt ≤ 8) (h : r = none ∧ ((zf I 4 = 408 ∧ I = I') ∨ (zf I 4 < 408 ∧ ∃ i v : Int32, i.toInt = zf I 4 ∧ v.toInt = zf I 4 + 1 ∧ I' = zupd (zupd (zupd I (zid 21 i.toInt.toNat) a) (zid 22 i.toInt.toNat) b) 4 v))) : r = none ∧ pFr I I' := by
  obtain ⟨rfl, ⟨h3, rfl⟩ | ⟨h3, i, v, hi, hv, rfl⟩⟩ := h
  · exact ⟨rfl, pFr_rf h2 h4.2 hI⟩
  · refine ⟨rfl, fun id h => ?_, fun id h h' h'' => ?_, ?_, ?_, fun k hk => ⟨?_, ?_⟩, zInv_add hI (by omega) (by omega) rfl hab⟩
    · unfold zid at h
      rw [zupd_fr (by omega), zupd_fr (by unfold zid; omega), zupd_fr (by unfold zid; omega)]
    · unfold zid at h
      rw [zupd_fr h'', zupd_fr (by unfold zid; omega), zupd_fr (by unfold zid; omega)]
    · rw [zf_ne (by decide), zf_arr _ _ _ _ _ (by decide), zf_arr _ _ _ _ _ (by decide)]
      exact h2
    · rw [zf_same]
      omega
    · rw [zupd_fr (by unfold zid; omega), zupd_fr (by unfold zid; omega), zupd_fr (by unfold zid; omega)]
    · rw [zupd_fr (by unfold zid; omega), zupd_fr (by unfold zid; omega), zupd_fr (by unfold zid; omega)]
theorem pFr_add6 {I I' : zI} {a b : Int32} {r : Option zV} (h2 : 0 ≤ zf I 2 ∧ zf I 2 ≤ 400) (h4 : 0 ≤ zf I 4 ∧ zf I 4 ≤ 408) (hI : zInv I) (hab : a.toInt = 1 → 0 ≤ b.toInt ∧ b.toInt ≤ 8) (h : r = none ∧ ((zf I 4 = 408 ∧ I = I') ∨ (zf I 4 < 408 ∧ ∃ i v : Int32, i.toInt = zf I 4 ∧ v.toInt = zf I 4 + 1 ∧ I' = zupd (zupd (zupd I (zid 21 i.toInt.toNat) a) (zid 22 i.toInt.toNat) b) 4 v))) : r = none ∧ pFr I I' ∧ (zf I 4 < 408 → (I' (zid 21 (zf I 4).toNat)).toInt = a.toInt ∧ zf I 4 < zf I' 4) := by
  refine ⟨h.1, (pFr_add h2 h4 hI hab h).2, fun hl => ?_⟩
  obtain ⟨-, ⟨h3, -⟩ | ⟨h3, i, v, hi, hv, rfl⟩⟩ := h
  · omega
  · rw [← hi]
    refine ⟨?_, by rw [zf_same]; omega⟩
    rw [zupd_fr (by unfold zid; omega), zupd_fr (by unfold zid; omega)]
    unfold zupd
    rw [if_pos rfl]
theorem pFr_lead {I J : zI} {k v : Int32} (h : pFr I J) (hk : zf I 4 ≤ k.toInt) (h0 : 0 ≤ k.toInt) (h1 : k.toInt < 408) (hs : ¬ (J (zid 21 k.toInt.toNat)).toInt = 1) : pFr I (zupd J (zid 22 k.toInt.toNat) v) := by
  obtain ⟨a1, a2, a3, a4, a5, a6⟩ := h
  refine ⟨fun id h => ?_, fun id h h' h'' => ?_, ?_, ?_, fun i hi => ⟨?_, ?_⟩, zInv_low a6 (fun id h => ?_) (fun kd i hi h1' h2' => ?_) (zupd_hi2 (by decide)) (fun c hc e => ?_)⟩
  · unfold zid at h
    rw [zupd_fr (by unfold zid; omega)]
    exact a1 id (by unfold zid; omega)
  · unfold zid at h
    rw [zupd_fr (by unfold zid; omega)]
    exact a2 id (by unfold zid; omega) h' h''
  · rw [zf_arr _ _ _ _ _ (by decide)]
    exact a3
  · rw [zf_arr _ _ _ _ _ (by decide)]
    exact a4
  · rw [zupd_fr (by unfold zid; omega)]
    exact (a5 i hi).1
  · rw [zupd_fr (by unfold zid; omega)]
    exact (a5 i hi).2
  · unfold zid at h
    rw [zupd_fr (by unfold zid; omega)]
  · rw [zupd_fr (by unfold zid; omega)]
  · rw [zupd_fr (by unfold zid; omega)] at e
    by_cases hc2 : c = k.toInt.toNat
    · subst hc2
      rw [e] at hs
      exact absurd (by decide) hs
    · rw [zupd_fr (by unfold zid; omega)]
      exact a6.2.2.1 c hc e
/-! ===== the reference: its pile, its waiting signs ===== -/
def zVs (I : zI) : Nat → Nat → Int32 := fun kd i => I (zid kd i)
theorem zpx_le {V : Nat → Nat → Int32} {a : Nat} : ∀ {m D : Nat}, zpx V a m D → D ≤ m
  | 0, D, h => by unfold zpx at h; omega
  | m + 1, D, h => by
    unfold zpx at h
    rcases h with ⟨-, h1, h2⟩ | ⟨-, -, h1, h2⟩
    · have := zpx_le h2; omega
    · have := zpx_le h2; omega
theorem zpx_uq {V : Nat → Nat → Int32} {a : Nat} : ∀ {m D D' : Nat}, zpx V a m D → zpx V a m D' → D = D'
  | 0, D, D', h, h' => by unfold zpx at h h'; omega
  | m + 1, D, D', h, h' => by
    unfold zpx at h h'
    rcases h with ⟨c1, h1, h2⟩ | ⟨c1, c2, h1, h2⟩
    · rcases h' with ⟨c1', h1', h2'⟩ | ⟨c1', c2', h1', h2'⟩
      · have := zpx_uq h2 h2'; omega
      · omega
    · rcases h' with ⟨c1', h1', h2'⟩ | ⟨c1', c2', h1', h2'⟩
      · omega
      · have := zpx_uq h2 h2'; omega
theorem zpx_pre {V : Nat → Nat → Int32} {a : Nat} : ∀ {n D : Nat}, zpx V a n D → ∀ m, m ≤ n → ∃ D', zpx V a m D'
  | 0, D, h, m, hm => ⟨D, by rw [show m = 0 by omega]; exact h⟩
  | n + 1, D, h, m, hm => by
    by_cases e : m = n + 1
    · exact ⟨D, by rw [e]; exact h⟩
    · unfold zpx at h
      rcases h with ⟨-, -, h2⟩ | ⟨-, -, -, h2⟩
      · exact zpx_pre h2 m (by omega)
      · exact zpx_pre h2 m (by omega)
theorem zpx_cg {V V' : Nat → Nat → Int32} {a : Nat} : ∀ {m D : Nat}, (∀ i, i < m → V' 101 (a + i) = V 101 (a + i) ∧ V' 102 (a + i) = V 102 (a + i)) → zpx V a m D → zpx V' a m D
  | 0, D, _, h => h
  | m + 1, D, hv, h => by
    unfold zpx at h ⊢
    rw [(hv m (by omega)).1, (hv m (by omega)).2]
    exact h.imp (fun q => ⟨q.1, q.2.1, zpx_cg (fun i hi => hv i (by omega)) q.2.2⟩) (fun q => ⟨q.1, q.2.1, q.2.2.1, zpx_cg (fun i hi => hv i (by omega)) q.2.2.2⟩)
def zprI (I : zI) (h x y : Int) : Prop := h ≤ x ∧ x ≤ y ∧ y ≤ h + 420 ∧ y - x ≤ 400 ∧ zpx (zVs I) x.toNat (y - x).toNat 1
/-- one step of a good text -/
theorem tStep {I : zI} {a b c top : Int} (h0 : 0 ≤ a) (h1 : a ≤ c) (h2 : c < b) (hf : zpx (zVs I) a.toNat (b - a).toNat 1) (ht : 0 ≤ top) (hp : zpx (zVs I) a.toNat (c - a).toNat top.toNat) : ((zv I 101 c = 0 ∨ (zv I 101 c = 1 ∧ 0 ≤ zv I 102 c ∧ zv I 102 c ≤ 8)) ∨ (2 ≤ zv I 101 c ∧ zv I 101 c ≤ 5 ∧ 2 ≤ top)) ∧ (zv I 101 c < 2 → zpx (zVs I) a.toNat (c + 1 - a).toNat (top + 1).toNat) ∧ (2 ≤ zv I 101 c → zpx (zVs I) a.toNat (c + 1 - a).toNat (top - 1).toNat) := by
  obtain ⟨D, hD⟩ := zpx_pre hf (c + 1 - a).toNat (by omega)
  have hD0 := hD
  rw [show (c + 1 - a).toNat = (c - a).toNat + 1 by omega] at hD
  unfold zpx at hD
  have e : a.toNat + (c - a).toNat = c.toNat := by omega
  rw [e] at hD
  have e1 : (zVs I 101 c.toNat).toInt = zv I 101 c := rfl
  have e2 : (zVs I 102 c.toNat).toInt = zv I 102 c := rfl
  rw [e1, e2] at hD
  rcases hD with ⟨c1, c2, c3⟩ | ⟨c1, c2, c3, c4⟩
  · have := zpx_uq c3 hp
    refine ⟨Or.inl c1, fun _ => ?_, fun h => by omega⟩
    rw [show (top + 1).toNat = D by omega]
    exact hD0
  · have := zpx_uq c4 hp
    refine ⟨Or.inr ⟨c1, c2, by omega⟩, fun h => by omega, fun _ => ?_⟩
    rw [show (top - 1).toNat = D by omega]
    exact hD0
theorem lawB {I : zI} (hI : zInv I) {k i : Int} (h0 : 0 ≤ k) (h1 : k ≤ 3) (hi : i = 4 * zf I 22 + k) : (0 ≤ zf I 22 ∧ zf I 22 ≤ 1) ∧ 0 ≤ zv I 94 i ∧ ∀ b : Int, zv I 94 i ≤ b → b < zv I 95 i → (0 ≤ b ∧ b < 260) ∧ (¬ zv I 96 b = 0 → zprI I (420 * zf I 22) (zv I 97 b) (zv I 98 b) ∧ zprI I (420 * zf I 22) (zv I 98 b) (zv I 99 b)) ∧ zprI I (420 * zf I 22) (zv I 99 b) (zv I 100 b) := by
  obtain ⟨g1, g2⟩ := hI.2.2.2.2
  have g1 : 0 ≤ zf I 22 ∧ zf I 22 ≤ 1 := g1
  obtain ⟨e1, e2⟩ := g2 k.toNat (by omega)
  have ei : 4 * (I 22).toInt.toNat + k.toNat = i.toNat := by
    have : (I 22).toInt = zf I 22 := rfl
    omega
  rw [ei] at e1 e2
  refine ⟨g1, e1, fun b b1 b2 => ?_⟩
  have e1 : 0 ≤ zv I 94 i := e1
  have hb := e2 b.toNat (by show zv I 94 i ≤ _; omega) (by show _ < zv I 95 i; omega)
  obtain ⟨a1, a2, a3⟩ := hb
  have a1 : 130 * zf I 22 ≤ (b.toNat : Int) ∧ (b.toNat : Int) < 130 * zf I 22 + 130 := a1
  refine ⟨⟨by omega, by omega⟩, fun q => ?_, a3⟩
  refine a2 (fun e => q ?_)
  show (I (zid 96 b.toNat)).toInt = 0
  have e : I (zid 96 b.toNat) = 0 := e
  rw [e]
  rfl
/-- the waiting signs: n of them, o open brackets, k what stands above the last of these: nothing, + or -, * or /, both -/
def ws (w : Int → Int) : Nat → Nat → Nat → Prop
  | 0, o, k => o = 0 ∧ k = 0
  | n + 1, o, k => (w (n : Int) = 6 ∧ k = 0 ∧ 1 ≤ o ∧ ∃ k', ws w n (o - 1) k') ∨ ((w (n : Int) = 8 ∨ w (n : Int) = 9) ∧ k = 1 ∧ ws w n o 0) ∨ ((w (n : Int) = 10 ∨ w (n : Int) = 15) ∧ ((k = 2 ∧ ws w n o 0) ∨ (k = 3 ∧ ws w n o 1)))
theorem ws_cg {w w' : Int → Int} : ∀ {n o k : Nat}, (∀ i : Nat, i < n → w' (i : Int) = w (i : Int)) → ws w n o k → ws w' n o k
  | 0, o, k, _, h => h
  | n + 1, o, k, hw, h => by
    have ih : ∀ {o k : Nat}, ws w n o k → ws w' n o k := fun q => ws_cg (fun i hi => hw i (by omega)) q
    unfold ws at h ⊢
    rw [hw n (by omega)]
    rcases h with ⟨h1, h2, h3, k', h4⟩ | ⟨h1, h2, h3⟩ | ⟨h1, ⟨h2, h3⟩ | ⟨h2, h3⟩⟩
    · exact Or.inl ⟨h1, h2, h3, k', ih h4⟩
    · exact Or.inr (Or.inl ⟨h1, h2, ih h3⟩)
    · exact Or.inr (Or.inr ⟨h1, Or.inl ⟨h2, ih h3⟩⟩)
    · exact Or.inr (Or.inr ⟨h1, Or.inr ⟨h2, ih h3⟩⟩)
theorem ws_len {w : Int → Int} : ∀ {n o k : Nat}, ws w n o k → o ≤ n ∧ k ≤ 3 ∧ n ≤ 3 * o + (k + 1) / 2 ∧ n - o ≤ 2 * o + (k + 1) / 2
  | 0, o, k, h => by unfold ws at h; omega
  | n + 1, o, k, h => by
    unfold ws at h
    rcases h with ⟨h1, h2, h3, k', h4⟩ | ⟨h1, h2, h3⟩ | ⟨h1, ⟨h2, h3⟩ | ⟨h2, h3⟩⟩
    · have := ws_len h4; omega
    · have := ws_len h3; omega
    · have := ws_len h3; omega
    · have := ws_len h3; omega
/-- the other side's half may change, what the live one rests on not -/
theorem zInv_side2 {I I' : zI} (hI : zInv I) (h22 : I' 22 = I 22) (h7 : ∀ kd i t len : Nat, kd = 77 ∨ kd = 78 → zds kd = .inr (t, len) → i < len → eOK (zta (ztb kd)) i (I' (zid kd i)).toInt) (hA : ∀ kd i, i < 4096 → kd ≠ 77 → kd ≠ 78 → kd ≠ 84 → kd ≠ 86 → (kd < 94 ∨ 104 < kd) → I' (zid kd i) = I (zid kd i)) (hL : ∀ k, k < 4 → I' (zid 94 (4 * (zf I 22).toNat + k)) = I (zid 94 (4 * (zf I 22).toNat + k)) ∧ I' (zid 95 (4 * (zf I 22).toNat + k)) = I (zid 95 (4 * (zf I 22).toNat + k)))
    (hB : ∀ b : Nat, 130 * zf I 22 ≤ (b : Int) → (b : Int) < 130 * zf I 22 + 130 → ∀ kd, 96 ≤ kd → kd ≤ 100 → I' (zid kd b) = I (zid kd b)) (hC : ∀ c : Nat, 420 * zf I 22 ≤ (c : Int) → (c : Int) < 420 * zf I 22 + 420 → I' (zid 101 c) = I (zid 101 c) ∧ I' (zid 102 c) = I (zid 102 c))
    (hE : (∀ i : Nat, i < 2 → (0 ≤ (I' (zid 84 i)).toInt ∧ (I' (zid 84 i)).toInt ≤ 5) ∧ 0 ≤ (I' (zid 86 i)).toInt ∧ (I' (zid 86 i)).toInt ≤ 7) ∧ ∀ i : Nat, i < 260 → 0 ≤ (I' (zid 96 i)).toInt ∧ (I' (zid 96 i)).toInt ≤ 1) : zInv I' := by
  obtain ⟨g1, g2, g3, g4, g5⟩ := hI
  refine ⟨fun kd i t len hv hd hi => ?_, fun c hc e => ?_, fun c hc e => ?_, fun t ht => ?_, ?_⟩
  · show eOK _ i (I' (zid kd i)).toInt
    by_cases h77 : kd = 77 ∨ kd = 78
    · exact h7 kd i t len h77 hd hi
    by_cases h2 : kd = 84
    · subst h2
      cases (show zds 84 = Sum.inr (0, 2) from rfl).symm.trans hd
      exact eal rfl (hE.1 i hi).1.1 (hE.1 i hi).1.2
    by_cases h3 : kd = 86
    · subst h3
      cases (show zds 86 = Sum.inr (0, 2) from rfl).symm.trans hd
      exact eal rfl (hE.1 i hi).2.1 (hE.1 i hi).2.2
    by_cases h4 : kd < 94 ∨ 104 < kd
    · rw [hA kd i (zvs_len hv hd hi) (fun e => h77 (Or.inl e)) (fun e => h77 (Or.inr e)) h2 h3 h4]
      exact g1 kd i t len hv hd hi
    by_cases h5 : kd = 96
    · subst h5
      cases (show zds 96 = Sum.inr (2, 260) from rfl).symm.trans hd
      exact eal rfl (hE.2 i hi).1 (hE.2 i hi).2
    have : kd = 94 ∨ kd = 95 ∨ kd = 97 ∨ kd = 98 ∨ kd = 99 ∨ kd = 100 ∨ kd = 101 ∨ kd = 102 ∨ kd = 103 ∨ kd = 104 := by omega
    rcases this with rfl | rfl | rfl | rfl | rfl | rfl | rfl | rfl | rfl | rfl <;> exact eno rfl
  · have e : I' (zid 10 c) = 1 := e
    show 0 ≤ (I' (zid 11 c)).toInt ∧ (I' (zid 11 c)).toInt ≤ 8
    rw [hA 10 c (by omega) (by decide) (by decide) (by decide) (by decide) (by decide)] at e
    rw [hA 11 c (by omega) (by decide) (by decide) (by decide) (by decide) (by decide)]
    exact g2 c hc e
  · have e : I' (zid 21 c) = 1 := e
    show 0 ≤ (I' (zid 22 c)).toInt ∧ (I' (zid 22 c)).toInt ≤ 8
    rw [hA 21 c (by omega) (by decide) (by decide) (by decide) (by decide) (by decide)] at e
    rw [hA 22 c (by omega) (by decide) (by decide) (by decide) (by decide) (by decide)]
    exact g3 c hc e
  · have e := g4 t ht
    show (I' (zid 25 t)).toInt + (I' (zid 26 t)).toInt ≤ 2000 ∧ (I' (zid 24 t) = 2 → (I' (zid 26 t)).toInt ≤ 8)
    rw [hA 25 t (by omega) (by decide) (by decide) (by decide) (by decide) (by decide), hA 26 t (by omega) (by decide) (by decide) (by decide) (by decide) (by decide), hA 24 t (by omega) (by decide) (by decide) (by decide) (by decide) (by decide)]
    exact e
  · show zlaws (fun kd i => I' (zid kd i)) (I' 22)
    rw [h22]
    obtain ⟨q1, q2⟩ := g5
    refine ⟨q1, fun k hk => ?_⟩
    have q1 : 0 ≤ zf I 22 ∧ zf I 22 ≤ 1 := q1
    obtain ⟨e1, e2⟩ := q2 k hk
    have hpr : ∀ (a b : Int32), zpr (fun kd i => I (zid kd i)) (420 * (I 22).toInt) a b → zpr (fun kd i => I' (zid kd i)) (420 * (I 22).toInt) a b := by
      intro a b hp
      have p1 : 420 * zf I 22 ≤ a.toInt := hp.1
      have p2 := hp.2.1
      have p3 : b.toInt ≤ 420 * zf I 22 + 420 := hp.2.2.1
      exact ⟨hp.1, hp.2.1, hp.2.2.1, hp.2.2.2.1, zpx_cg (fun i hi => hC _ (by omega) (by omega)) hp.2.2.2.2⟩
    have eL := hL k hk
    have eI : 4 * (zf I 22).toNat + k = 4 * (I 22).toInt.toNat + k := rfl
    rw [eI] at eL
    refine ⟨?_, fun b b1 b2 => ?_⟩
    · show 0 ≤ (I' (zid 94 _)).toInt
      rw [eL.1]
      exact e1
    · have b1 : (I' (zid 94 (4 * (I 22).toInt.toNat + k))).toInt ≤ (b : Int) := b1
      have b2 : (b : Int) < (I' (zid 95 (4 * (I 22).toInt.toNat + k))).toInt := b2
      rw [eL.1] at b1
      rw [eL.2] at b2
      have hb := e2 b b1 b2
      obtain ⟨a1, a2, a3⟩ := hb
      have a1' : 130 * zf I 22 ≤ (b : Int) ∧ (b : Int) < 130 * zf I 22 + 130 := a1
      have eb := hB b a1'.1 a1'.2
      refine ⟨a1, ?_, ?_⟩
      · show I' (zid 96 b) ≠ 0 → zpr _ _ (I' (zid 97 b)) (I' (zid 98 b)) ∧ zpr _ _ (I' (zid 98 b)) (I' (zid 99 b))
        rw [eb 96 (by decide) (by decide), eb 97 (by decide) (by decide), eb 98 (by decide) (by decide), eb 99 (by decide) (by decide)]
        exact fun q => ⟨hpr _ _ (a2 q).1, hpr _ _ (a2 q).2⟩
      · show zpr _ _ (I' (zid 99 b)) (I' (zid 100 b))
        rw [eb 99 (by decide) (by decide), eb 100 (by decide) (by decide)]
        exact hpr _ _ a3
theorem zInv_side {I I' : zI} (hI : zInv I) (h22 : I' 22 = I 22) (hA : ∀ kd i, i < 4096 → kd ≠ 84 → kd ≠ 86 → (kd < 94 ∨ 104 < kd) → I' (zid kd i) = I (zid kd i)) (hL : ∀ k, k < 4 → I' (zid 94 (4 * (zf I 22).toNat + k)) = I (zid 94 (4 * (zf I 22).toNat + k)) ∧ I' (zid 95 (4 * (zf I 22).toNat + k)) = I (zid 95 (4 * (zf I 22).toNat + k)))
    (hB : ∀ b : Nat, 130 * zf I 22 ≤ (b : Int) → (b : Int) < 130 * zf I 22 + 130 → ∀ kd, 96 ≤ kd → kd ≤ 100 → I' (zid kd b) = I (zid kd b)) (hC : ∀ c : Nat, 420 * zf I 22 ≤ (c : Int) → (c : Int) < 420 * zf I 22 + 420 → I' (zid 101 c) = I (zid 101 c) ∧ I' (zid 102 c) = I (zid 102 c))
    (hE : (∀ i : Nat, i < 2 → (0 ≤ (I' (zid 84 i)).toInt ∧ (I' (zid 84 i)).toInt ≤ 5) ∧ 0 ≤ (I' (zid 86 i)).toInt ∧ (I' (zid 86 i)).toInt ≤ 7) ∧ ∀ i : Nat, i < 260 → 0 ≤ (I' (zid 96 i)).toInt ∧ (I' (zid 96 i)).toInt ≤ 1) : zInv I' := zInv_side2 hI h22 (fun kd i t len h hd hi => by rw [hA kd i (zvs_len (show zvs kd = true by rcases h with rfl | rfl <;> rfl) hd hi) (by omega) (by omega) (by omega)]; exact hI.1 kd i t len (show zvs kd = true by rcases h with rfl | rfl <;> rfl) hd hi) (fun kd i hi _ _ p q r => hA kd i hi p q r) hL hB hC hE
/-- the codes' and the waiting signs' frame -/
def cFr (I I' : zI) : Prop := (∀ id, id < 4096 → id ≠ 17 → id ≠ 18 → I' id = I id) ∧ (∀ kd i, i < 4096 → kd ≠ 101 → kd ≠ 102 → I' (zid kd i) = I (zid kd i)) ∧ (∀ i : Nat, i < 4096 → ((i : Int) < zf I 17 ∨ zf I' 17 ≤ (i : Int)) → I' (zid 101 i) = I (zid 101 i) ∧ I' (zid 102 i) = I (zid 102 i)) ∧ zf I 17 ≤ zf I' 17
def cOK (I : zI) (c0 : Int) (n o k : Nat) : Prop := zf I 18 = (n : Int) ∧ ws (zv I 104) n o k ∧ 0 ≤ c0 ∧ c0 ≤ zf I 17 ∧ zpx (zVs I) c0.toNat (zf I 17 - c0).toNat (n - o + 1)
theorem cFr_rf {I : zI} : cFr I I := ⟨fun _ _ _ _ => rfl, fun _ _ _ _ _ => rfl, fun _ _ _ => ⟨rfl, rfl⟩, Int.le_refl _⟩
theorem cFr_tr {I J I' : zI} (h1 : cFr I J) (h2 : cFr J I') : cFr I I' := by
  obtain ⟨a1, a2, a3, a4⟩ := h1
  obtain ⟨b1, b2, b3, b4⟩ := h2
  exact ⟨fun id h h' h'' => (b1 id h h' h'').trans (a1 id h h' h''), fun kd i h h' h'' => (b2 kd i h h' h'').trans (a2 kd i h h' h''), fun i hi h => ⟨(b3 i hi (by omega)).1.trans (a3 i hi (by omega)).1, (b3 i hi (by omega)).2.trans (a3 i hi (by omega)).2⟩, by omega⟩
/-- one sign comes out -/
theorem cStep {J : zI} {c0 : Int} {n o k : Nat} {v i x y u : Int32} (h : cOK J c0 (n + 1) o k) (hx : ¬ zv J 104 (n : Int) = 6) (hv : v.toInt = (n : Int)) (hi : i.toInt = zf J 17) (hu : u.toInt = zf J 17 + 1) (hc : zf J 17 ≤ 839) (hop : 2 ≤ x.toInt ∧ x.toInt ≤ 5) : cFr J (zupd (zupd (zupd (zupd J 18 v) (zid 101 i.toInt.toNat) x) (zid 102 i.toInt.toNat) y) 17 u) ∧ ∃ k', cOK (zupd (zupd (zupd (zupd J 18 v) (zid 101 i.toInt.toNat) x) (zid 102 i.toInt.toNat) y) 17 u) c0 n o k' := by
  obtain ⟨h1, h2, h3, h4, h5⟩ := h
  have hlen := ws_len h2
  refine ⟨⟨fun id hl h' h'' => ?_, fun kd j hj h' h'' => ?_, fun j hj hh => ?_, by rw [zf_same]; omega⟩, ?_⟩
  · rw [zupd_fr h', zupd_hi2 hl, zupd_hi2 hl, zupd_fr h'']
  · rw [zupd_fr (by unfold zid; omega), zupd_fr (by unfold zid; omega), zupd_fr (by unfold zid; omega), zupd_fr (by unfold zid; omega)]
  · rw [zf_same] at hh
    constructor
    · rw [zupd_fr (by unfold zid; omega), zupd_fr (by unfold zid; omega), zupd_fr (by unfold zid; omega), zupd_fr (by unfold zid; omega)]
    · rw [zupd_fr (by unfold zid; omega), zupd_fr (by unfold zid; omega), zupd_fr (by unfold zid; omega), zupd_fr (by unfold zid; omega)]
  · have hw : ∀ j : Nat, j < n → zv (zupd (zupd (zupd (zupd J 18 v) (zid 101 i.toInt.toNat) x) (zid 102 i.toInt.toNat) y) 17 u) 104 (j : Int) = zv J 104 (j : Int) := by
      intro j hj
      unfold zv
      have hj2 : (j : Int).toNat = j := by omega
      rw [hj2, zupd_fr (by unfold zid; omega), zupd_fr (by unfold zid; omega), zupd_fr (by unfold zid; omega), zupd_fr (by unfold zid; omega)]
    have hp : zpx (zVs (zupd (zupd (zupd (zupd J 18 v) (zid 101 i.toInt.toNat) x) (zid 102 i.toInt.toNat) y) 17 u)) c0.toNat (zf J 17 + 1 - c0).toNat (n - o + 1) ∨ n < o := by
      by_cases hno : n < o
      · exact Or.inr hno
      · refine Or.inl ?_
        rw [show (zf J 17 + 1 - c0).toNat = (zf J 17 - c0).toNat + 1 by omega]
        unfold zpx
        refine Or.inr ?_
        have e : c0.toNat + (zf J 17 - c0).toNat = i.toInt.toNat := by omega
        have ev : zVs (zupd (zupd (zupd (zupd J 18 v) (zid 101 i.toInt.toNat) x) (zid 102 i.toInt.toNat) y) 17 u) 101 i.toInt.toNat = x := by
          show zupd (zupd (zupd (zupd J 18 v) (zid 101 i.toInt.toNat) x) (zid 102 i.toInt.toNat) y) 17 u (zid 101 i.toInt.toNat) = x
          rw [zupd_fr (by unfold zid; omega), zupd_fr (by unfold zid; omega)]
          unfold zupd
          rw [if_pos rfl]
        rw [e, ev]
        refine ⟨hop.1, hop.2, by omega, ?_⟩
        rw [show n - o + 1 + 1 = n + 1 - o + 1 by omega]
        refine zpx_cg (fun m hm => ?_) h5
        constructor
        · show zupd (zupd (zupd (zupd J 18 v) (zid 101 i.toInt.toNat) x) (zid 102 i.toInt.toNat) y) 17 u (zid 101 _) = J (zid 101 _)
          rw [zupd_fr (by unfold zid; omega), zupd_fr (by unfold zid; omega), zupd_fr (by unfold zid; omega), zupd_fr (by unfold zid; omega)]
        · show zupd (zupd (zupd (zupd J 18 v) (zid 101 i.toInt.toNat) x) (zid 102 i.toInt.toNat) y) 17 u (zid 102 _) = J (zid 102 _)
          rw [zupd_fr (by unfold zid; omega), zupd_fr (by unfold zid; omega), zupd_fr (by unfold zid; omega), zupd_fr (by unfold zid; omega)]
    have fin : ∀ k', ws (zv J 104) n o k' → ∃ k', cOK (zupd (zupd (zupd (zupd J 18 v) (zid 101 i.toInt.toNat) x) (zid 102 i.toInt.toNat) y) 17 u) c0 n o k' := by
      intro k' hk'
      have hl2 := ws_len hk'
      refine ⟨k', ?_, ws_cg hw hk', h3, ?_, ?_⟩
      · rw [zf_ne (by decide), zf_arr _ _ _ _ _ (by decide), zf_arr _ _ _ _ _ (by decide), zf_same, hv]
      · rw [zf_same]; omega
      · rw [zf_same, hu]
        rcases hp with hp | hp
        · exact hp
        · omega
    unfold ws at h2
    rcases h2 with ⟨q1, -⟩ | ⟨-, -, q3⟩ | ⟨-, ⟨-, q3⟩ | ⟨-, q3⟩⟩
    · exact absurd q1 hx
    · exact fin 0 q3
    · exact fin 0 q3
    · exact fin 1 q3
/-- what stands on top -/
theorem cTop {J : zI} {c0 : Int} {n o k : Nat} (h : cOK J c0 n o k) : (n = 0 → k = 0) ∧ (1 ≤ n → zv J 104 ((n : Int) - 1) = 6 → k = 0) ∧ (1 ≤ n → (zv J 104 ((n : Int) - 1) = 8 ∨ zv J 104 ((n : Int) - 1) = 9) → k = 1) := by
  obtain ⟨-, h2, -⟩ := h
  cases n with
  | zero => unfold ws at h2; exact ⟨fun _ => h2.2, fun h => by omega, fun h => by omega⟩
  | succ n =>
    unfold ws at h2
    have e : ((n + 1 : Nat) : Int) - 1 = (n : Int) := by omega
    rw [e]
    refine ⟨fun h => by omega, fun _ hw => ?_, fun _ hw => ?_⟩
    · rcases h2 with ⟨q1, q2, -⟩ | ⟨q1, -⟩ | ⟨q1, -⟩
      · exact q2
      · omega
      · omega
    · rcases h2 with ⟨q1, q2, -⟩ | ⟨q1, q2, -⟩ | ⟨q1, -⟩
      · omega
      · exact q2
      · omega
/-! ===== the reference's expressions ===== -/
def eFr (I I' : zI) : Prop := (∀ id, id < 4096 → id ≠ 12 → id ≠ 13 → id ≠ 14 → id ≠ 17 → id ≠ 18 → I' id = I id) ∧ (∀ kd i, i < 4096 → kd ≠ 101 → kd ≠ 102 → kd ≠ 104 → I' (zid kd i) = I (zid kd i)) ∧ (∀ i : Nat, i < 4096 → ((i : Int) < zf I 17 ∨ zf I' 17 ≤ (i : Int)) → I' (zid 101 i) = I (zid 101 i) ∧ I' (zid 102 i) = I (zid 102 i)) ∧ zf I 17 ≤ zf I' 17 ∧ (zf I 12 ≤ zf I' 12 ∧ zf I' 12 ≤ 400) ∧ 0 ≤ zf I' 13 ∧ (¬ zf I 13 = 0 → ¬ zf I' 13 = 0)
theorem eFr_rf {I : zI} (h12 : zf I 12 ≤ 400) (h13 : 0 ≤ zf I 13) : eFr I I := ⟨fun _ _ _ _ _ _ _ => rfl, fun _ _ _ _ _ _ => rfl, fun _ _ _ => ⟨rfl, rfl⟩, Int.le_refl _, ⟨Int.le_refl _, h12⟩, h13, fun h => h⟩
theorem eFr_tr {I J I' : zI} (h1 : eFr I J) (h2 : eFr J I') : eFr I I' := by
  obtain ⟨a1, a2, a3, a4, a5, a6, a7⟩ := h1
  obtain ⟨b1, b2, b3, b4, b5, b6, b7⟩ := h2
  exact ⟨fun id h p q r s t => (b1 id h p q r s t).trans (a1 id h p q r s t), fun kd i h p q r => (b2 kd i h p q r).trans (a2 kd i h p q r), fun i hi h => ⟨(b3 i hi (by omega)).1.trans (a3 i hi (by omega)).1, (b3 i hi (by omega)).2.trans (a3 i hi (by omega)).2⟩, by omega, ⟨by omega, b5.2⟩, b6, fun h => b7 (a7 h)⟩
theorem eFr_c {I I' : zI} (h : cFr I I') (h12 : zf I 12 ≤ 400) (h13 : 0 ≤ zf I 13) : eFr I I' := by
  obtain ⟨a1, a2, a3, a4⟩ := h
  have e12 : zf I' 12 = zf I 12 := by unfold zf; rw [a1 12 (by decide) (by decide) (by decide)]
  have e13 : zf I' 13 = zf I 13 := by unfold zf; rw [a1 13 (by decide) (by decide) (by decide)]
  exact ⟨fun id h _ _ _ p q => a1 id h p q, fun kd i h p q _ => a2 kd i h p q, a3, a4, by omega, by omega, by omega⟩
/-- a field that the walk may change, of those that bind nothing -/
theorem eFr_o {I J : zI} {a : Nat} {v : Int32} (h : eFr I J) (ha : a = 14 ∨ a = 18) : eFr I (zupd J a v) := by
  obtain ⟨a1, a2, a3, a4, a5, a6, a7⟩ := h
  have e : ∀ b, b = 12 ∨ b = 13 ∨ b = 17 → zf (zupd J a v) b = zf J b := fun b hb => zf_ne (by omega)
  rw [← e 17 (by omega)] at a3 a4
  rw [← e 12 (by omega)] at a5
  rw [← e 13 (by omega)] at a6 a7
  refine ⟨fun id hl p q r s t => (zupd_fr (by omega)).trans (a1 id hl p q r s t), fun kd i hi p q r => (zupd_fr (by unfold zid; omega)).trans (a2 kd i hi p q r), fun i hi hh => ?_, a4, a5, a6, a7⟩
  have := a3 i hi hh
  exact ⟨(zupd_fr (by unfold zid; omega)).trans this.1, (zupd_fr (by unfold zid; omega)).trans this.2⟩
theorem eFr_t {I J : zI} {v : Int32} (h : eFr I J) (h1 : zf J 12 ≤ v.toInt) (h2 : v.toInt ≤ 400) : eFr I (zupd J 12 v) := by
  obtain ⟨a1, a2, a3, a4, a5, a6, a7⟩ := h
  have e17 : zf (zupd J 12 v) 17 = zf J 17 := zf_ne (by decide)
  have e13 : zf (zupd J 12 v) 13 = zf J 13 := zf_ne (by decide)
  have e12 : zf (zupd J 12 v) 12 = v.toInt := zf_same
  refine ⟨fun id hl p q r s t => (zupd_fr p).trans (a1 id hl p q r s t), fun kd i hi p q r => (zupd_fr (by unfold zid; omega)).trans (a2 kd i hi p q r), fun i hi hh => ?_, by omega, by omega, by omega, by rw [e13]; exact a7⟩
  have := a3 i hi (by rw [e17] at hh; exact hh)
  exact ⟨(zupd_fr (by unfold zid; omega)).trans this.1, (zupd_fr (by unfold zid; omega)).trans this.2⟩
theorem eFr_f {I J : zI} {v : Int32} (h : eFr I J) (h1 : 0 ≤ v.toInt) (h2 : ¬ zf J 13 = 0 → ¬ v.toInt = 0) : eFr I (zupd J 13 v) := by
  obtain ⟨a1, a2, a3, a4, a5, a6, a7⟩ := h
  have e17 : zf (zupd J 13 v) 17 = zf J 17 := zf_ne (by decide)
  have e12 : zf (zupd J 13 v) 12 = zf J 12 := zf_ne (by decide)
  have e13 : zf (zupd J 13 v) 13 = v.toInt := zf_same
  refine ⟨fun id hl p q r s t => (zupd_fr q).trans (a1 id hl p q r s t), fun kd i hi p q r => (zupd_fr (by unfold zid; omega)).trans (a2 kd i hi p q r), fun i hi hh => ?_, by omega, by omega, by omega, by rw [e13]; exact fun q => h2 (a7 q)⟩
  have := a3 i hi (by rw [e17] at hh; exact hh)
  exact ⟨(zupd_fr (by unfold zid; omega)).trans this.1, (zupd_fr (by unfold zid; omega)).trans this.2⟩
theorem eFr_w {I J : zI} {i : Nat} {v : Int32} (hi0 : i < 4096) (h : eFr I J) : eFr I (zupd J (zid 104 i) v) := by
  obtain ⟨a1, a2, a3, a4, a5, a6, a7⟩ := h
  have e : ∀ b, b < 4096 → zf (zupd J (zid 104 i) v) b = zf J b := fun b hb => zf_arr _ _ _ _ _ hb
  refine ⟨fun id hl p q r s t => (zupd_hi2 hl).trans (a1 id hl p q r s t), fun kd j hj p q r => (zupd_fr (by unfold zid; omega)).trans (a2 kd j hj p q r), fun j hj hh => ?_, by rw [e 17 (by decide)]; exact a4, by rw [e 12 (by decide)]; exact a5, by rw [e 13 (by decide)]; exact a6, by rw [e 13 (by decide)]; exact a7⟩
  have := a3 j hj (by rw [e 17 (by decide)] at hh; exact hh)
  exact ⟨(zupd_fr (by unfold zid; omega)).trans this.1, (zupd_fr (by unfold zid; omega)).trans this.2⟩
theorem eFr_e {I J : zI} {i x y u : Int32} (h : eFr I J) (hi : i.toInt = zf J 17) (h0 : 0 ≤ i.toInt) (hu : u.toInt = zf J 17 + 1) (hc : zf J 17 ≤ 839) : eFr I (zupd (zupd (zupd J (zid 101 i.toInt.toNat) x) (zid 102 i.toInt.toNat) y) 17 u) := by
  obtain ⟨a1, a2, a3, a4, a5, a6, a7⟩ := h
  have e : ∀ b, b < 4096 → b ≠ 17 → zf (zupd (zupd (zupd J (zid 101 i.toInt.toNat) x) (zid 102 i.toInt.toNat) y) 17 u) b = zf J b := fun b hb h17 => by rw [zf_ne h17, zf_arr _ _ _ _ _ hb, zf_arr _ _ _ _ _ hb]
  have e17 : zf (zupd (zupd (zupd J (zid 101 i.toInt.toNat) x) (zid 102 i.toInt.toNat) y) 17 u) 17 = zf J 17 + 1 := by rw [zf_same, hu]
  refine ⟨fun id hl p q r s t => ((zupd_fr s).trans ((zupd_hi2 hl).trans (zupd_hi2 hl))).trans (a1 id hl p q r s t), fun kd j hj p q r => ((zupd_fr (by unfold zid; omega)).trans ((zupd_fr (by unfold zid; omega)).trans (zupd_fr (by unfold zid; omega)))).trans (a2 kd j hj p q r), fun j hj hh => ?_, by omega, by rw [e 12 (by decide) (by decide)]; exact a5, by rw [e 13 (by decide) (by decide)]; exact a6, by rw [e 13 (by decide) (by decide)]; exact a7⟩
  rw [e17] at hh
  have := a3 j hj (by omega)
  exact ⟨((zupd_fr (by unfold zid; omega)).trans ((zupd_fr (by unfold zid; omega)).trans (zupd_fr (by unfold zid; omega)))).trans this.1, ((zupd_fr (by unfold zid; omega)).trans ((zupd_fr (by unfold zid; omega)).trans (zupd_fr (by unfold zid; omega)))).trans this.2⟩
/-- at the heads: b 0 before a unit, 1 behind it -/
def xpA (I J : zI) (b : Nat) : Prop := eFr I J ∧ ∃ n o k : Nat, zf J 18 = (n : Int) ∧ zf J 14 = (o : Int) ∧ o ≤ 7 ∧ (zf J 13 = 0 → o ≤ 6) ∧ ws (zv J 104) n o k ∧ zpx (zVs J) (zf I 17).toNat (zf J 17 - zf I 17).toNat (n - o + b) ∧ zf J 17 + (n : Int) ≤ 420 * zf I 23 + zf J 12 + 1 ∧ (zf J 13 = 0 → zf J 17 + (n : Int) ≤ 420 * zf I 23 + zf J 12)
theorem xpA_b {I J : zI} {b : Nat} (h : xpA I J b) : (0 ≤ zf J 18 ∧ zf J 18 ≤ 23) ∧ (0 ≤ zf J 14 ∧ zf J 14 ≤ 7) ∧ (zf I 12 ≤ zf J 12 ∧ zf J 12 ≤ 400) ∧ 0 ≤ zf J 13 ∧ zf I 17 ≤ zf J 17 ∧ zf J 17 + zf J 18 ≤ 420 * zf I 23 + zf J 12 + 1 ∧ (zf J 13 = 0 → zf J 14 ≤ 6 ∧ zf J 17 + zf J 18 ≤ 420 * zf I 23 + zf J 12) := by
  obtain ⟨e, n, o, k, h1, h2, h3, h4, h5, h6, h7, h8⟩ := h
  have hl := ws_len h5
  obtain ⟨-, -, -, a4, a5, a6, -⟩ := e
  refine ⟨by omega, by omega, a5, a6, a4, by omega, fun q => ?_⟩
  have := h4 q
  have := h8 q
  omega
/-- an open bracket is laid by -/
theorem xpA_open {I J J' : zI} (h : xpA I J 0) (hf : zf J 13 = 0) (he : eFr I J') (h18 : zf J' 18 = zf J 18 + 1) (h14 : zf J' 14 = zf J 14 + 1) (h17 : zf J' 17 = zf J 17) (hw : zv J' 104 (zf J 18) = 6) (hw2 : ∀ i : Nat, (i : Int) < zf J 18 → zv J' 104 (i : Int) = zv J 104 (i : Int)) (hc : ∀ i : Nat, i < 4096 → J' (zid 101 i) = J (zid 101 i) ∧ J' (zid 102 i) = J (zid 102 i)) (ht : zf J 12 ≤ zf J' 12) (ht2 : zf J' 13 = 0 → zf J' 12 = zf J 12 + 1 ∧ zf J 14 ≤ 5) (h0 : 0 ≤ zf I 17) (hm : zf J 17 ≤ 840) : xpA I J' 0 := by
  have hb := xpA_b h
  obtain ⟨-, n, o, k, h1, h2, h3, h4, h5, h6, h7, h8⟩ := h
  have h4 := h4 hf
  have h8 := h8 hf
  refine ⟨he, n + 1, o + 1, 0, by omega, by omega, by omega, fun q => ?_, ?_, ?_, by omega, fun q => ?_⟩
  · have := ht2 q; omega
  · unfold ws
    refine Or.inl ⟨by rw [← h1]; exact hw, rfl, by omega, k, ?_⟩
    exact ws_cg (fun i hi => hw2 i (by omega)) h5
  · rw [h17, show n + 1 - (o + 1) + 0 = n - o + 0 by omega]
    exact zpx_cg (V := zVs J) (fun i hi => hc ((zf I 17).toNat + i) (by omega)) h6
  · have := ht2 q; omega
/-- a unit is laid down -/
theorem xpA_unit {I J J' : zI} (h : xpA I J 0) (hf : zf J 13 = 0) (he : eFr I J') (h18 : zf J' 18 = zf J 18) (h14 : zf J' 14 = zf J 14) (h17 : zf J' 17 = zf J 17 + 1) (hw2 : ∀ i : Nat, (i : Int) < zf J 18 → zv J' 104 (i : Int) = zv J 104 (i : Int)) (hc : ∀ i : Nat, i < 4096 → (i : Int) < zf J 17 → J' (zid 101 i) = J (zid 101 i) ∧ J' (zid 102 i) = J (zid 102 i)) (hu : zv J' 101 (zf J 17) = 0 ∨ (zv J' 101 (zf J 17) = 1 ∧ 0 ≤ zv J' 102 (zf J 17) ∧ zv J' 102 (zf J 17) ≤ 8)) (ht : zf J' 12 = zf J 12 + 1) (h0 : 0 ≤ zf I 17) (hm : zf J 17 ≤ 839) : xpA I J' 1 := by
  have hb := xpA_b h
  obtain ⟨-, n, o, k, h1, h2, h3, h4, h5, h6, h7, h8⟩ := h
  have h4 := h4 hf
  have h8 := h8 hf
  refine ⟨he, n, o, k, by omega, by omega, by omega, fun q => by omega, ws_cg (fun i hi => hw2 i (by omega)) h5, ?_, by omega, fun q => by omega⟩
  rw [h17, show (zf J 17 + 1 - zf I 17).toNat = (zf J 17 - zf I 17).toNat + 1 by omega]
  unfold zpx
  have e : (zf I 17).toNat + (zf J 17 - zf I 17).toNat = (zf J 17).toNat := by omega
  refine Or.inl ⟨?_, by omega, ?_⟩
  · rw [e]; exact hu
  · rw [show n - o + 1 - 1 = n - o + 0 by omega]
    exact zpx_cg (V := zVs J) (fun i hi => hc ((zf I 17).toNat + i) (by omega) (by omega)) h6
/-- signs came out -/
theorem xpA_out {I J J' : zI} {s : Int} (h : xpA I J 1) (hcf : cFr J J') (ha : ∀ (c0 : Int) (n o k : Nat), cOK J c0 n o k → ∃ n' k' : Nat, cOK J' c0 n' o k' ∧ k' ≤ 1 ∧ (s = 0 → k' = 0) ∧ zf J' 17 + (n' : Int) = zf J 17 + (n : Int) ∧ n' ≤ n) (h0 : 0 ≤ zf I 17) : xpA I J' 1 ∧ ∃ n o k : Nat, zf J' 18 = (n : Int) ∧ zf J' 14 = (o : Int) ∧ ws (zv J' 104) n o k ∧ k ≤ 1 ∧ (s = 0 → k = 0) := by
  obtain ⟨he, n, o, k, h1, h2, h3, h4, h5, h6, h7, h8⟩ := h
  have a := he.2.2.2
  obtain ⟨n', k', ⟨q1, q2, q3, q4, q5⟩, q6, q7, q8, q9⟩ := ha (zf I 17) n o k ⟨h1, h5, h0, a.1, h6⟩
  have e : ∀ id, id < 4096 → id ≠ 17 → id ≠ 18 → zf J' id = zf J id := fun id p q r => by unfold zf; rw [hcf.1 id p q r]
  have e14 := e 14 (by decide) (by decide) (by decide)
  have e13 := e 13 (by decide) (by decide) (by decide)
  have e12 := e 12 (by decide) (by decide) (by decide)
  refine ⟨⟨eFr_tr he (eFr_c hcf (by omega) (by omega)), n', o, k', q1, by omega, h3, by rw [e13]; exact h4, q2, q5, by omega, by rw [e13, e12]; intro q; have := h8 q; omega⟩, n', o, k', q1, by omega, q2, q6, q7⟩
/-- a bracket is closed -/
theorem xpA_close {I J J' : zI} {n o : Nat} (h : xpA I J 1) (h18 : zf J 18 = (n : Int)) (h14 : zf J 14 = (o : Int)) (hws : ws (zv J 104) n o 0) (ho : 1 ≤ o) (he : eFr I J') (g18 : zf J' 18 = zf J 18 - 1) (g14 : zf J' 14 = zf J 14 - 1) (g17 : zf J' 17 = zf J 17) (hw2 : ∀ i : Nat, i < 4096 → J' (zid 104 i) = J (zid 104 i)) (hc : ∀ i : Nat, i < 4096 → J' (zid 101 i) = J (zid 101 i) ∧ J' (zid 102 i) = J (zid 102 i)) (ht : zf J 12 ≤ zf J' 12) (ht2 : zf J' 13 = 0 → zf J 13 = 0) (h0 : 0 ≤ zf I 17) (hm : zf J 17 ≤ 840) : xpA I J' 1 := by
  have hb := xpA_b h
  obtain ⟨-, n2, o2, k2, h1, h2, h3, h4, h5, h6, h7, h8⟩ := h
  have en : n2 = n := by omega
  have eo : o2 = o := by omega
  subst en
  subst eo
  obtain ⟨n1, rfl⟩ : ∃ n1, n2 = n1 + 1 := by
    cases n2 with
    | zero => unfold ws at hws; omega
    | succ m => exact ⟨m, rfl⟩
  unfold ws at hws
  have hl := ws_len h5
  rcases hws with ⟨-, -, -, k', q4⟩ | ⟨-, q, -⟩ | ⟨-, ⟨q, -⟩ | ⟨q, -⟩⟩
  · have hl2 := ws_len q4
    refine ⟨he, n1, o2 - 1, k', by omega, by omega, by omega, fun q => ?_, ws_cg (fun i hi => ?_) q4, ?_, by omega, fun q => ?_⟩
    · have := h4 (ht2 q); omega
    · unfold zv
      rw [show (i : Int).toNat = i by omega, hw2 i (by omega)]
    · rw [g17, show n1 - (o2 - 1) + 1 = n1 + 1 - o2 + 1 by omega]
      exact zpx_cg (V := zVs J) (fun i hi => hc ((zf I 17).toNat + i) (by omega)) h6
    · have := h8 (ht2 q); omega
  · omega
  · omega
  · omega
/-- a sign is laid by -/
theorem xpA_sign {I J J' : zI} {n o k : Nat} {x : Int} (h : xpA I J 1) (h18 : zf J 18 = (n : Int)) (h14 : zf J 14 = (o : Int)) (hws : ws (zv J 104) n o k) (hk : ((x = 10 ∨ x = 15) ∧ k ≤ 1) ∨ ((x = 8 ∨ x = 9) ∧ k = 0)) (he : eFr I J') (hf : zf J 13 = 0) (g18 : zf J' 18 = zf J 18 + 1) (g14 : zf J' 14 = zf J 14) (g17 : zf J' 17 = zf J 17) (hw : zv J' 104 (zf J 18) = x) (hw2 : ∀ i : Nat, (i : Int) < zf J 18 → zv J' 104 (i : Int) = zv J 104 (i : Int)) (hc : ∀ i : Nat, i < 4096 → J' (zid 101 i) = J (zid 101 i) ∧ J' (zid 102 i) = J (zid 102 i)) (ht : zf J 12 ≤ zf J' 12) (ht2 : zf J' 13 = 0 → zf J' 12 = zf J 12 + 1) (h0 : 0 ≤ zf I 17) (hm : zf J 17 ≤ 840) : xpA I J' 0 := by
  have hb := xpA_b h
  obtain ⟨-, n2, o2, k2, h1, h2, h3, h4, h5, h6, h7, h8⟩ := h
  have en : n2 = n := by omega
  have eo : o2 = o := by omega
  subst en
  subst eo
  have h4 := h4 hf
  have h8 := h8 hf
  have hl := ws_len h5
  have hcg : ∀ {k}, ws (zv J 104) n2 o2 k → ws (zv J' 104) n2 o2 k := fun q => ws_cg (fun i hi => hw2 i (by omega)) q
  have hw' : zv J' 104 (n2 : Int) = x := by rw [← h1]; exact hw
  have : ∃ k3, ws (zv J' 104) (n2 + 1) o2 k3 := by
    rcases hk with ⟨hx, hk⟩ | ⟨hx, rfl⟩
    · by_cases hk0 : k = 0
      · subst hk0
        exact ⟨2, by unfold ws; exact Or.inr (Or.inr ⟨by omega, Or.inl ⟨rfl, hcg hws⟩⟩)⟩
      · have hk1 : k = 1 := by omega
        subst hk1
        exact ⟨3, by unfold ws; exact Or.inr (Or.inr ⟨by omega, Or.inr ⟨rfl, hcg hws⟩⟩)⟩
    · exact ⟨1, by unfold ws; exact Or.inr (Or.inl ⟨by omega, rfl, hcg hws⟩)⟩
  obtain ⟨k3, hk3⟩ := this
  refine ⟨he, n2 + 1, o2, k3, by omega, by omega, by omega, fun q => by omega, hk3, ?_, by omega, fun q => by have := ht2 q; omega⟩
  rw [g17, show n2 + 1 - o2 + 0 = n2 - o2 + 1 by omega]
  exact zpx_cg (V := zVs J) (fun i hi => hc ((zf I 17).toNat + i) (by omega)) h6
/-- the end: nothing waits -/
theorem xpA_end {I J : zI} {n k : Nat} (h : xpA I J 1) (h18 : zf J 18 = (n : Int)) (h14 : zf J 14 = 0) (hws : ws (zv J 104) n 0 k) (hk : k = 0) : zpx (zVs J) (zf I 17).toNat (zf J 17 - zf I 17).toNat 1 := by
  subst hk
  obtain ⟨-, n2, o2, k2, h1, h2, h3, h4, h5, h6, h7, h8⟩ := h
  have en : n2 = n := by omega
  have eo : o2 = 0 := by omega
  subst en
  subst eo
  have hn : n2 = 0 := by
    cases n2 with
    | zero => rfl
    | succ m => unfold ws at hws; omega
  subst hn
  exact h6
/-- a measure of the expressions' loops -/
def xpmu (J : zI) : Nat := 6 * ((2 * (400 - zf J 12)).toNat + (if zf J 13 = 0 then 1 else 0))
theorem xpmu_d {J J' : zI} (h1 : zf J 12 ≤ zf J' 12) (h2 : zf J' 12 ≤ 400) (h3 : zf J 13 = 0) (h4 : zf J' 13 = 0 → zf J' 12 = zf J 12 + 1) : xpmu J' + 6 ≤ xpmu J := by
  unfold xpmu
  rw [if_pos h3]
  by_cases h : zf J' 13 = 0
  · rw [if_pos h]
    have := h4 h
    omega
  · rw [if_neg h]
    omega
theorem cOK_f {J : zI} {c0 : Int} {n o k : Nat} {v : Int32} (h : cOK J c0 n o k) : cOK (zupd J 13 v) c0 n o k := by
  obtain ⟨h1, h2, h3, h4, h5⟩ := h
  have e18 : zf (zupd J 13 v) 18 = zf J 18 := zf_ne (by decide)
  have e17 : zf (zupd J 13 v) 17 = zf J 17 := zf_ne (by decide)
  have ew : zv (zupd J 13 v) 104 = zv J 104 := by funext i; exact zv_fld _ _ _ _ _ (by decide)
  have ev : zVs (zupd J 13 v) = zVs J := by
    funext kd i
    exact zupd_fr (by unfold zid; omega)
  exact ⟨by rw [e18]; exact h1, by rw [ew]; exact h2, h3, by rw [e17]; exact h4, by rw [e17, ev]; exact h5⟩
theorem xpA_f {I J : zI} {b : Nat} {v : Int32} (h : xpA I J b) (hv : 1 ≤ v.toInt) : xpA I (zupd J 13 v) b := by
  obtain ⟨h0, n, o, k, h1, h2, h3, h4, h5, h6, h7, h8⟩ := h
  have e18 : zf (zupd J 13 v) 18 = zf J 18 := zf_ne (by decide)
  have e17 : zf (zupd J 13 v) 17 = zf J 17 := zf_ne (by decide)
  have e14 : zf (zupd J 13 v) 14 = zf J 14 := zf_ne (by decide)
  have e12 : zf (zupd J 13 v) 12 = zf J 12 := zf_ne (by decide)
  have e13 : zf (zupd J 13 v) 13 = v.toInt := zf_same
  have ew : zv (zupd J 13 v) 104 = zv J 104 := by funext i; exact zv_fld _ _ _ _ _ (by decide)
  have ev : zVs (zupd J 13 v) = zVs J := by
    funext kd i
    exact zupd_fr (by unfold zid; omega)
  refine ⟨eFr_f h0 (by omega) (by omega), n, o, k, by omega, by omega, h3, by omega, by rw [ew]; exact h5, by rw [e17, ev]; exact h6, by omega, by omega⟩
/-- the greater of two -/
def imx (a b : Int) : Int := if a ≤ b then b else a
theorem imx_l (a b : Int) : a ≤ imx a b := by unfold imx; split <;> omega
theorem imx_r (a b : Int) : b ≤ imx a b := by unfold imx; split <;> omega
/-- a term's frame: eFr's, with the branch's two places and the count of branches -/
def tFr (I I' : zI) : Prop := (∀ id, id < 4096 → id ≠ 12 → id ≠ 13 → id ≠ 14 → id ≠ 16 → id ≠ 17 → id ≠ 18 → I' id = I id) ∧ zf I' 16 = zf I 16 + 1 ∧ (∀ kd i, i < 4096 → kd ≠ 99 → kd ≠ 100 → kd ≠ 101 → kd ≠ 102 → kd ≠ 104 → I' (zid kd i) = I (zid kd i)) ∧ (∀ i : Nat, i < 4096 → ¬ (i : Int) = zf I 16 → I' (zid 99 i) = I (zid 99 i) ∧ I' (zid 100 i) = I (zid 100 i)) ∧ (∀ i : Nat, i < 4096 → ((i : Int) < zf I 17 ∨ zf I' 17 ≤ (i : Int)) → I' (zid 101 i) = I (zid 101 i) ∧ I' (zid 102 i) = I (zid 102 i)) ∧ zf I 17 ≤ zf I' 17 ∧ (zf I 12 ≤ zf I' 12 ∧ zf I' 12 ≤ 400) ∧ 0 ≤ zf I' 13 ∧ (¬ zf I 13 = 0 → ¬ zf I' 13 = 0)
/-- a store at the branch, an expression's frame, a store, one branch more -/
theorem tFr_mk {I J : zI} {a x b y v : Int32} (ha : a.toInt = zf I 16) (h0 : 0 ≤ zf I 16) (h1 : zf I 16 < 260) (he : eFr (zupd I (zid 99 a.toInt.toNat) x) J) (hb : b.toInt = zf I 16) (hv : v.toInt = zf I 16 + 1) : tFr I (zupd (zupd J (zid 100 b.toInt.toNat) y) 16 v) := by
  obtain ⟨a1, a2, a3, a4, a5, a6, a7⟩ := he
  have e : ∀ f, f < 4096 → zf (zupd I (zid 99 a.toInt.toNat) x) f = zf I f := fun f hf => zf_arr _ _ _ _ _ hf
  have e2 : ∀ f, f < 4096 → f ≠ 16 → zf (zupd (zupd J (zid 100 b.toInt.toNat) y) 16 v) f = zf J f := fun f hf h16 => by rw [zf_ne h16, zf_arr _ _ _ _ _ hf]
  rw [e 17 (by decide)] at a3 a4
  rw [e 12 (by decide)] at a5
  rw [e 13 (by decide)] at a7
  refine ⟨fun id hl p q r s t u => ?_, by rw [zf_same]; exact hv, fun kd i hi p q r s t => ?_, fun i hi h => ⟨?_, ?_⟩, fun i hi h => ⟨?_, ?_⟩, by rw [e2 17 (by decide) (by decide)]; exact a4, by rw [e2 12 (by decide) (by decide)]; exact a5, by rw [e2 13 (by decide) (by decide)]; exact a6, by rw [e2 13 (by decide) (by decide)]; exact a7⟩
  · rw [zupd_fr s, zupd_hi2 hl, a1 id hl p q r t u, zupd_hi2 hl]
  · rw [zupd_fr (by unfold zid; omega), zupd_fr (by unfold zid; omega), a2 kd i hi r s t, zupd_fr (by unfold zid; omega)]
  · rw [zupd_fr (by unfold zid; omega), zupd_fr (by unfold zid; omega), a2 99 i hi (by decide) (by decide) (by decide), zupd_fr (by unfold zid; omega)]
  · rw [zupd_fr (by unfold zid; omega), zupd_fr (by unfold zid; omega), a2 100 i hi (by decide) (by decide) (by decide), zupd_fr (by unfold zid; omega)]
  · rw [e2 17 (by decide) (by decide)] at h
    rw [zupd_fr (by unfold zid; omega), zupd_fr (by unfold zid; omega), (a3 i hi h).1, zupd_fr (by unfold zid; omega)]
  · rw [e2 17 (by decide) (by decide)] at h
    rw [zupd_fr (by unfold zid; omega), zupd_fr (by unfold zid; omega), (a3 i hi h).2, zupd_fr (by unfold zid; omega)]
/-! names as numbers: exactly c letters -/
def zwx : Nat → Int → Prop
  | 0, v => v = 0
  | c + 1, v => ∃ w d : Int, zwx c w ∧ 1 ≤ d ∧ d ≤ 26 ∧ v = 27 * w + d
theorem zwx_of : ∀ {n : Nat} {v : Int}, zword n v → ∃ c, c ≤ n ∧ zwx c v
  | 0, v, h => ⟨0, Nat.le_refl 0, h⟩
  | n + 1, v, h => by
    unfold zword at h
    rcases h with h | ⟨w, d, h1, h2, h3, h4⟩
    · exact ⟨0, by omega, h⟩
    · obtain ⟨c, hc, hw⟩ := zwx_of h1
      exact ⟨c + 1, by omega, w, d, hw, h2, h3, h4⟩
theorem zwx_nn : ∀ {c : Nat} {v : Int}, zwx c v → 0 ≤ v ∧ (v = 0 ↔ c = 0)
  | 0, v, h => by unfold zwx at h; omega
  | c + 1, v, h => by
    unfold zwx at h
    obtain ⟨w, d, h1, h2, h3, h4⟩ := h
    have := zwx_nn h1
    omega
theorem zwx_dm {c : Nat} {v : Int} (h : zwx (c + 1) v) : zwx c (v / 27) ∧ 1 ≤ v % 27 ∧ v % 27 ≤ 26 := by
  unfold zwx at h
  obtain ⟨w, d, h1, h2, h3, h4⟩ := h
  have := zwx_nn h1
  have e1 : v / 27 = w := by omega
  have e2 : v % 27 = d := by omega
  rw [e1, e2]
  exact ⟨h1, h2, h3⟩
theorem zwx_w : ∀ {c n : Nat} {v : Int}, zwx c v → c ≤ n → zword n v
  | 0, 0, v, h, _ => h
  | 0, n + 1, v, h, _ => by unfold zword; exact Or.inl h
  | c + 1, 0, v, h, hn => by omega
  | c + 1, n + 1, v, h, hn => by
    unfold zwx at h
    obtain ⟨w, d, h1, h2, h3, h4⟩ := h
    unfold zword
    exact Or.inr ⟨w, d, zwx_w h1 (by omega), h2, h3, h4⟩
theorem zwx_b : ∀ {c : Nat} {v : Int}, zwx c v → c ≤ 8 → v ≤ 282429536480
  | 0, v, h, _ => by unfold zwx at h; omega
  | c + 1, v, h, hc => by
    have key : ∀ {c : Nat} {v : Int}, zwx c v → v < (27 : Int) ^ c := by
      intro c
      induction c with
      | zero => intro v h; unfold zwx at h; subst h; decide
      | succ c ih =>
        intro v h
        unfold zwx at h
        obtain ⟨w, d, h1, h2, h3, h4⟩ := h
        have := ih h1
        rw [Int.pow_succ]
        omega
    have h1 := key h
    have h2 : (27 : Int) ^ (c + 1) ≤ (27 : Int) ^ 8 := by
      have : c + 1 = 1 ∨ c + 1 = 2 ∨ c + 1 = 3 ∨ c + 1 = 4 ∨ c + 1 = 5 ∨ c + 1 = 6 ∨ c + 1 = 7 ∨ c + 1 = 8 := by omega
      rcases this with e | e | e | e | e | e | e | e <;> rw [e] <;> decide
    have h3 : (27 : Int) ^ 8 = 282429536481 := by decide
    omega
/-! longs at whole numbers -/
theorem al_bm {x : Int} (h1 : -9223372036854775808 ≤ x) (h2 : x ≤ 9223372036854775807) : x.bmod 18446744073709551616 = x := by
  rw [Int.bmod_def]
  split <;> omega
theorem al_27 : (27 : Int64).toInt = 27 := by decide +kernel
theorem al_div {x : Int64} (h0 : 0 ≤ x.toInt) : (x / 27).toInt = x.toInt / 27 := by
  rw [Int64.toInt_div, al_27, Int.tdiv_eq_ediv_of_nonneg h0]
  have h1 := Int64.toInt_lt x
  exact al_bm (by omega) (by omega)
theorem al_mul {x : Int64} (h0 : 0 ≤ x.toInt) (h1 : x.toInt ≤ 282429536480) : (27 * x).toInt = 27 * x.toInt := by
  rw [Int64.toInt_mul, al_27]
  exact al_bm (by omega) (by omega)
theorem al_add {x y : Int64} (h0 : 0 ≤ x.toInt + y.toInt) (h1 : x.toInt + y.toInt ≤ 9223372036854775807) : (x + y).toInt = x.toInt + y.toInt := by
  rw [Int64.toInt_add]
  exact al_bm (by omega) (by omega)
theorem al_rem {x : Int64} (h0 : 0 ≤ x.toInt) : (x - x / 27 * 27).toInt = x.toInt % 27 := by
  have h1 := Int64.toInt_lt x
  have e1 := al_div h0
  have e2 : (x / 27 * 27).toInt = x.toInt / 27 * 27 := by
    rw [Int64.toInt_mul, al_27, e1]
    exact al_bm (by omega) (by omega)
  rw [Int64.toInt_sub, e2]
  rw [al_bm (by omega) (by omega)]
  omega
theorem al_i2l (x : Int32) : x.toInt64.toInt = x.toInt := Int32.toInt_toInt64 x
theorem al_l2i {x : Int64} (h0 : -2147483648 ≤ x.toInt) (h1 : x.toInt ≤ 2147483647) : x.toInt32.toInt = x.toInt := by
  rw [Int64.toInt_toInt32]
  exact an_bm h0 h1
/-! ===== the reference's parser: what a text's telling may change, what holds meanwhile ===== -/
/-- elements that stand in bounds -/
def eE (I : zI) : Prop := (∀ i : Nat, i < 2 → (0 ≤ (I (zid 84 i)).toInt ∧ (I (zid 84 i)).toInt ≤ 5) ∧ 0 ≤ (I (zid 86 i)).toInt ∧ (I (zid 86 i)).toInt ≤ 7) ∧ ∀ i : Nat, i < 260 → 0 ≤ (I (zid 96 i)).toInt ∧ (I (zid 96 i)).toInt ≤ 1
/-- the live half stays -/
def sFr (I I' : zI) : Prop := (∀ id, id < 4096 → (id < 12 ∨ 19 < id) → I' id = I id) ∧ (∀ kd i, i < 4096 → kd ≠ 84 → kd ≠ 86 → (kd < 94 ∨ 104 < kd) → I' (zid kd i) = I (zid kd i)) ∧ (∀ k, k < 4 → I' (zid 94 (4 * (zf I 22).toNat + k)) = I (zid 94 (4 * (zf I 22).toNat + k)) ∧ I' (zid 95 (4 * (zf I 22).toNat + k)) = I (zid 95 (4 * (zf I 22).toNat + k))) ∧ (∀ b : Nat, 130 * zf I 22 ≤ (b : Int) → (b : Int) < 130 * zf I 22 + 130 → ∀ kd, 96 ≤ kd → kd ≤ 100 → I' (zid kd b) = I (zid kd b)) ∧ (∀ c : Nat, 420 * zf I 22 ≤ (c : Int) → (c : Int) < 420 * zf I 22 + 420 → I' (zid 101 c) = I (zid 101 c) ∧ I' (zid 102 c) = I (zid 102 c))
/-- branches lo .. hi - 1 of the side s are whole, their codes lie below cd -/
def bG (V : Nat → Nat → Int32) (s lo hi cd : Int) : Prop := ∀ b : Nat, lo ≤ (b : Int) → (b : Int) < hi → zbr V s b ∧ (V 100 b).toInt ≤ cd
/-- the laws told so far -/
def sL (I : zI) : Prop := ∀ k : Nat, k < 4 → 0 ≤ zv I 94 (4 * zf I 23 + (k : Int)) ∧ zv I 95 (4 * zf I 23 + (k : Int)) ≤ zf I 16 ∧ bG (zVs I) (zf I 23) (zv I 94 (4 * zf I 23 + (k : Int))) (zv I 95 (4 * zf I 23 + (k : Int))) (zf I 17)
/-- what stands always -/
def pS (I : zI) (m : Int) : Prop := zInv I ∧ (0 ≤ zf I 12 ∧ zf I 12 ≤ 400) ∧ 0 ≤ zf I 13 ∧ zf I 23 = 1 - zf I 22 ∧ (0 ≤ zf I 22 ∧ zf I 22 ≤ 1) ∧ (420 * zf I 23 ≤ zf I 17 ∧ zf I 17 ≤ 420 * zf I 23 + 402) ∧ (130 * zf I 23 ≤ zf I 16 ∧ zf I 16 ≤ 130 * zf I 23 + m) ∧ (0 ≤ zf I 15 ∧ zf I 15 ≤ 12)
/-- what stands as long as no fault is found; c tokens more than four a branch -/
def pG (I : zI) (c : Int) : Prop := zf I 14 = 0 ∧ zf I 17 ≤ 420 * zf I 23 + zf I 12 ∧ zf I 15 = zv I 84 (zf I 23) + zv I 86 (zf I 23) ∧ sL I ∧ 4 * (zf I 16 - 130 * zf I 23) + c ≤ zf I 12
/-- fields 12, 13 alone change; one token on, or a fault -/
def nF (I I' : zI) : Prop := (∀ id, id ≠ 12 → id ≠ 13 → I' id = I id) ∧ 0 ≤ zf I' 13 ∧ (zf I 12 ≤ zf I' 12 ∧ zf I' 12 ≤ 400) ∧ (¬ zf I 13 = 0 → ¬ zf I' 13 = 0) ∧ (zf I' 13 = 0 → zf I 13 = 0 ∧ zf I' 12 = zf I 12 + 1)
/-- a byte of the text -/
def bya (I : zI) (a : Int) : Int := if a < zf I 24 then (I (zid 77 a.toNat) &&& 255).toInt else 0
/-- CapitalCase.feed:(IIIII)I -/
def hpr_275 (d : Nat) (as : List zV) (I : zI) : Prop := 3 ≤ d ∧ ∃ (a : Int32) (b : Int32) (c : Int32) (e : Int32) (f : Int32), as = [.inr (.inl (some 0)), .inl a, .inl b, .inl c, .inl e, .inl f] ∧ (0 ≤ zf I 1 ∧ zf I 1 ≤ 2000)
def hpo_275 (as : List zV) (I : zI) (r : Option zV) (I' : zI) : Prop := ∀ (a : Int32) (b : Int32) (c : Int32) (e : Int32) (f : Int32), as = [.inr (.inl (some 0)), .inl a, .inl b, .inl c, .inl e, .inl f] → (∃ x : Int32, r = some (.inl x) ∧ ((2000 < zf I 1 + 20 ∧ x.toInt = -1 ∧ I = I') ∨ (zf I 1 + 20 ≤ 2000 ∧ ∃ v : Int32, v.toInt = zf I 1 + 20 ∧ x.toInt = zf I 1 + 20 ∧ I' = zupd I 1 v)))
/-- CapitalCaseModel.feed:(IIIII)I -/
def hpr_276 (d : Nat) (as : List zV) (I : zI) : Prop := 3 ≤ d ∧ ∃ (a : Int32) (b : Int32) (c : Int32) (e : Int32) (f : Int32), as = [.inr (.inl (some 75)), .inl a, .inl b, .inl c, .inl e, .inl f] ∧ (0 ≤ zf I 10 ∧ zf I 10 ≤ 2000)
def hpo_276 (as : List zV) (I : zI) (r : Option zV) (I' : zI) : Prop := ∀ (a : Int32) (b : Int32) (c : Int32) (e : Int32) (f : Int32), as = [.inr (.inl (some 75)), .inl a, .inl b, .inl c, .inl e, .inl f] → (∃ x : Int32, r = some (.inl x) ∧ ((2000 < zf I 10 + 20 ∧ x.toInt = -1 ∧ I = I') ∨ (zf I 10 + 20 ≤ 2000 ∧ ∃ v : Int32, v.toInt = zf I 10 + 20 ∧ x.toInt = zf I 10 + 20 ∧ I' = zupd I 10 v)))
/-- CapitalCase.back:(I)I -/
def hpr_277 (d : Nat) (as : List zV) (I : zI) : Prop := 1 ≤ d ∧ ∃ (a : Int32), as = [.inr (.inl (some 0)), .inl a] ∧ (0 ≤ zf I 1 ∧ zf I 1 ≤ 2000)
def hpo_277 (as : List zV) (I : zI) (r : Option zV) (I' : zI) : Prop := ∀ (a : Int32), as = [.inr (.inl (some 0)), .inl a] → (∃ x : Int32, r = some (.inl x) ∧ (((a.toInt < 0 ∨ zf I 1 < a.toInt) ∧ x.toInt = -1 ∧ I = I') ∨ (0 ≤ a.toInt ∧ a.toInt ≤ zf I 1 ∧ ∃ v : Int32, v.toInt = zf I 1 - a.toInt ∧ x.toInt = zf I 1 - a.toInt ∧ I' = zupd I 1 v)))
/-- CapitalCaseModel.back:(I)I -/
def hpr_278 (d : Nat) (as : List zV) (I : zI) : Prop := 1 ≤ d ∧ ∃ (a : Int32), as = [.inr (.inl (some 75)), .inl a] ∧ (0 ≤ zf I 10 ∧ zf I 10 ≤ 2000)
def hpo_278 (as : List zV) (I : zI) (r : Option zV) (I' : zI) : Prop := ∀ (a : Int32), as = [.inr (.inl (some 75)), .inl a] → (∃ x : Int32, r = some (.inl x) ∧ (((a.toInt < 0 ∨ zf I 10 < a.toInt) ∧ x.toInt = -1 ∧ I = I') ∨ (0 ≤ a.toInt ∧ a.toInt ≤ zf I 10 ∧ ∃ v : Int32, v.toInt = zf I 10 - a.toInt ∧ x.toInt = zf I 10 - a.toInt ∧ I' = zupd I 10 v)))
/-- CapitalCase$Judge.reckon:(III)I -/
def hpr_280 (d : Nat) (as : List zV) (I : zI) : Prop := 1 ≤ d ∧ ∃ (a : Int32) (b : Int32) (c : Int32), as = [.inl a, .inl b, .inl c] ∧ (True)
def hpo_280 (as : List zV) (I : zI) (r : Option zV) (I' : zI) : Prop := ∀ (a : Int32) (b : Int32) (c : Int32), as = [.inl a, .inl b, .inl c] → (∃ x : Int32, r = some (.inl x) ∧ I = I')
/-- CapitalCase$Script.add:(II)V -/
def hpr_282 (d : Nat) (as : List zV) (I : zI) : Prop := 1 ≤ d ∧ ∃ (a : Int32) (b : Int32), as = [.inr (.inl (some 13)), .inl a, .inl b] ∧ (0 ≤ zf I 4 ∧ zf I 4 ≤ 408)
def hpo_282 (as : List zV) (I : zI) (r : Option zV) (I' : zI) : Prop := ∀ (a : Int32) (b : Int32), as = [.inr (.inl (some 13)), .inl a, .inl b] → (r = none ∧ ((zf I 4 = 408 ∧ I = I') ∨ (zf I 4 < 408 ∧ ∃ i v : Int32, i.toInt = zf I 4 ∧ v.toInt = zf I 4 + 1 ∧ I' = zupd (zupd (zupd I (zid 21 i.toInt.toNat) a) (zid 22 i.toInt.toNat) b) 4 v)))
/-- CapitalCase$Script.leadOn:(I)V -/
def hpr_265 (d : Nat) (as : List zV) (I : zI) : Prop := 1 ≤ d ∧ ∃ (a : Int32), as = [.inr (.inl (some 13)), .inl a] ∧ (0 ≤ zf I 4 ∧ zf I 4 ≤ 408)
def hpo_265 (as : List zV) (I : zI) (r : Option zV) (I' : zI) : Prop := ∀ (a : Int32), as = [.inr (.inl (some 13)), .inl a] → (r = none ∧ (((a.toInt < 0 ∨ 408 ≤ a.toInt) ∧ I = I') ∨ (0 ≤ a.toInt ∧ a.toInt < 408 ∧ ∃ v : Int32, v.toInt = zf I 4 ∧ I' = zupd I (zid 22 a.toInt.toNat) v)))
/-- CapitalCase$Parser.next:()I -/
def hpr_283 (d : Nat) (as : List zV) (I : zI) : Prop := 1 ≤ d ∧ as = [.inr (.inl (some 12))] ∧ (0 ≤ zf I 2 ∧ zf I 2 ≤ 400)
def hpo_283 (as : List zV) (I : zI) (r : Option zV) (I' : zI) : Prop := as = [.inr (.inl (some 12))] → (∃ x : Int32, r = some (.inl x) ∧ x.toInt = zv I 24 (zf I 2) ∧ I = I')
/-- CapitalCase$Parser.accept:(I)Z -/
def hpr_284 (d : Nat) (as : List zV) (I : zI) : Prop := 3 ≤ d ∧ ∃ (a : Int32), as = [.inr (.inl (some 12)), .inl a] ∧ (0 ≤ zf I 2 ∧ zf I 2 ≤ 400 ∧ zInv I)
def hpo_284 (as : List zV) (I : zI) (r : Option zV) (I' : zI) : Prop := ∀ (a : Int32), as = [.inr (.inl (some 12)), .inl a] → (∃ x : Int32, r = some (.inl x) ∧ ((x.toInt = 0 ∧ I = I') ∨ (x.toInt = 1 ∧ zv I 24 (zf I 2) = a.toInt ∧ zf I 2 ≤ 399 ∧ ∃ v : Int32, v.toInt = zf I 2 + 1 ∧ I' = zupd I 2 v)))
/-- CapitalCase$Parser.letterOf:(II)I -/
def hpr_269 (d : Nat) (as : List zV) (I : zI) : Prop := 1 ≤ d ∧ ∃ (a : Int32) (b : Int32), as = [.inr (.inl (some 12)), .inl a, .inl b] ∧ (0 ≤ a.toInt ∧ a.toInt ≤ 400 ∧ 0 ≤ b.toInt ∧ b.toInt < zv I 26 a.toInt ∧ zInv I)
def hpo_269 (as : List zV) (I : zI) (r : Option zV) (I' : zI) : Prop := ∀ (a : Int32) (b : Int32), as = [.inr (.inl (some 12)), .inl a, .inl b] → (∃ x : Int32, r = some (.inl x) ∧ -225 ≤ x.toInt ∧ x.toInt ≤ 30 ∧ I = I')
/-- CapitalCase$Parser.areLetters:(I)Z -/
def hpr_270 (d : Nat) (as : List zV) (I : zI) : Prop := 2 ≤ d ∧ ∃ (a : Int32), as = [.inr (.inl (some 12)), .inl a] ∧ (0 ≤ a.toInt ∧ a.toInt ≤ 400 ∧ zInv I)
def hpo_270 (as : List zV) (I : zI) (r : Option zV) (I' : zI) : Prop := ∀ (a : Int32), as = [.inr (.inl (some 12)), .inl a] → (∃ x : Int32, r = some (.inl x) ∧ 0 ≤ x.toInt ∧ x.toInt ≤ 1 ∧ I = I')
/-- CapitalCase$Parser.parseUnit:(I)Z -/
def hpr_268 (d : Nat) (as : List zV) (I : zI) : Prop := ∃ (a : Int32), as = [.inr (.inl (some 12)), .inl a] ∧ 20 + (18 - 3 * a.toInt).toNat ≤ d ∧ (0 ≤ a.toInt ∧ a.toInt ≤ 6 ∧ 0 ≤ zf I 2 ∧ zf I 2 ≤ 400 ∧ 0 ≤ zf I 4 ∧ zf I 4 ≤ 408 ∧ zInv I)
def hpo_268 (as : List zV) (I : zI) (r : Option zV) (I' : zI) : Prop := ∀ (a : Int32), as = [.inr (.inl (some 12)), .inl a] → (∃ x : Int32, r = some (.inl x) ∧ 0 ≤ x.toInt ∧ x.toInt ≤ 1 ∧ pFr I I')
/-- CapitalCase$Parser.parsePart:(I)Z -/
def hpr_267 (d : Nat) (as : List zV) (I : zI) : Prop := ∃ (a : Int32), as = [.inr (.inl (some 12)), .inl a] ∧ 21 + (18 - 3 * a.toInt).toNat ≤ d ∧ (0 ≤ a.toInt ∧ a.toInt ≤ 6 ∧ 0 ≤ zf I 2 ∧ zf I 2 ≤ 400 ∧ 0 ≤ zf I 4 ∧ zf I 4 ≤ 408 ∧ zInv I)
def hpo_267 (as : List zV) (I : zI) (r : Option zV) (I' : zI) : Prop := ∀ (a : Int32), as = [.inr (.inl (some 12)), .inl a] → (∃ x : Int32, r = some (.inl x) ∧ 0 ≤ x.toInt ∧ x.toInt ≤ 1 ∧ pFr I I')
/-- CapitalCase$Parser.parseSum:(I)Z -/
def hpr_266 (d : Nat) (as : List zV) (I : zI) : Prop := ∃ (a : Int32), as = [.inr (.inl (some 12)), .inl a] ∧ 22 + (18 - 3 * a.toInt).toNat ≤ d ∧ (0 ≤ a.toInt ∧ a.toInt ≤ 6 ∧ 0 ≤ zf I 2 ∧ zf I 2 ≤ 400 ∧ 0 ≤ zf I 4 ∧ zf I 4 ≤ 408 ∧ zInv I)
def hpo_266 (as : List zV) (I : zI) (r : Option zV) (I' : zI) : Prop := ∀ (a : Int32), as = [.inr (.inl (some 12)), .inl a] → (∃ x : Int32, r = some (.inl x) ∧ 0 ≤ x.toInt ∧ x.toInt ≤ 1 ∧ pFr I I')
/-- CapitalCaseModel.termOf:(II)I -/
def hpr_264 (d : Nat) (as : List zV) (I : zI) : Prop := 1 ≤ d ∧ ∃ (a : Int32) (b : Int32), as = [.inr (.inl (some 75)), .inl a, .inl b] ∧ (∃ h : Int, (h = 0 ∨ h = 420) ∧ zprI I h a.toInt b.toInt)
def hpo_264 (as : List zV) (I : zI) (r : Option zV) (I' : zI) : Prop := ∀ (a : Int32) (b : Int32), as = [.inr (.inl (some 75)), .inl a, .inl b] → (∃ x : Int32, r = some (.inl x) ∧ I = I')
/-- CapitalCaseModel.emit:(II)V -/
def hpr_260 (d : Nat) (as : List zV) (I : zI) : Prop := 1 ≤ d ∧ ∃ (a : Int32) (b : Int32), as = [.inr (.inl (some 75)), .inl a, .inl b] ∧ (0 ≤ zf I 17 ∧ zf I 17 ≤ 839)
def hpo_260 (as : List zV) (I : zI) (r : Option zV) (I' : zI) : Prop := ∀ (a : Int32) (b : Int32), as = [.inr (.inl (some 75)), .inl a, .inl b] → (r = none ∧ ∃ i v : Int32, i.toInt = zf I 17 ∧ v.toInt = zf I 17 + 1 ∧ I' = zupd (zupd (zupd I (zid 101 i.toInt.toNat) a) (zid 102 i.toInt.toNat) b) 17 v)
/-- CapitalCaseModel.is:(I)Z -/
def hpr_285 (d : Nat) (as : List zV) (I : zI) : Prop := 1 ≤ d ∧ ∃ (a : Int32), as = [.inr (.inl (some 75)), .inl a] ∧ (0 ≤ zf I 12 ∧ zf I 12 ≤ 400)
def hpo_285 (as : List zV) (I : zI) (r : Option zV) (I' : zI) : Prop := ∀ (a : Int32), as = [.inr (.inl (some 75)), .inl a] → (∃ x : Int32, r = some (.inl x) ∧ I = I' ∧ ((x.toInt = 1 ∧ zf I 13 = 0 ∧ zv I 78 (zf I 12) = a.toInt) ∨ (x.toInt = 0 ∧ ¬ (zf I 13 = 0 ∧ zv I 78 (zf I 12) = a.toInt))))
/-- CapitalCaseModel.comesOut:(Z)V -/
def hpr_261 (d : Nat) (as : List zV) (I : zI) : Prop := 2 ≤ d ∧ ∃ (a : Int32), as = [.inr (.inl (some 75)), .inl a] ∧ ((0 ≤ a.toInt ∧ a.toInt ≤ 1) ∧ ∃ (c0 : Int) (n o k : Nat), cOK I c0 n o k ∧ zf I 17 + (n : Int) ≤ 839 ∧ n ≤ 63)
def hpo_261 (as : List zV) (I : zI) (r : Option zV) (I' : zI) : Prop := ∀ (a : Int32), as = [.inr (.inl (some 75)), .inl a] → (r = none ∧ cFr I I' ∧ ∀ (c0 : Int) (n o k : Nat), cOK I c0 n o k → ∃ n' k' : Nat, cOK I' c0 n' o k' ∧ k' ≤ 1 ∧ (a.toInt = 0 → k' = 0) ∧ zf I' 17 + (n' : Int) = zf I 17 + (n : Int) ∧ n' ≤ n)
/-- CapitalCaseModel.unit:()V -/
def hpr_263 (d : Nat) (as : List zV) (I : zI) : Prop := 3 ≤ d ∧ as = [.inr (.inl (some 75))] ∧ ((0 ≤ zf I 12 ∧ zf I 12 ≤ 400) ∧ 0 ≤ zf I 13 ∧ 0 ≤ zf I 17 ∧ zf I 17 ≤ 839)
def hpo_263 (as : List zV) (I : zI) (r : Option zV) (I' : zI) : Prop := as = [.inr (.inl (some 75))] → (r = none ∧ eFr I I' ∧ I' 14 = I 14 ∧ I' 18 = I 18 ∧ (∀ i : Nat, i < 4096 → I' (zid 104 i) = I (zid 104 i)) ∧ zf I' 17 ≤ zf I 17 + 1 ∧ (¬ zf I 13 = 0 → zf I' 17 = zf I 17) ∧ (zf I' 13 = 0 → zf I 13 = 0 ∧ zf I' 12 = zf I 12 + 1 ∧ zf I' 17 = zf I 17 + 1 ∧ (zv I' 101 (zf I 17) = 0 ∨ (zv I' 101 (zf I 17) = 1 ∧ 0 ≤ zv I' 102 (zf I 17) ∧ zv I' 102 (zf I 17) ≤ 8))))
/-- CapitalCaseModel.expression:()V -/
def hpr_262 (d : Nat) (as : List zV) (I : zI) : Prop := 5 ≤ d ∧ as = [.inr (.inl (some 75))] ∧ ((0 ≤ zf I 12 ∧ zf I 12 ≤ 400) ∧ 0 ≤ zf I 13 ∧ (zf I 13 = 0 → zf I 14 = 0 ∧ (zf I 23 = 0 ∨ zf I 23 = 1) ∧ 420 * zf I 23 ≤ zf I 17 ∧ zf I 17 ≤ 420 * zf I 23 + zf I 12))
def hpo_262 (as : List zV) (I : zI) (r : Option zV) (I' : zI) : Prop := as = [.inr (.inl (some 75))] → (r = none ∧ eFr I I' ∧ (zf I 13 = 0 → zf I' 17 ≤ 420 * zf I 23 + zf I' 12 + 1) ∧ (zf I' 13 = 0 → zf I 13 = 0 ∧ zf I' 17 ≤ 420 * zf I 23 + zf I' 12 ∧ zf I' 14 = 0 ∧ zf I 12 + 1 ≤ zf I' 12 ∧ zpx (zVs I') (zf I 17).toNat (zf I' 17 - zf I 17).toNat 1) ∧ (¬ zf I 13 = 0 → zf I' 17 = zf I 17 ∧ zf I' 12 = zf I 12))
/-- CapitalCaseModel.term:()V -/
def hpr_259 (d : Nat) (as : List zV) (I : zI) : Prop := 6 ≤ d ∧ as = [.inr (.inl (some 75))] ∧ ((0 ≤ zf I 12 ∧ zf I 12 ≤ 400) ∧ 0 ≤ zf I 13 ∧ (zf I 23 = 0 ∨ zf I 23 = 1) ∧ (0 ≤ zf I 16 ∧ zf I 16 < 260) ∧ (zf I 13 = 0 → zf I 14 = 0 ∧ 420 * zf I 23 ≤ zf I 17 ∧ zf I 17 ≤ 420 * zf I 23 + zf I 12))
def hpo_259 (as : List zV) (I : zI) (r : Option zV) (I' : zI) : Prop := as = [.inr (.inl (some 75))] → (r = none ∧ tFr I I' ∧ (zf I' 13 = 0 → zf I 13 = 0 ∧ zf I' 14 = 0 ∧ zf I' 17 ≤ 420 * zf I 23 + zf I' 12 ∧ zf I 12 + 1 ≤ zf I' 12 ∧ zv I' 99 (zf I 16) = zf I 17 ∧ zv I' 100 (zf I 16) = zf I' 17 ∧ zpx (zVs I') (zf I 17).toNat (zf I' 17 - zf I 17).toNat 1) ∧ (¬ zf I 13 = 0 → zf I' 17 = zf I 17 ∧ zf I' 12 = zf I 12) ∧ zf I' 17 ≤ imx (420 * zf I 23 + zf I' 12 + 1) (zf I 17))
/-- CapitalCaseModel.token:(IIIJ)V -/
def hpr_247 (d : Nat) (as : List zV) (I : zI) : Prop := 1 ≤ d ∧ ∃ (a : Int32) (b : Int32) (c : Int32) (x : Int64), as = [.inr (.inl (some 75)), .inl a, .inl b, .inl c, .inr (.inr x)] ∧ ((0 ≤ zf I 11 ∧ zf I 11 ≤ 402) ∧ zword 8 x.toInt)
def hpo_247 (as : List zV) (I : zI) (r : Option zV) (I' : zI) : Prop := ∀ (a : Int32) (b : Int32) (c : Int32) (x : Int64), as = [.inr (.inl (some 75)), .inl a, .inl b, .inl c, .inr (.inr x)] → (r = none ∧ ∃ i v : Int32, i.toInt = zf I 11 ∧ v.toInt = zf I 11 + 1 ∧ I' = zupd (zupd I (zid 78 i.toInt.toNat) a) 11 v)
/-- CapitalCaseModel.named:()I -/
def hpr_281 (d : Nat) (as : List zV) (I : zI) : Prop := 5 ≤ d ∧ as = [.inr (.inl (some 75))] ∧ ((0 ≤ zf I 12 ∧ zf I 12 ≤ 400) ∧ 0 ≤ zf I 13 ∧ (0 ≤ zf I 15 ∧ zf I 15 ≤ 12) ∧ zInv I)
def hpo_281 (as : List zV) (I : zI) (r : Option zV) (I' : zI) : Prop := as = [.inr (.inl (some 75))] → (∃ x : Int32, r = some (.inl x) ∧ x.toInt = zf I 12 ∧ zInv I' ∧ (∀ id, id ≠ 12 → id ≠ 13 → I' id = I id) ∧ 0 ≤ zf I' 13 ∧ (zf I 12 ≤ zf I' 12 ∧ zf I' 12 ≤ 400) ∧ (¬ zf I 13 = 0 → ¬ zf I' 13 = 0) ∧ (zf I' 13 = 0 → zf I 13 = 0 ∧ zf I' 12 = zf I 12 + 1))
/-- CapitalCaseModel.ends:(I)V -/
def hpr_252 (d : Nat) (as : List zV) (I : zI) : Prop := 5 ≤ d ∧ ∃ (a : Int32), as = [.inr (.inl (some 75)), .inl a] ∧ ((0 ≤ zf I 12 ∧ zf I 12 ≤ 400) ∧ 0 ≤ zf I 13 ∧ (0 ≤ zf I 15 ∧ (zf I 13 = 0 → zf I 15 ≤ 11)) ∧ (0 ≤ a.toInt ∧ a.toInt ≤ 400) ∧ zInv I)
def hpo_252 (as : List zV) (I : zI) (r : Option zV) (I' : zI) : Prop := ∀ (a : Int32), as = [.inr (.inl (some 75)), .inl a] → (r = none ∧ zInv I' ∧ (∀ id, id ≠ 12 → id ≠ 13 → id ≠ 15 → I' id = I id) ∧ 0 ≤ zf I' 13 ∧ (zf I 12 ≤ zf I' 12 ∧ zf I' 12 ≤ 400) ∧ (¬ zf I 13 = 0 → ¬ zf I' 13 = 0) ∧ (zf I' 13 = 0 → zf I 13 = 0 ∧ zf I' 12 = zf I 12 + 1) ∧ (zf I' 13 = 0 → zf I' 15 = zf I 15 + 1) ∧ (¬ zf I' 13 = 0 → zf I' 15 = zf I 15))
/-- CapitalCaseModel.plain:(I)V -/
def hpr_250 (d : Nat) (as : List zV) (I : zI) : Prop := 1 ≤ d ∧ ∃ (a : Int32), as = [.inr (.inl (some 75)), .inl a] ∧ (0 ≤ a.toInt ∧ a.toInt ≤ 1)
def hpo_250 (as : List zV) (I : zI) (r : Option zV) (I' : zI) : Prop := ∀ (a : Int32), as = [.inr (.inl (some 75)), .inl a] → (r = none ∧ (∀ id, id < 4096 → I' id = I id) ∧ (∀ kd i, i < 4096 → kd ≠ 84 → kd ≠ 86 → kd ≠ 94 → kd ≠ 95 → I' (zid kd i) = I (zid kd i)) ∧ (∀ i : Nat, i < 4096 → ¬ (i : Int) = a.toInt → I' (zid 84 i) = I (zid 84 i) ∧ I' (zid 86 i) = I (zid 86 i)) ∧ (zv I' 84 a.toInt = 0 ∧ zv I' 86 a.toInt = 0) ∧ (∀ i : Nat, i < 4096 → ((i : Int) < 4 * a.toInt ∨ 4 * a.toInt + 4 ≤ (i : Int)) → I' (zid 94 i) = I (zid 94 i) ∧ I' (zid 95 i) = I (zid 95 i)) ∧ (∀ k : Nat, k < 4 → zv I' 94 (4 * a.toInt + (k : Int)) = 0 ∧ zv I' 95 (4 * a.toInt + (k : Int)) = 0))
/-- CapitalCaseModel.sign:(III)I -/
def hpr_248 (d : Nat) (as : List zV) (I : zI) : Prop := 3 ≤ d ∧ ∃ (a : Int32) (b : Int32) (c : Int32), as = [.inr (.inl (some 75)), .inl a, .inl b, .inl c] ∧ (0 ≤ zf I 11 ∧ zf I 11 ≤ 402)
def hpo_248 (as : List zV) (I : zI) (r : Option zV) (I' : zI) : Prop := ∀ (a : Int32) (b : Int32) (c : Int32), as = [.inr (.inl (some 75)), .inl a, .inl b, .inl c] → (∃ x : Int32, r = some (.inl x) ∧ x.toInt = 1 ∧ ∃ i v k : Int32, i.toInt = zf I 11 ∧ v.toInt = zf I 11 + 1 ∧ (0 ≤ k.toInt ∧ k.toInt ≤ 40) ∧ I' = zupd (zupd I (zid 78 i.toInt.toNat) k) 11 v)
/-- CapitalCaseModel.appends:(JI)J -/
def hpr_249 (d : Nat) (as : List zV) (I : zI) : Prop := 1 ≤ d ∧ ∃ (x : Int64) (a : Int32), as = [.inr (.inr x), .inl a] ∧ (∃ c : Nat, c ≤ 7 ∧ zwx c x.toInt ∧ 97 ≤ a.toInt ∧ a.toInt ≤ 122)
def hpo_249 (as : List zV) (I : zI) (r : Option zV) (I' : zI) : Prop := ∀ (x : Int64) (a : Int32), as = [.inr (.inr x), .inl a] → (∃ y : Int64, r = some (.inr (.inr y)) ∧ I = I' ∧ ∀ c : Nat, zwx c x.toInt → zwx (c + 1) y.toInt)
/-- CapitalCaseModel.lettersIn:(J)I -/
def hpr_254 (d : Nat) (as : List zV) (I : zI) : Prop := 1 ≤ d ∧ ∃ (x : Int64), as = [.inr (.inr x)] ∧ (∃ c : Nat, c ≤ 8 ∧ zwx c x.toInt)
def hpo_254 (as : List zV) (I : zI) (r : Option zV) (I' : zI) : Prop := ∀ (x : Int64), as = [.inr (.inr x)] → (∃ y : Int32, r = some (.inl y) ∧ I = I' ∧ ∃ c : Nat, c ≤ 8 ∧ zwx c x.toInt ∧ y.toInt = (c : Int))
/-- CapitalCaseModel.letterIn:(JI)I -/
def hpr_255 (d : Nat) (as : List zV) (I : zI) : Prop := 2 ≤ d ∧ ∃ (x : Int64) (a : Int32), as = [.inr (.inr x), .inl a] ∧ (∃ c : Nat, c ≤ 8 ∧ zwx c x.toInt ∧ 0 ≤ a.toInt ∧ a.toInt < (c : Int))
def hpo_255 (as : List zV) (I : zI) (r : Option zV) (I' : zI) : Prop := ∀ (x : Int64) (a : Int32), as = [.inr (.inr x), .inl a] → (∃ y : Int32, r = some (.inl y) ∧ I = I' ∧ 0 ≤ y.toInt ∧ y.toInt ≤ 25)
/-- CapitalCaseModel.takesLetters:()V -/
def hpr_253 (d : Nat) (as : List zV) (I : zI) : Prop := 5 ≤ d ∧ as = [.inr (.inl (some 75))] ∧ ((0 ≤ zf I 12 ∧ zf I 12 ≤ 400) ∧ 0 ≤ zf I 13 ∧ zInv I)
def hpo_253 (as : List zV) (I : zI) (r : Option zV) (I' : zI) : Prop := as = [.inr (.inl (some 75))] → (r = none ∧ (∀ id, id < 4096 → id ≠ 12 → id ≠ 13 → id ≠ 19 → I' id = I id) ∧ (∀ kd i, i < 4096 → kd ≠ 103 → I' (zid kd i) = I (zid kd i)) ∧ 0 ≤ zf I' 13 ∧ (zf I 12 ≤ zf I' 12 ∧ zf I' 12 ≤ 400) ∧ (¬ zf I 13 = 0 → ¬ zf I' 13 = 0) ∧ (zf I' 13 = 0 → zf I 13 = 0 ∧ zf I' 12 = zf I 12 + 1) ∧ (0 ≤ zf I' 19 ∧ zf I' 19 ≤ 8) ∧ ∀ i : Nat, (i : Int) < zf I' 19 → 0 ≤ zv I' 103 (i : Int) ∧ zv I' 103 (i : Int) ≤ 7)
/-- CapitalCaseModel.tellHouse:()V -/
def hpr_256 (d : Nat) (as : List zV) (I : zI) : Prop := 8 ≤ d ∧ as = [.inr (.inl (some 75))] ∧ (pS I 100 ∧ zf I 13 = 0 ∧ pG I 0 ∧ zv I 84 (zf I 23) ≤ 4)
def hpo_256 (as : List zV) (I : zI) (r : Option zV) (I' : zI) : Prop := as = [.inr (.inl (some 75))] → (r = none ∧ sFr I I' ∧ pS I' 110 ∧ (zf I' 13 = 0 → zf I 12 + 1 ≤ zf I' 12 ∧ pG I' 0))
/-- CapitalCaseModel.tellVerse:()V -/
def hpr_257 (d : Nat) (as : List zV) (I : zI) : Prop := 8 ≤ d ∧ as = [.inr (.inl (some 75))] ∧ (pS I 100 ∧ zf I 13 = 0 ∧ pG I 0 ∧ zv I 86 (zf I 23) ≤ 6)
def hpo_257 (as : List zV) (I : zI) (r : Option zV) (I' : zI) : Prop := as = [.inr (.inl (some 75))] → (r = none ∧ sFr I I' ∧ pS I' 110 ∧ (zf I' 13 = 0 → zf I 12 + 1 ≤ zf I' 12 ∧ pG I' 0))
/-- CapitalCaseModel.tellLaw:(I)V -/
def hpr_258 (d : Nat) (as : List zV) (I : zI) : Prop := 8 ≤ d ∧ ∃ (a : Int32), as = [.inr (.inl (some 75)), .inl a] ∧ (pS I 100 ∧ (zf I 13 = 0 → pG I 1) ∧ (0 ≤ a.toInt ∧ a.toInt ≤ 3))
def hpo_258 (as : List zV) (I : zI) (r : Option zV) (I' : zI) : Prop := ∀ (a : Int32), as = [.inr (.inl (some 75)), .inl a] → (r = none ∧ sFr I I' ∧ pS I' 110 ∧ (zf I' 13 = 0 → zf I 12 + 1 ≤ zf I' 12 ∧ pG I' 0))
/-- CapitalCaseModel.tellOne:()V -/
def hpr_251 (d : Nat) (as : List zV) (I : zI) : Prop := 10 ≤ d ∧ as = [.inr (.inl (some 75))] ∧ (pS I 100 ∧ zf I 13 = 0 ∧ pG I 0)
def hpo_251 (as : List zV) (I : zI) (r : Option zV) (I' : zI) : Prop := as = [.inr (.inl (some 75))] → (r = none ∧ sFr I I' ∧ pS I' 110 ∧ (zf I' 13 = 0 → zf I 12 + 1 ≤ zf I' 12 ∧ pG I' 0))
/-- CapitalCaseModel.byteAt:(I)I -/
def hpr_287 (d : Nat) (as : List zV) (I : zI) : Prop := 1 ≤ d ∧ ∃ (a : Int32), as = [.inr (.inl (some 75)), .inl a] ∧ ((0 ≤ a.toInt ∧ a.toInt ≤ 8000) ∧ 0 ≤ zf I 24 ∧ zf I 24 ≤ 2000)
def hpo_287 (as : List zV) (I : zI) (r : Option zV) (I' : zI) : Prop := ∀ (a : Int32), as = [.inr (.inl (some 75)), .inl a] → (∃ x : Int32, r = some (.inl x) ∧ x.toInt = bya I a.toInt ∧ I = I')
/-- CapitalCaseModel.cut:()V -/
def hpr_246 (d : Nat) (as : List zV) (I : zI) : Prop := 6 ≤ d ∧ as = [.inr (.inl (some 75))] ∧ (zInv I ∧ 0 ≤ zf I 24 ∧ zf I 24 ≤ 2000)
def hpo_246 (as : List zV) (I : zI) (r : Option zV) (I' : zI) : Prop := as = [.inr (.inl (some 75))] → (r = none ∧ (∀ id, id < 4096 → id ≠ 11 → I' id = I id) ∧ (∀ kd i, i < 4096 → kd ≠ 78 → I' (zid kd i) = I (zid kd i)) ∧ zInv I')
/-- CapitalCaseModel.roomFor:(II)V -/
def hpr_286 (d : Nat) (as : List zV) (I : zI) : Prop := 3 ≤ d ∧ ∃ (a : Int32) (b : Int32), as = [.inr (.inl (some 75)), .inl a, .inl b] ∧ ((0 ≤ zf I 12 ∧ zf I 12 ≤ 400) ∧ 0 ≤ zf I 13)
def hpo_286 (as : List zV) (I : zI) (r : Option zV) (I' : zI) : Prop := ∀ (a : Int32) (b : Int32), as = [.inr (.inl (some 75)), .inl a, .inl b] → (r = none ∧ nF I I' ∧ (zf I' 13 = 0 → ¬ a.toInt = b.toInt))
/-- CapitalCase$Tokens.sizeAt:([BII)I -/
def hpr_274 (d : Nat) (as : List zV) (I : zI) : Prop := 2 ≤ d ∧ ∃ (a : Int32) (b : Int32), as = [.inr (.inl (some 1)), .inl a, .inl b] ∧ (0 ≤ b.toInt ∧ b.toInt < a.toInt ∧ a.toInt ≤ 2000)
def hpo_274 (as : List zV) (I : zI) (r : Option zV) (I' : zI) : Prop := ∀ (a : Int32) (b : Int32), as = [.inr (.inl (some 1)), .inl a, .inl b] → (∃ x : Int32, r = some (.inl x) ∧ (1 ≤ x.toInt ∧ x.toInt ≤ a.toInt - b.toInt) ∧ I = I')
/-- CapitalCase$Tokens.kindOf:([BII)I -/
def hpr_271 (d : Nat) (as : List zV) (I : zI) : Prop := 8 ≤ d ∧ ∃ (a : Int32) (b : Int32), as = [.inr (.inl (some 1)), .inl a, .inl b] ∧ (0 ≤ a.toInt ∧ 1 ≤ b.toInt ∧ a.toInt + b.toInt ≤ 2000)
def hpo_271 (as : List zV) (I : zI) (r : Option zV) (I' : zI) : Prop := ∀ (a : Int32) (b : Int32), as = [.inr (.inl (some 1)), .inl a, .inl b] → (∃ x : Int32, r = some (.inl x) ∧ (1 ≤ x.toInt ∧ x.toInt ≤ 148) ∧ (x.toInt = 2 → b.toInt ≤ 8) ∧ I = I')
/-- CapitalCase$Tokens.wordOrName:([BII)I -/
def hpr_272 (d : Nat) (as : List zV) (I : zI) : Prop := 7 ≤ d ∧ ∃ (a : Int32) (b : Int32), as = [.inr (.inl (some 1)), .inl a, .inl b] ∧ (0 ≤ a.toInt ∧ 1 ≤ b.toInt ∧ b.toInt ≤ 8 ∧ a.toInt + b.toInt ≤ 2000)
def hpo_272 (as : List zV) (I : zI) (r : Option zV) (I' : zI) : Prop := ∀ (a : Int32) (b : Int32), as = [.inr (.inl (some 1)), .inl a, .inl b] → (∃ x : Int32, r = some (.inl x) ∧ (2 ≤ x.toInt ∧ x.toInt ≤ 148) ∧ I = I')
/-- CapitalCase$Tokens.isWord:(I[BII)Z -/
def hpr_273 (d : Nat) (as : List zV) (I : zI) : Prop := 6 ≤ d ∧ ∃ (a : Int32) (b : Int32) (c : Int32), as = [.inl a, .inr (.inl (some 1)), .inl b, .inl c] ∧ ((0 ≤ a.toInt ∧ a.toInt ≤ 20) ∧ 0 ≤ b.toInt ∧ 1 ≤ c.toInt ∧ c.toInt ≤ 8 ∧ b.toInt + c.toInt ≤ 2000)
def hpo_273 (as : List zV) (I : zI) (r : Option zV) (I' : zI) : Prop := ∀ (a : Int32) (b : Int32) (c : Int32), as = [.inl a, .inr (.inl (some 1)), .inl b, .inl c] → (∃ x : Int32, r = some (.inl x) ∧ (0 ≤ x.toInt ∧ x.toInt ≤ 1) ∧ I = I')
/-- CapitalCaseModel.in:(III)Z -/
def hpr_288 (d : Nat) (as : List zV) (I : zI) : Prop := 1 ≤ d ∧ ∃ (a : Int32) (b : Int32) (c : Int32), as = [.inl a, .inl b, .inl c] ∧ (True)
def hpo_288 (as : List zV) (I : zI) (r : Option zV) (I' : zI) : Prop := ∀ (a : Int32) (b : Int32) (c : Int32), as = [.inl a, .inl b, .inl c] → (∃ x : Int32, r = some (.inl x) ∧ I = I' ∧ ((x.toInt = 1 ∧ b.toInt ≤ a.toInt ∧ a.toInt ≤ c.toInt) ∨ (x.toInt = 0 ∧ (a.toInt < b.toInt ∨ c.toInt < a.toInt))))
def hpre (d j : Nat) (as : List zV) (I : zI) : Prop := match j with
  | 275 => hpr_275 d as I
  | 276 => hpr_276 d as I
  | 277 => hpr_277 d as I
  | 278 => hpr_278 d as I
  | 280 => hpr_280 d as I
  | 282 => hpr_282 d as I
  | 265 => hpr_265 d as I
  | 283 => hpr_283 d as I
  | 284 => hpr_284 d as I
  | 269 => hpr_269 d as I
  | 270 => hpr_270 d as I
  | 268 => hpr_268 d as I
  | 267 => hpr_267 d as I
  | 266 => hpr_266 d as I
  | 264 => hpr_264 d as I
  | 260 => hpr_260 d as I
  | 285 => hpr_285 d as I
  | 261 => hpr_261 d as I
  | 263 => hpr_263 d as I
  | 262 => hpr_262 d as I
  | 259 => hpr_259 d as I
  | 247 => hpr_247 d as I
  | 281 => hpr_281 d as I
  | 252 => hpr_252 d as I
  | 250 => hpr_250 d as I
  | 248 => hpr_248 d as I
  | 249 => hpr_249 d as I
  | 254 => hpr_254 d as I
  | 255 => hpr_255 d as I
  | 253 => hpr_253 d as I
  | 256 => hpr_256 d as I
  | 257 => hpr_257 d as I
  | 258 => hpr_258 d as I
  | 251 => hpr_251 d as I
  | 287 => hpr_287 d as I
  | 246 => hpr_246 d as I
  | 286 => hpr_286 d as I
  | 274 => hpr_274 d as I
  | 271 => hpr_271 d as I
  | 272 => hpr_272 d as I
  | 273 => hpr_273 d as I
  | 288 => hpr_288 d as I
  | _ => False
def hpost (j : Nat) (as : List zV) (I : zI) (r : Option zV) (I' : zI) : Prop := match j with
  | 275 => hpo_275 as I r I'
  | 276 => hpo_276 as I r I'
  | 277 => hpo_277 as I r I'
  | 278 => hpo_278 as I r I'
  | 280 => hpo_280 as I r I'
  | 282 => hpo_282 as I r I'
  | 265 => hpo_265 as I r I'
  | 283 => hpo_283 as I r I'
  | 284 => hpo_284 as I r I'
  | 269 => hpo_269 as I r I'
  | 270 => hpo_270 as I r I'
  | 268 => hpo_268 as I r I'
  | 267 => hpo_267 as I r I'
  | 266 => hpo_266 as I r I'
  | 264 => hpo_264 as I r I'
  | 260 => hpo_260 as I r I'
  | 285 => hpo_285 as I r I'
  | 261 => hpo_261 as I r I'
  | 263 => hpo_263 as I r I'
  | 262 => hpo_262 as I r I'
  | 259 => hpo_259 as I r I'
  | 247 => hpo_247 as I r I'
  | 281 => hpo_281 as I r I'
  | 252 => hpo_252 as I r I'
  | 250 => hpo_250 as I r I'
  | 248 => hpo_248 as I r I'
  | 249 => hpo_249 as I r I'
  | 254 => hpo_254 as I r I'
  | 255 => hpo_255 as I r I'
  | 253 => hpo_253 as I r I'
  | 256 => hpo_256 as I r I'
  | 257 => hpo_257 as I r I'
  | 258 => hpo_258 as I r I'
  | 251 => hpo_251 as I r I'
  | 287 => hpo_287 as I r I'
  | 246 => hpo_246 as I r I'
  | 286 => hpo_286 as I r I'
  | 274 => hpo_274 as I r I'
  | 271 => hpo_271 as I r I'
  | 272 => hpo_272 as I r I'
  | 273 => hpo_273 as I r I'
  | 288 => hpo_288 as I r I'
  | _ => False
def zpre : zPre := fun d j as I => match ZC j with
  | some c => aPre zG0 zInv c d as I
  | none => hpre d j as I
def zpost : zPost := fun j as I r I' => match ZC j with
  | some c => aPost zInv c as I r I'
  | none => hpost j as I r I'
theorem zpre_of {j d : Nat} {c : aC} {as : List zV} {I : zI} (h : ZC j = some c) (hp : aPre zG0 zInv c d as I) : zpre d j as I := by
  unfold zpre
  rw [h]
  exact hp
theorem zpost_of {j : Nat} {c : aC} {as : List zV} {I I' : zI} {r : Option zV} (h : ZC j = some c) (hp : zpost j as I r I') : aPost zInv c as I r I' := by
  unfold zpost at hp
  rw [h] at hp
  exact hp
theorem zTieH : zTieC zpre zpost := fun j c h => ⟨fun _ _ _ hp => zpre_of h hp, fun _ _ _ _ hp => zpost_of h hp⟩
theorem hpre_of {j d : Nat} {as : List zV} {I : zI} (h : ZC j = none) (hp : hpre d j as I) : zpre d j as I := by
  unfold zpre
  rw [h]
  exact hp
theorem hpost_of {j : Nat} {as : List zV} {I I' : zI} {r : Option zV} (h : ZC j = none) (hp : zpost j as I r I') : hpost j as I r I' := by
  unfold zpost at hp
  rw [h] at hp
  exact hp
/-- a hand's method keeps its contract; one by the tables, too -/
def zOKx (j : Nat) : Prop := ∀ d, zCalls zG0 PZ zbd zpre zpost d → ∀ (as : List zV) (I : zI) (q : xP), hpre (d + 1) j as I → PZ j = some q → zMet zG0 q (d + 1) (zbd j) as I (hpost j as I)
def zOKh (j : Nat) (c : aC) : Prop := ∀ d, zCalls zG0 PZ zbd zpre zpost d → ∀ (as : List zV) (I : zI) (q : xP), aPre zG0 zInv c (d + 1) as I → PZ j = some q → zMet zG0 q (d + 1) (zbd j) as I (fun r I' => aPost zInv c as I r I')
