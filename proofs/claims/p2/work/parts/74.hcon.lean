/-! ===== contracts of the methods that are walked by hand ===== -/
set_option maxRecDepth 100000 in
theorem zvs_kn0 : ∀ (k : Nat) (u : Unit), zvsT k = some u → zkn k = k := (xB_n (xB_n (xB_n (xB_n (xB_l rfl) (xB_l rfl)) (xB_n (xB_l rfl) (xB_n (xB_l rfl) (xB_l rfl)))) (xB_n (xB_n (xB_l rfl) (xB_n (xB_l rfl) (xB_l rfl))) (xB_n (xB_l rfl) (xB_n (xB_l rfl) (xB_l rfl))))) (xB_n (xB_n (xB_n (xB_l rfl) (xB_l rfl)) (xB_n (xB_l rfl) (xB_n (xB_l rfl) (xB_l rfl)))) (xB_n (xB_n (xB_l rfl) (xB_n (xB_l rfl) (xB_l rfl))) (xB_n (xB_l rfl) (xB_n (xB_l rfl) (xB_l rfl))))))
theorem zvs_kn {k : Nat} (h : zvs k = true) : zkn k = k := by
  unfold zvs at h
  split at h
  · rename_i u hu
    exact zvs_kn0 k u hu
  · cases h
theorem zvs_len {kd i t len : Nat} (hv : zvs kd = true) (hd : zds kd = .inr (t, len)) (hi : i < len) : i < 4096 := by
  have e : zG0.1 kd = kd := zvs_kn hv
  have h := zInj0.2.2.2 kd t len (by rw [e]; exact hv) (by rw [e]; exact hd)
  omega
theorem zupd_hi2 {I : zI} {kd i id : Nat} {v : Int32} (h : id < 4096) : zupd I (zid kd i) v id = I id := zupd_fr (by unfold zid; omega)
theorem zlaws_cg {I I' : zI} (hh : ∀ kd i : Nat, 23 ≤ kd → I' (zid kd i) = I (zid kd i)) (h22 : I' 22 = I 22) (g5 : zlaws (fun kd i => I (zid kd i)) (I 22)) : zlaws (fun kd i => I' (zid kd i)) (I' 22) := by
  rw [h22]
  have hpf : ∀ (a n D : Nat), zpx (fun kd i => I (zid kd i)) a n D → zpx (fun kd i => I' (zid kd i)) a n D := by
    intro a n
    induction n with
    | zero => intro D hp; exact hp
    | succ n ih =>
      intro D hp
      unfold zpx at hp ⊢
      simp only [hh 101 (a + n) (by decide), hh 102 (a + n) (by decide)]
      exact hp.imp (fun q => ⟨q.1, q.2.1, ih _ q.2.2⟩) (fun q => ⟨q.1, q.2.1, q.2.2.1, ih _ q.2.2.2⟩)
  have hpr : ∀ a b : Int32, zpr (fun kd i => I (zid kd i)) a b → zpr (fun kd i => I' (zid kd i)) a b := fun a b hp => ⟨hp.1, hp.2.1, hp.2.2.1, hp.2.2.2.1, hpf _ _ _ hp.2.2.2.2⟩
  have hbr : ∀ b : Nat, zbr (fun kd i => I (zid kd i)) b → zbr (fun kd i => I' (zid kd i)) b := by
    intro b hp
    unfold zbr at hp ⊢
    simp only [hh 96 b (by decide), hh 97 b (by decide), hh 98 b (by decide), hh 99 b (by decide), hh 100 b (by decide)]
    exact ⟨hp.1, fun q => ⟨hpr _ _ (hp.2.1 q).1, hpr _ _ (hp.2.1 q).2⟩, hpr _ _ hp.2.2⟩
  intro k hk
  have e := g5 k hk
  simp only [hh 94 _ (by decide), hh 95 _ (by decide)]
  exact ⟨e.1, fun b b1 b2 => hbr b (e.2 b b1 b2)⟩
/-- the class's two arrays of steps change, nothing else that the known arrays' invariant speaks of -/
theorem zInv_low {I I' : zI} (hI : zInv I) (h : ∀ id, zid 23 0 ≤ id → I' id = I id) (hk : ∀ kd i, i < 4096 → kd ≠ 21 → kd ≠ 22 → I' (zid kd i) = I (zid kd i)) (h22 : I' 22 = I 22) (hs : ∀ c, c < 408 → I' (zid 21 c) = 1 → 0 ≤ (I' (zid 22 c)).toInt ∧ (I' (zid 22 c)).toInt ≤ 8) : zInv I' := by
  obtain ⟨g1, g2, g3, g4, g5⟩ := hI
  have hh : ∀ kd i : Nat, 23 ≤ kd → I' (zid kd i) = I (zid kd i) := fun kd i hk => h _ (by unfold zid; omega)
  refine ⟨fun kd i t len hv hd hi => ?_, fun c hc e => ?_, fun c hc e => hs c hc e, fun t ht => ?_, zlaws_cg hh h22 g5⟩
  · have hl := zInj0.2.2.2 kd t len
    show eOK _ i (I' (zid kd i)).toInt
    by_cases h1 : kd = 21
    · subst h1; exact eno rfl
    · by_cases h2 : kd = 22
      · subst h2; exact eno rfl
      · rw [hk kd i (zvs_len hv hd hi) h1 h2]
        exact g1 kd i t len hv hd hi
  · have e : I' (zid 10 c) = 1 := e
    show 0 ≤ (I' (zid 11 c)).toInt ∧ (I' (zid 11 c)).toInt ≤ 8
    rw [hk 10 c (by omega) (by decide) (by decide)] at e
    rw [hk 11 c (by omega) (by decide) (by decide)]
    exact g2 c hc e
  · have e := g4 t ht
    show (I' (zid 25 t)).toInt + (I' (zid 26 t)).toInt ≤ 2000 ∧ (I' (zid 24 t) = 2 → (I' (zid 26 t)).toInt ≤ 8)
    rw [hh 25 t (by decide), hh 26 t (by decide), hh 24 t (by decide)]
    exact e
theorem zInv_wide {I : zI} {i v : Int32} (hI : zInv I) (h0 : 0 ≤ i.toInt) (h1 : i.toInt < 4096) (hv : 0 ≤ v.toInt ∧ v.toInt ≤ 8) : zInv (zupd I (zid 17 i.toInt.toNat) v) := by
  have e : ∀ kd j : Nat, j < 4096 → kd ≠ 17 → zupd I (zid 17 i.toInt.toNat) v (zid kd j) = I (zid kd j) := fun kd j hj hk => zupd_fr (by unfold zid; omega)
  have eh : ∀ kd j : Nat, 23 ≤ kd → zupd I (zid 17 i.toInt.toNat) v (zid kd j) = I (zid kd j) := fun kd j hk => zupd_fr (by unfold zid; omega)
  obtain ⟨g1, g2, g3, g4, g5⟩ := hI
  refine ⟨fun kd j t len hvs hd hj => ?_, fun c hc q => ?_, fun c hc q => ?_, fun t ht => ?_, zlaws_cg eh (zupd_hi2 (by decide)) g5⟩
  · show eOK _ j (zupd I (zid 17 i.toInt.toNat) v (zid kd j)).toInt
    by_cases h17 : kd = 17
    · subst h17
      unfold zupd
      split
      · exact eal rfl hv.1 hv.2
      · exact g1 17 j t len hvs hd hj
    · rw [e kd j (zvs_len hvs hd hj) h17]
      exact g1 kd j t len hvs hd hj
  · have q : zupd I (zid 17 i.toInt.toNat) v (zid 10 c) = 1 := q
    rw [e 10 c (by omega) (by decide)] at q
    show 0 ≤ (zupd I (zid 17 i.toInt.toNat) v (zid 11 c)).toInt ∧ (zupd I (zid 17 i.toInt.toNat) v (zid 11 c)).toInt ≤ 8
    rw [e 11 c (by omega) (by decide)]
    exact g2 c hc q
  · have q : zupd I (zid 17 i.toInt.toNat) v (zid 21 c) = 1 := q
    rw [e 21 c (by omega) (by decide)] at q
    show 0 ≤ (zupd I (zid 17 i.toInt.toNat) v (zid 22 c)).toInt ∧ (zupd I (zid 17 i.toInt.toNat) v (zid 22 c)).toInt ≤ 8
    rw [e 22 c (by omega) (by decide)]
    exact g3 c hc q
  · have q := g4 t ht
    show (zupd I (zid 17 i.toInt.toNat) v (zid 25 t)).toInt + (zupd I (zid 17 i.toInt.toNat) v (zid 26 t)).toInt ≤ 2000 ∧ (zupd I (zid 17 i.toInt.toNat) v (zid 24 t) = 2 → (zupd I (zid 17 i.toInt.toNat) v (zid 26 t)).toInt ≤ 8)
    rw [eh 25 t (by decide), eh 26 t (by decide), eh 24 t (by decide)]
    exact q
theorem zInv_add {I : zI} {a b i j v : Int32} (hI : zInv I) (h0 : 0 ≤ i.toInt) (h1 : i.toInt < 408) (hij : j.toInt = i.toInt) (hab : a.toInt = 1 → 0 ≤ b.toInt ∧ b.toInt ≤ 8) : zInv (zupd (zupd (zupd I (zid 21 i.toInt.toNat) a) (zid 22 j.toInt.toNat) b) 4 v) := by
  rw [hij]
  refine zInv_low hI (fun id hid => ?_) (fun kd c hc h1' h2' => ?_) ((zupd_fr (by decide)).trans ((zupd_hi2 (by decide)).trans (zupd_hi2 (by decide)))) (fun c hc e => ?_)
  · unfold zid at hid
    rw [zupd_fr (by omega), zupd_fr (by unfold zid; omega), zupd_fr (by unfold zid; omega)]
  · rw [zupd_fr (by unfold zid; omega), zupd_fr (by unfold zid; omega), zupd_fr (by unfold zid; omega)]
  · rw [zupd_fr (by unfold zid; omega), zupd_fr (by unfold zid; omega)] at e
    rw [zupd_fr (by unfold zid; omega)]
    by_cases hc2 : c = i.toInt.toNat
    · subst hc2
      unfold zupd at e ⊢
      rw [if_pos rfl] at e
      rw [if_pos rfl]
      subst e
      exact hab (by decide)
    · rw [zupd_fr (by unfold zid; omega)] at e
      rw [zupd_fr (by unfold zid; omega), zupd_fr (by unfold zid; omega)]
      exact hI.2.2.1 c hc e
theorem jstp {I : zI} (hI : zInv I) {i : Int} (h0 : 0 ≤ i) (h1 : i < 408) (h : zv I 10 i = 1) : 0 ≤ zv I 11 i ∧ zv I 11 i ≤ 8 := hI.2.1 i.toNat (by omega) (i1 h)
theorem zInv_become {I : zI} (hI : zInv I) : zInv (zcp zG0 (zcp zG0 (zcp zG0 I 17 6 7) 21 10 408) 22 11 408) := by
  have v6 : zG0.2.2.2.2.2 6 = true := rfl
  have v10 : zG0.2.2.2.2.2 10 = true := rfl
  have v11 : zG0.2.2.2.2.2 11 = true := rfl
  have e : ∀ kd i : Nat, i < 4096 → kd ≠ 6 → kd ≠ 10 → kd ≠ 11 → zcp zG0 (zcp zG0 (zcp zG0 I 17 6 7) 21 10 408) 22 11 408 (zid kd i) = I (zid kd i) := fun kd i hi h0 h1 h2 => by rw [zcp_ne h2 (by decide) hi, zcp_ne h1 (by decide) hi, zcp_ne h0 (by decide) hi]
  have e0 : ∀ id, id < 4096 → zcp zG0 (zcp zG0 (zcp zG0 I 17 6 7) 21 10 408) 22 11 408 id = I id := fun id h => by rw [zcp_lo h, zcp_lo h, zcp_lo h]
  have eh : ∀ kd i : Nat, 23 ≤ kd → zcp zG0 (zcp zG0 (zcp zG0 I 17 6 7) 21 10 408) 22 11 408 (zid kd i) = I (zid kd i) := by
    intro kd i hid
    unfold zcp
    rw [if_neg (by unfold zid; omega), if_neg (by unfold zid; omega), if_neg (by unfold zid; omega)]
  have e6 : ∀ i : Nat, i < 7 → zcp zG0 (zcp zG0 (zcp zG0 I 17 6 7) 21 10 408) 22 11 408 (zid 6 i) = I (zid 17 i) := fun i hi => by rw [zcp_ne (by decide) (by decide) (by omega), zcp_ne (by decide) (by decide) (by omega), zcp_at v6 hi]
  obtain ⟨g1, g2, g3, g4, g5⟩ := hI
  refine ⟨fun kd i t len hv hd hi => ?_, fun c hc q => ?_, fun c hc q => ?_, fun t ht => ?_, zlaws_cg eh (e0 22 (by decide)) g5⟩
  · show eOK _ i (zcp zG0 (zcp zG0 (zcp zG0 I 17 6 7) 21 10 408) 22 11 408 (zid kd i)).toInt
    by_cases h10 : kd = 10
    · subst h10; exact eno rfl
    · by_cases h11 : kd = 11
      · subst h11; exact eno rfl
      · by_cases h6 : kd = 6
        · subst h6
          cases (show zds 6 = Sum.inr (0, 7) from rfl).symm.trans hd
          rw [e6 i hi]
          exact g1 17 i 0 7 rfl rfl hi
        · rw [e kd i (zvs_len hv hd hi) h6 h10 h11]
          exact g1 kd i t len hv hd hi
  · have q : zcp zG0 (zcp zG0 (zcp zG0 I 17 6 7) 21 10 408) 22 11 408 (zid 10 c) = 1 := q
    rw [zcp_ne (by decide) (by decide) (by omega), zcp_at v10 hc, zcp_ne (by decide) (by decide) (by omega)] at q
    show 0 ≤ (zcp zG0 (zcp zG0 (zcp zG0 I 17 6 7) 21 10 408) 22 11 408 (zid 11 c)).toInt ∧ (zcp zG0 (zcp zG0 (zcp zG0 I 17 6 7) 21 10 408) 22 11 408 (zid 11 c)).toInt ≤ 8
    rw [zcp_at v11 hc, zcp_ne (by decide) (by decide) (by omega), zcp_ne (by decide) (by decide) (by omega)]
    exact g3 c hc q
  · have q : zcp zG0 (zcp zG0 (zcp zG0 I 17 6 7) 21 10 408) 22 11 408 (zid 21 c) = 1 := q
    rw [e 21 c (by omega) (by decide) (by decide) (by decide)] at q
    show 0 ≤ (zcp zG0 (zcp zG0 (zcp zG0 I 17 6 7) 21 10 408) 22 11 408 (zid 22 c)).toInt ∧ (zcp zG0 (zcp zG0 (zcp zG0 I 17 6 7) 21 10 408) 22 11 408 (zid 22 c)).toInt ≤ 8
    rw [e 22 c (by omega) (by decide) (by decide) (by decide)]
    exact g3 c hc q
  · have q := g4 t ht
    show (zcp zG0 (zcp zG0 (zcp zG0 I 17 6 7) 21 10 408) 22 11 408 (zid 25 t)).toInt + (zcp zG0 (zcp zG0 (zcp zG0 I 17 6 7) 21 10 408) 22 11 408 (zid 26 t)).toInt ≤ 2000 ∧ (zcp zG0 (zcp zG0 (zcp zG0 I 17 6 7) 21 10 408) 22 11 408 (zid 24 t) = 2 → (zcp zG0 (zcp zG0 (zcp zG0 I 17 6 7) 21 10 408) 22 11 408 (zid 26 t)).toInt ≤ 8)
    rw [eh 25 t (by decide), eh 26 t (by decide), eh 24 t (by decide)]
    exact q
/-- a token: where it lies, how long it is -/
theorem tokP {I : zI} (hI : zInv I) {i : Int} (h0 : 0 ≤ i) (h1 : i ≤ 400) : (0 ≤ zv I 25 i ∧ 0 ≤ zv I 26 i ∧ zv I 25 i + zv I 26 i ≤ 2000) ∧ (zv I 24 i = 2 → zv I 26 i ≤ 8) ∧ 0 ≤ zv I 24 i ∧ zv I 24 i ≤ 148 := by
  have hi : i.toNat < 401 := by omega
  have a := hI.2.2.2.1 i.toNat hi
  have b := eall rfl (hI.1 25 i.toNat 0 401 rfl rfl hi)
  have c := eall rfl (hI.1 26 i.toNat 0 401 rfl rfl hi)
  have e := eall rfl (hI.1 24 i.toNat 0 401 rfl rfl hi)
  have two : (2 : Int32).toInt = 2 := by decide
  exact ⟨⟨b.1, c.1, a.1⟩, fun q => a.2 (Int32.toInt_inj.mp (by rw [two]; exact q)), e.1, e.2⟩
/-- what the class's parser of sums leaves: its place, its steps above those that were, the invariant -/
def pFr (I I' : zI) : Prop := (∀ id, zid 23 0 ≤ id → I' id = I id) ∧ (∀ id, id < zid 21 0 → id ≠ 2 → id ≠ 4 → I' id = I id) ∧ (0 ≤ zf I' 2 ∧ zf I' 2 ≤ 400) ∧ (zf I 4 ≤ zf I' 4 ∧ zf I' 4 ≤ 408) ∧ (∀ i : Nat, (i : Int) < zf I 4 → I' (zid 21 i) = I (zid 21 i) ∧ I' (zid 22 i) = I (zid 22 i)) ∧ zInv I'
theorem pFr_rf {I : zI} (h2 : 0 ≤ zf I 2 ∧ zf I 2 ≤ 400) (h4 : zf I 4 ≤ 408) (hI : zInv I) : pFr I I := ⟨fun _ _ => rfl, fun _ _ _ _ => rfl, h2, ⟨Int.le_refl _, h4⟩, fun _ _ => ⟨rfl, rfl⟩, hI⟩
theorem pFr_tr {I J I' : zI} (h1 : pFr I J) (h2 : pFr J I') : pFr I I' := by
  obtain ⟨a1, a2, a3, a4, a5, a6⟩ := h1
  obtain ⟨b1, b2, b3, b4, b5, b6⟩ := h2
  exact ⟨fun id h => (b1 id h).trans (a1 id h), fun id h h' h'' => (b2 id h h' h'').trans (a2 id h h' h''), b3, ⟨by omega, b4.2⟩, fun i hi => ⟨(b5 i (by omega)).1.trans (a5 i hi).1, (b5 i (by omega)).2.trans (a5 i hi).2⟩, b6⟩
theorem pFr_at {I J : zI} {v : Int32} (h1 : pFr I J) (h0 : 0 ≤ v.toInt) (hv : v.toInt ≤ 400) : pFr I (zupd J 2 v) := by
  obtain ⟨a1, a2, a3, a4, a5, a6⟩ := h1
  refine ⟨fun id h => (zupd_fr (by unfold zid at h; omega)).trans (a1 id h), fun id h h' h'' => (zupd_fr h').trans (a2 id h h' h''), by rw [zf_same]; exact ⟨h0, hv⟩, by rw [zf_ne (by decide)]; exact a4, fun i hi => ?_, zextp _ 2 _ rfl (by decide) a6⟩
  rw [zupd_fr (by unfold zid; omega), zupd_fr (by unfold zid; omega)]
  exact a5 i hi
theorem pFr_add {I I' : zI} {a b : Int32} {r : Option zV} (h2 : 0 ≤ zf I 2 ∧ zf I 2 ≤ 400) (h4 : 0 ≤ zf I 4 ∧ zf I 4 ≤ 408) (hI : zInv I) (hab : a.toInt = 1 → 0 ≤ b.toInt ∧ b.toInt ≤ 8) (h : r = none ∧ ((zf I 4 = 408 ∧ I' = I) ∨ (zf I 4 < 408 ∧ ∃ i v : Int32, i.toInt = zf I 4 ∧ v.toInt = zf I 4 + 1 ∧ I' = zupd (zupd (zupd I (zid 21 i.toInt.toNat) a) (zid 22 i.toInt.toNat) b) 4 v))) : r = none ∧ pFr I I' := by
  obtain ⟨rfl, ⟨h3, rfl⟩ | ⟨h3, i, v, hi, hv, rfl⟩⟩ := h
  · exact ⟨rfl, pFr_rf h2 h4.2 hI⟩
  · refine ⟨rfl, fun id h => ?_, fun id h h' h'' => ?_, ?_, ?_, fun k hk => ⟨?_, ?_⟩, zInv_add hI (by omega) (by omega) rfl hab⟩
    · unfold zid at h
      rw [zupd_fr (by omega), zupd_fr (by unfold zid; omega), zupd_fr (by unfold zid; omega)]
    · unfold zid at h
      rw [zupd_fr h'', zupd_fr (by unfold zid; omega), zupd_fr (by unfold zid; omega)]
    · rw [zf_ne (by decide), zf_arr _ _ _ _ _ (by decide), zf_arr _ _ _ _ _ (by decide)]
      exact h2
    · rw [zf_same]
      omega
    · rw [zupd_fr (by unfold zid; omega), zupd_fr (by unfold zid; omega), zupd_fr (by unfold zid; omega)]
    · rw [zupd_fr (by unfold zid; omega), zupd_fr (by unfold zid; omega), zupd_fr (by unfold zid; omega)]
theorem pFr_add6 {I I' : zI} {a b : Int32} {r : Option zV} (h2 : 0 ≤ zf I 2 ∧ zf I 2 ≤ 400) (h4 : 0 ≤ zf I 4 ∧ zf I 4 ≤ 408) (hI : zInv I) (hab : a.toInt = 1 → 0 ≤ b.toInt ∧ b.toInt ≤ 8) (h : r = none ∧ ((zf I 4 = 408 ∧ I' = I) ∨ (zf I 4 < 408 ∧ ∃ i v : Int32, i.toInt = zf I 4 ∧ v.toInt = zf I 4 + 1 ∧ I' = zupd (zupd (zupd I (zid 21 i.toInt.toNat) a) (zid 22 i.toInt.toNat) b) 4 v))) : r = none ∧ pFr I I' ∧ (zf I 4 < 408 → (I' (zid 21 (zf I 4).toNat)).toInt = a.toInt ∧ zf I 4 < zf I' 4) := by
  refine ⟨h.1, (pFr_add h2 h4 hI hab h).2, fun hl => ?_⟩
  obtain ⟨-, ⟨h3, -⟩ | ⟨h3, i, v, hi, hv, rfl⟩⟩ := h
  · omega
  · rw [← hi]
    refine ⟨?_, by rw [zf_same]; omega⟩
    rw [zupd_fr (by unfold zid; omega), zupd_fr (by unfold zid; omega)]
    unfold zupd
    rw [if_pos rfl]
theorem pFr_lead {I J : zI} {k v : Int32} (h : pFr I J) (hk : zf I 4 ≤ k.toInt) (h0 : 0 ≤ k.toInt) (h1 : k.toInt < 408) (hs : ¬ (J (zid 21 k.toInt.toNat)).toInt = 1) : pFr I (zupd J (zid 22 k.toInt.toNat) v) := by
  obtain ⟨a1, a2, a3, a4, a5, a6⟩ := h
  refine ⟨fun id h => ?_, fun id h h' h'' => ?_, ?_, ?_, fun i hi => ⟨?_, ?_⟩, zInv_low a6 (fun id h => ?_) (fun kd i hi h1' h2' => ?_) (zupd_hi2 (by decide)) (fun c hc e => ?_)⟩
  · unfold zid at h
    rw [zupd_fr (by unfold zid; omega)]
    exact a1 id (by unfold zid; omega)
  · unfold zid at h
    rw [zupd_fr (by unfold zid; omega)]
    exact a2 id (by unfold zid; omega) h' h''
  · rw [zf_arr _ _ _ _ _ (by decide)]
    exact a3
  · rw [zf_arr _ _ _ _ _ (by decide)]
    exact a4
  · rw [zupd_fr (by unfold zid; omega)]
    exact (a5 i hi).1
  · rw [zupd_fr (by unfold zid; omega)]
    exact (a5 i hi).2
  · unfold zid at h
    rw [zupd_fr (by unfold zid; omega)]
  · rw [zupd_fr (by unfold zid; omega)]
  · rw [zupd_fr (by unfold zid; omega)] at e
    by_cases hc2 : c = k.toInt.toNat
    · subst hc2
      rw [e] at hs
      exact absurd (by decide) hs
    · rw [zupd_fr (by unfold zid; omega)]
      exact a6.2.2.1 c hc e
/-- CapitalCase.feed:(IIIII)I -/
def hpr_275 (d : Nat) (as : List zV) (I : zI) : Prop := 3 ≤ d ∧ ∃ (a : Int32) (b : Int32) (c : Int32) (e : Int32) (f : Int32), as = [.inr (.inl (some 0)), .inl a, .inl b, .inl c, .inl e, .inl f] ∧ (0 ≤ zf I 1 ∧ zf I 1 ≤ 2000)
def hpo_275 (as : List zV) (I : zI) (r : Option zV) (I' : zI) : Prop := ∀ (a : Int32) (b : Int32) (c : Int32) (e : Int32) (f : Int32), as = [.inr (.inl (some 0)), .inl a, .inl b, .inl c, .inl e, .inl f] → (∃ x : Int32, r = some (.inl x) ∧ ((2000 < zf I 1 + 20 ∧ x.toInt = -1 ∧ I' = I) ∨ (zf I 1 + 20 ≤ 2000 ∧ ∃ v : Int32, v.toInt = zf I 1 + 20 ∧ x.toInt = zf I 1 + 20 ∧ I' = zupd I 1 v)))
/-- CapitalCaseModel.feed:(IIIII)I -/
def hpr_276 (d : Nat) (as : List zV) (I : zI) : Prop := 3 ≤ d ∧ ∃ (a : Int32) (b : Int32) (c : Int32) (e : Int32) (f : Int32), as = [.inr (.inl (some 75)), .inl a, .inl b, .inl c, .inl e, .inl f] ∧ (0 ≤ zf I 10 ∧ zf I 10 ≤ 2000)
def hpo_276 (as : List zV) (I : zI) (r : Option zV) (I' : zI) : Prop := ∀ (a : Int32) (b : Int32) (c : Int32) (e : Int32) (f : Int32), as = [.inr (.inl (some 75)), .inl a, .inl b, .inl c, .inl e, .inl f] → (∃ x : Int32, r = some (.inl x) ∧ ((2000 < zf I 10 + 20 ∧ x.toInt = -1 ∧ I' = I) ∨ (zf I 10 + 20 ≤ 2000 ∧ ∃ v : Int32, v.toInt = zf I 10 + 20 ∧ x.toInt = zf I 10 + 20 ∧ I' = zupd I 10 v)))
/-- CapitalCase.back:(I)I -/
def hpr_277 (d : Nat) (as : List zV) (I : zI) : Prop := 1 ≤ d ∧ ∃ (a : Int32), as = [.inr (.inl (some 0)), .inl a] ∧ (0 ≤ zf I 1 ∧ zf I 1 ≤ 2000)
def hpo_277 (as : List zV) (I : zI) (r : Option zV) (I' : zI) : Prop := ∀ (a : Int32), as = [.inr (.inl (some 0)), .inl a] → (∃ x : Int32, r = some (.inl x) ∧ (((a.toInt < 0 ∨ zf I 1 < a.toInt) ∧ x.toInt = -1 ∧ I' = I) ∨ (0 ≤ a.toInt ∧ a.toInt ≤ zf I 1 ∧ ∃ v : Int32, v.toInt = zf I 1 - a.toInt ∧ x.toInt = zf I 1 - a.toInt ∧ I' = zupd I 1 v)))
/-- CapitalCaseModel.back:(I)I -/
def hpr_278 (d : Nat) (as : List zV) (I : zI) : Prop := 1 ≤ d ∧ ∃ (a : Int32), as = [.inr (.inl (some 75)), .inl a] ∧ (0 ≤ zf I 10 ∧ zf I 10 ≤ 2000)
def hpo_278 (as : List zV) (I : zI) (r : Option zV) (I' : zI) : Prop := ∀ (a : Int32), as = [.inr (.inl (some 75)), .inl a] → (∃ x : Int32, r = some (.inl x) ∧ (((a.toInt < 0 ∨ zf I 10 < a.toInt) ∧ x.toInt = -1 ∧ I' = I) ∨ (0 ≤ a.toInt ∧ a.toInt ≤ zf I 10 ∧ ∃ v : Int32, v.toInt = zf I 10 - a.toInt ∧ x.toInt = zf I 10 - a.toInt ∧ I' = zupd I 10 v)))
/-- CapitalCase$Judge.reckon:(III)I -/
def hpr_280 (d : Nat) (as : List zV) (I : zI) : Prop := 1 ≤ d ∧ ∃ (a : Int32) (b : Int32) (c : Int32), as = [.inl a, .inl b, .inl c] ∧ (True)
def hpo_280 (as : List zV) (I : zI) (r : Option zV) (I' : zI) : Prop := ∀ (a : Int32) (b : Int32) (c : Int32), as = [.inl a, .inl b, .inl c] → (∃ x : Int32, r = some (.inl x) ∧ I' = I)
/-- CapitalCase$Script.add:(II)V -/
def hpr_282 (d : Nat) (as : List zV) (I : zI) : Prop := 1 ≤ d ∧ ∃ (a : Int32) (b : Int32), as = [.inr (.inl (some 13)), .inl a, .inl b] ∧ (0 ≤ zf I 4 ∧ zf I 4 ≤ 408)
def hpo_282 (as : List zV) (I : zI) (r : Option zV) (I' : zI) : Prop := ∀ (a : Int32) (b : Int32), as = [.inr (.inl (some 13)), .inl a, .inl b] → (r = none ∧ ((zf I 4 = 408 ∧ I' = I) ∨ (zf I 4 < 408 ∧ ∃ i v : Int32, i.toInt = zf I 4 ∧ v.toInt = zf I 4 + 1 ∧ I' = zupd (zupd (zupd I (zid 21 i.toInt.toNat) a) (zid 22 i.toInt.toNat) b) 4 v)))
/-- CapitalCase$Script.leadOn:(I)V -/
def hpr_265 (d : Nat) (as : List zV) (I : zI) : Prop := 1 ≤ d ∧ ∃ (a : Int32), as = [.inr (.inl (some 13)), .inl a] ∧ (0 ≤ zf I 4 ∧ zf I 4 ≤ 408)
def hpo_265 (as : List zV) (I : zI) (r : Option zV) (I' : zI) : Prop := ∀ (a : Int32), as = [.inr (.inl (some 13)), .inl a] → (r = none ∧ (((a.toInt < 0 ∨ 408 ≤ a.toInt) ∧ I' = I) ∨ (0 ≤ a.toInt ∧ a.toInt < 408 ∧ ∃ v : Int32, v.toInt = zf I 4 ∧ I' = zupd I (zid 22 a.toInt.toNat) v)))
/-- CapitalCase$Parser.next:()I -/
def hpr_283 (d : Nat) (as : List zV) (I : zI) : Prop := 1 ≤ d ∧ as = [.inr (.inl (some 12))] ∧ (0 ≤ zf I 2 ∧ zf I 2 ≤ 400)
def hpo_283 (as : List zV) (I : zI) (r : Option zV) (I' : zI) : Prop := as = [.inr (.inl (some 12))] → (∃ x : Int32, r = some (.inl x) ∧ x.toInt = zv I 24 (zf I 2) ∧ I' = I)
/-- CapitalCase$Parser.accept:(I)Z -/
def hpr_284 (d : Nat) (as : List zV) (I : zI) : Prop := 3 ≤ d ∧ ∃ (a : Int32), as = [.inr (.inl (some 12)), .inl a] ∧ (0 ≤ zf I 2 ∧ zf I 2 ≤ 400 ∧ zInv I)
def hpo_284 (as : List zV) (I : zI) (r : Option zV) (I' : zI) : Prop := ∀ (a : Int32), as = [.inr (.inl (some 12)), .inl a] → (∃ x : Int32, r = some (.inl x) ∧ ((x.toInt = 0 ∧ I' = I) ∨ (x.toInt = 1 ∧ zv I 24 (zf I 2) = a.toInt ∧ zf I 2 ≤ 399 ∧ ∃ v : Int32, v.toInt = zf I 2 + 1 ∧ I' = zupd I 2 v)))
/-- CapitalCase$Parser.letterOf:(II)I -/
def hpr_269 (d : Nat) (as : List zV) (I : zI) : Prop := 1 ≤ d ∧ ∃ (a : Int32) (b : Int32), as = [.inr (.inl (some 12)), .inl a, .inl b] ∧ (0 ≤ a.toInt ∧ a.toInt ≤ 400 ∧ 0 ≤ b.toInt ∧ b.toInt < zv I 26 a.toInt ∧ zInv I)
def hpo_269 (as : List zV) (I : zI) (r : Option zV) (I' : zI) : Prop := ∀ (a : Int32) (b : Int32), as = [.inr (.inl (some 12)), .inl a, .inl b] → (∃ x : Int32, r = some (.inl x) ∧ -225 ≤ x.toInt ∧ x.toInt ≤ 30 ∧ I' = I)
/-- CapitalCase$Parser.areLetters:(I)Z -/
def hpr_270 (d : Nat) (as : List zV) (I : zI) : Prop := 2 ≤ d ∧ ∃ (a : Int32), as = [.inr (.inl (some 12)), .inl a] ∧ (0 ≤ a.toInt ∧ a.toInt ≤ 400 ∧ zInv I)
def hpo_270 (as : List zV) (I : zI) (r : Option zV) (I' : zI) : Prop := ∀ (a : Int32), as = [.inr (.inl (some 12)), .inl a] → (∃ x : Int32, r = some (.inl x) ∧ 0 ≤ x.toInt ∧ x.toInt ≤ 1 ∧ I' = I)
/-- CapitalCase$Parser.parseUnit:(I)Z -/
def hpr_268 (d : Nat) (as : List zV) (I : zI) : Prop := ∃ (a : Int32), as = [.inr (.inl (some 12)), .inl a] ∧ 20 + (18 - 3 * a.toInt).toNat ≤ d ∧ (0 ≤ a.toInt ∧ a.toInt ≤ 6 ∧ 0 ≤ zf I 2 ∧ zf I 2 ≤ 400 ∧ 0 ≤ zf I 4 ∧ zf I 4 ≤ 408 ∧ zInv I)
def hpo_268 (as : List zV) (I : zI) (r : Option zV) (I' : zI) : Prop := ∀ (a : Int32), as = [.inr (.inl (some 12)), .inl a] → (∃ x : Int32, r = some (.inl x) ∧ 0 ≤ x.toInt ∧ x.toInt ≤ 1 ∧ pFr I I')
/-- CapitalCase$Parser.parsePart:(I)Z -/
def hpr_267 (d : Nat) (as : List zV) (I : zI) : Prop := ∃ (a : Int32), as = [.inr (.inl (some 12)), .inl a] ∧ 21 + (18 - 3 * a.toInt).toNat ≤ d ∧ (0 ≤ a.toInt ∧ a.toInt ≤ 6 ∧ 0 ≤ zf I 2 ∧ zf I 2 ≤ 400 ∧ 0 ≤ zf I 4 ∧ zf I 4 ≤ 408 ∧ zInv I)
def hpo_267 (as : List zV) (I : zI) (r : Option zV) (I' : zI) : Prop := ∀ (a : Int32), as = [.inr (.inl (some 12)), .inl a] → (∃ x : Int32, r = some (.inl x) ∧ 0 ≤ x.toInt ∧ x.toInt ≤ 1 ∧ pFr I I')
/-- CapitalCase$Parser.parseSum:(I)Z -/
def hpr_266 (d : Nat) (as : List zV) (I : zI) : Prop := ∃ (a : Int32), as = [.inr (.inl (some 12)), .inl a] ∧ 22 + (18 - 3 * a.toInt).toNat ≤ d ∧ (0 ≤ a.toInt ∧ a.toInt ≤ 6 ∧ 0 ≤ zf I 2 ∧ zf I 2 ≤ 400 ∧ 0 ≤ zf I 4 ∧ zf I 4 ≤ 408 ∧ zInv I)
def hpo_266 (as : List zV) (I : zI) (r : Option zV) (I' : zI) : Prop := ∀ (a : Int32), as = [.inr (.inl (some 12)), .inl a] → (∃ x : Int32, r = some (.inl x) ∧ 0 ≤ x.toInt ∧ x.toInt ≤ 1 ∧ pFr I I')
def hpre (d j : Nat) (as : List zV) (I : zI) : Prop := match j with
  | 275 => hpr_275 d as I
  | 276 => hpr_276 d as I
  | 277 => hpr_277 d as I
  | 278 => hpr_278 d as I
  | 280 => hpr_280 d as I
  | 282 => hpr_282 d as I
  | 265 => hpr_265 d as I
  | 283 => hpr_283 d as I
  | 284 => hpr_284 d as I
  | 269 => hpr_269 d as I
  | 270 => hpr_270 d as I
  | 268 => hpr_268 d as I
  | 267 => hpr_267 d as I
  | 266 => hpr_266 d as I
  | _ => False
def hpost (j : Nat) (as : List zV) (I : zI) (r : Option zV) (I' : zI) : Prop := match j with
  | 275 => hpo_275 as I r I'
  | 276 => hpo_276 as I r I'
  | 277 => hpo_277 as I r I'
  | 278 => hpo_278 as I r I'
  | 280 => hpo_280 as I r I'
  | 282 => hpo_282 as I r I'
  | 265 => hpo_265 as I r I'
  | 283 => hpo_283 as I r I'
  | 284 => hpo_284 as I r I'
  | 269 => hpo_269 as I r I'
  | 270 => hpo_270 as I r I'
  | 268 => hpo_268 as I r I'
  | 267 => hpo_267 as I r I'
  | 266 => hpo_266 as I r I'
  | _ => False
def zpre : zPre := fun d j as I => match ZC j with
  | some c => aPre zG0 zInv c d as I
  | none => hpre d j as I
def zpost : zPost := fun j as I r I' => match ZC j with
  | some c => aPost zInv c as I r I'
  | none => hpost j as I r I'
theorem zpre_of {j d : Nat} {c : aC} {as : List zV} {I : zI} (h : ZC j = some c) (hp : aPre zG0 zInv c d as I) : zpre d j as I := by
  unfold zpre
  rw [h]
  exact hp
theorem zpost_of {j : Nat} {c : aC} {as : List zV} {I I' : zI} {r : Option zV} (h : ZC j = some c) (hp : zpost j as I r I') : aPost zInv c as I r I' := by
  unfold zpost at hp
  rw [h] at hp
  exact hp
theorem zTieH : zTieC zpre zpost := fun j c h => ⟨fun _ _ _ hp => zpre_of h hp, fun _ _ _ _ hp => zpost_of h hp⟩
theorem hpre_of {j d : Nat} {as : List zV} {I : zI} (h : ZC j = none) (hp : hpre d j as I) : zpre d j as I := by
  unfold zpre
  rw [h]
  exact hp
theorem hpost_of {j : Nat} {as : List zV} {I I' : zI} {r : Option zV} (h : ZC j = none) (hp : zpost j as I r I') : hpost j as I r I' := by
  unfold zpost at hp
  rw [h] at hp
  exact hp
/-- a hand's method keeps its contract; one by the tables, too -/
def zOKx (j : Nat) : Prop := ∀ d, zCalls zG0 PZ zbd zpre zpost d → ∀ (as : List zV) (I : zI) (q : xP), hpre (d + 1) j as I → PZ j = some q → zMet zG0 q (d + 1) (zbd j) as I (hpost j as I)
def zOKh (j : Nat) (c : aC) : Prop := ∀ d, zCalls zG0 PZ zbd zpre zpost d → ∀ (as : List zV) (I : zI) (q : xP), aPre zG0 zInv c (d + 1) as I → PZ j = some q → zMet zG0 q (d + 1) (zbd j) as I (fun r I' => aPost zInv c as I r I')
