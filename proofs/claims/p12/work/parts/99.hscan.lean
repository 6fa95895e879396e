theorem zlaws_cg27 {I I' : zI} (hh : ∀ kd i : Nat, 27 ≤ kd → I' (zid kd i) = I (zid kd i)) (h22 : I' 22 = I 22) (g5 : zlaws (fun kd i => I (zid kd i)) (I 22)) : zlaws (fun kd i => I' (zid kd i)) (I' 22) := by
  rw [h22]
  have hpf : ∀ (a n D : Nat), zpx (fun kd i => I (zid kd i)) a n D → zpx (fun kd i => I' (zid kd i)) a n D := by
    intro a n
    induction n with
    | zero => intro D hp; exact hp
    | succ n ih =>
      intro D hp
      unfold zpx at hp ⊢
      simp only [hh 101 (a + n) (by decide), hh 102 (a + n) (by decide)]
      exact hp.imp (fun q => ⟨q.1, q.2.1, ih _ q.2.2⟩) (fun q => ⟨q.1, q.2.1, q.2.2.1, ih _ q.2.2.2⟩)
  have hpr : ∀ (h : Int) (a b : Int32), zpr (fun kd i => I (zid kd i)) h a b → zpr (fun kd i => I' (zid kd i)) h a b := fun h a b hp => ⟨hp.1, hp.2.1, hp.2.2.1, hp.2.2.2.1, hpf _ _ _ hp.2.2.2.2⟩
  have hbr : ∀ (s : Int) (b : Nat), zbr (fun kd i => I (zid kd i)) s b → zbr (fun kd i => I' (zid kd i)) s b := by
    intro s b hp
    unfold zbr at hp ⊢
    simp only [hh 96 b (by decide), hh 97 b (by decide), hh 98 b (by decide), hh 99 b (by decide), hh 100 b (by decide)]
    exact ⟨hp.1, fun q => ⟨hpr _ _ _ (hp.2.1 q).1, hpr _ _ _ (hp.2.1 q).2⟩, hpr _ _ _ hp.2.2⟩
  refine ⟨g5.1, fun k hk => ?_⟩
  have e := g5.2 k hk
  simp only [hh 94 _ (by decide), hh 95 _ (by decide)]
  exact ⟨e.1, fun b b1 b2 => hbr _ b (e.2 b b1 b2)⟩
theorem zInv_tok3 {I : zI} {i p s k : Int32} (hI : zInv I) (h0 : 0 ≤ i.toInt) (h1 : i.toInt ≤ 400) (hp : 0 ≤ p.toInt) (hs : 0 ≤ s.toInt) (hps : p.toInt + s.toInt ≤ 2000) (hk : 0 ≤ k.toInt ∧ k.toInt ≤ 148) (hk2 : k.toInt = 2 → s.toInt ≤ 8) : zInv (zupd (zupd (zupd I (zid 25 i.toInt.toNat) p) (zid 26 i.toInt.toNat) s) (zid 24 i.toInt.toNat) k) := by
  obtain ⟨g1, g2, g3, g4, g5⟩ := hI
  have e : ∀ kd j : Nat, j < 4096 → ((kd ≠ 24 ∧ kd ≠ 25 ∧ kd ≠ 26) ∨ ¬ j = i.toInt.toNat) → zupd (zupd (zupd I (zid 25 i.toInt.toNat) p) (zid 26 i.toInt.toNat) s) (zid 24 i.toInt.toNat) k (zid kd j) = I (zid kd j) := fun kd j hj hh => (zupd_fr (by unfold zid; omega)).trans ((zupd_fr (by unfold zid; omega)).trans (zupd_fr (by unfold zid; omega)))
  have eh : ∀ kd j : Nat, 27 ≤ kd → zupd (zupd (zupd I (zid 25 i.toInt.toNat) p) (zid 26 i.toInt.toNat) s) (zid 24 i.toInt.toNat) k (zid kd j) = I (zid kd j) := fun kd j hk' => (zupd_fr (by unfold zid; omega)).trans ((zupd_fr (by unfold zid; omega)).trans (zupd_fr (by unfold zid; omega)))
  have e24 : zupd (zupd (zupd I (zid 25 i.toInt.toNat) p) (zid 26 i.toInt.toNat) s) (zid 24 i.toInt.toNat) k (zid 24 i.toInt.toNat) = k := by unfold zupd; rw [if_pos rfl]
  have e25 : zupd (zupd (zupd I (zid 25 i.toInt.toNat) p) (zid 26 i.toInt.toNat) s) (zid 24 i.toInt.toNat) k (zid 25 i.toInt.toNat) = p := by
    rw [zupd_fr (by unfold zid; omega), zupd_fr (by unfold zid; omega)]
    unfold zupd
    rw [if_pos rfl]
  have e26 : zupd (zupd (zupd I (zid 25 i.toInt.toNat) p) (zid 26 i.toInt.toNat) s) (zid 24 i.toInt.toNat) k (zid 26 i.toInt.toNat) = s := by
    rw [zupd_fr (by unfold zid; omega)]
    unfold zupd
    rw [if_pos rfl]
  generalize hJ : zupd (zupd (zupd I (zid 25 i.toInt.toNat) p) (zid 26 i.toInt.toNat) s) (zid 24 i.toInt.toNat) k = J at *
  have h22 : J 22 = I 22 := by rw [← hJ]; exact (zupd_hi2 (by decide)).trans ((zupd_hi2 (by decide)).trans (zupd_hi2 (by decide)))
  refine ⟨fun kd j t len hv hd hj => ?_, fun c hc q => ?_, fun c hc q => ?_, fun t ht => ?_, ?_⟩
  · show eOK _ j (J (zid kd j)).toInt
    by_cases hq : (kd = 24 ∨ kd = 25 ∨ kd = 26) ∧ j = i.toInt.toNat
    · obtain ⟨hq, rfl⟩ := hq
      rcases hq with rfl | rfl | rfl
      · rw [e24]; exact eal rfl hk.1 hk.2
      · rw [e25]; exact eal rfl hp (by show _ ≤ (2000 : Int); omega)
      · rw [e26]; exact eal rfl hs (by show _ ≤ (2000 : Int); omega)
    · rw [e kd j (zvs_len hv hd hj) (by omega)]
      exact g1 kd j t len hv hd hj
  · have q : J (zid 10 c) = 1 := q
    rw [e 10 c (by omega) (Or.inl (by decide))] at q
    show 0 ≤ (J (zid 11 c)).toInt ∧ (J (zid 11 c)).toInt ≤ 8
    rw [e 11 c (by omega) (Or.inl (by decide))]
    exact g2 c hc q
  · have q : J (zid 21 c) = 1 := q
    rw [e 21 c (by omega) (Or.inl (by decide))] at q
    show 0 ≤ (J (zid 22 c)).toInt ∧ (J (zid 22 c)).toInt ≤ 8
    rw [e 22 c (by omega) (Or.inl (by decide))]
    exact g3 c hc q
  · show (J (zid 25 t)).toInt + (J (zid 26 t)).toInt ≤ 2000 ∧ (J (zid 24 t) = 2 → (J (zid 26 t)).toInt ≤ 8)
    by_cases ht2 : t = i.toInt.toNat
    · subst ht2
      rw [e24, e25, e26]
      exact ⟨hps, fun q => hk2 (by rw [q]; decide)⟩
    · rw [e 25 t (by omega) (Or.inr ht2), e 26 t (by omega) (Or.inr ht2), e 24 t (by omega) (Or.inr ht2)]
      exact g4 t ht
  · refine zlaws_cg27 eh h22 g5
theorem em242_0 : decode prog_9_method_6_code 0 = .ok (.aload_n 0, 1) := by decide +kernel
theorem em242_1 : decode prog_9_method_6_code 1 = .ok (.iload_n 2, 1) := by decide +kernel
theorem em242_2 : decode prog_9_method_6_code 2 = .ok (.baload, 1) := by decide +kernel
theorem em242_3 : decode prog_9_method_6_code 3 = .ok (.invokestatic 30, 3) := by decide +kernel
theorem em242_6 : decode prog_9_method_6_code 6 = .ok (.istore_n 3, 1) := by decide +kernel
theorem em242_7 : decode prog_9_method_6_code 7 = .ok (.iload_n 3, 1) := by decide +kernel
theorem em242_8 : decode prog_9_method_6_code 8 = .ok (.ifCond .ne 14, 3) := by decide +kernel
theorem em242_11 : decode prog_9_method_6_code 11 = .ok (.aload_n 0, 1) := by decide +kernel
theorem em242_12 : decode prog_9_method_6_code 12 = .ok (.iload_n 2, 1) := by decide +kernel
theorem em242_13 : decode prog_9_method_6_code 13 = .ok (.baload, 1) := by decide +kernel
theorem em242_14 : decode prog_9_method_6_code 14 = .ok (.invokestatic 33, 3) := by decide +kernel
theorem em242_17 : decode prog_9_method_6_code 17 = .ok (.ifCond .ne 5, 3) := by decide +kernel
theorem em242_20 : decode prog_9_method_6_code 20 = .ok (.iconst 1, 1) := by decide +kernel
theorem em242_21 : decode prog_9_method_6_code 21 = .ok (.ireturn, 1) := by decide +kernel
theorem em242_22 : decode prog_9_method_6_code 22 = .ok (.iload_n 2, 1) := by decide +kernel
theorem em242_23 : decode prog_9_method_6_code 23 = .ok (.iconst 1, 1) := by decide +kernel
theorem em242_24 : decode prog_9_method_6_code 24 = .ok (.iadd, 1) := by decide +kernel
theorem em242_25 : decode prog_9_method_6_code 25 = .ok (.istore 4, 2) := by decide +kernel
theorem em242_27 : decode prog_9_method_6_code 27 = .ok (.iload 4, 2) := by decide +kernel
theorem em242_29 : decode prog_9_method_6_code 29 = .ok (.iload_n 1, 1) := by decide +kernel
theorem em242_30 : decode prog_9_method_6_code 30 = .ok (.if_icmp .ge 36, 3) := by decide +kernel
theorem em242_33 : decode prog_9_method_6_code 33 = .ok (.iload_n 3, 1) := by decide +kernel
theorem em242_34 : decode prog_9_method_6_code 34 = .ok (.ifCond .eq 16, 3) := by decide +kernel
theorem em242_37 : decode prog_9_method_6_code 37 = .ok (.aload_n 0, 1) := by decide +kernel
theorem em242_38 : decode prog_9_method_6_code 38 = .ok (.iload 4, 2) := by decide +kernel
theorem em242_40 : decode prog_9_method_6_code 40 = .ok (.baload, 1) := by decide +kernel
theorem em242_41 : decode prog_9_method_6_code 41 = .ok (.invokestatic 30, 3) := by decide +kernel
theorem em242_44 : decode prog_9_method_6_code 44 = .ok (.ifCond .eq 22, 3) := by decide +kernel
theorem em242_47 : decode prog_9_method_6_code 47 = .ok (.goto 13, 3) := by decide +kernel
theorem em242_50 : decode prog_9_method_6_code 50 = .ok (.aload_n 0, 1) := by decide +kernel
theorem em242_51 : decode prog_9_method_6_code 51 = .ok (.iload 4, 2) := by decide +kernel
theorem em242_53 : decode prog_9_method_6_code 53 = .ok (.baload, 1) := by decide +kernel
theorem em242_54 : decode prog_9_method_6_code 54 = .ok (.invokestatic 33, 3) := by decide +kernel
theorem em242_57 : decode prog_9_method_6_code 57 = .ok (.ifCond .eq 9, 3) := by decide +kernel
theorem em242_60 : decode prog_9_method_6_code 60 = .ok (.iinc 4 1, 3) := by decide +kernel
theorem em242_63 : decode prog_9_method_6_code 63 = .ok (.goto (-36), 3) := by decide +kernel
theorem em242_66 : decode prog_9_method_6_code 66 = .ok (.iload 4, 2) := by decide +kernel
theorem em242_68 : decode prog_9_method_6_code 68 = .ok (.iload_n 2, 1) := by decide +kernel
theorem em242_69 : decode prog_9_method_6_code 69 = .ok (.isub, 1) := by decide +kernel
theorem em242_70 : decode prog_9_method_6_code 70 = .ok (.ireturn, 1) := by decide +kernel
set_option maxRecDepth 10000 in
set_option maxHeartbeats 4000000 in
theorem hM_274 : zOKx 274 := by
  intro d hc as I q h hq
  have h : hpr_274 (d + 1) as I := h
  obtain ⟨hd, a, b, rfl, hpre⟩ := h
  cases (show some _ = some q from hq)
  obtain ⟨hb0, hb1, ha⟩ := hpre
  have loop : ∀ (n : Nat) (lo e : Int32), b.toInt + 1 ≤ e.toInt → e.toInt ≤ a.toInt → (2001 - e.toInt).toNat = n → zAt zG0 PZ zbd zpre zpost (d, (zbd 274).1, (zbd 274).2) prog_9_method_6_code "CapitalCase$Tokens" (zRet prog_9_method_6_code (some .int) (zbd 274) (hpost 274 [.inr (.inl (some 1)), .inl a, .inl b] I)) 27 [some (.inr (.inl (some 1))), some (.inl a), some (.inl b), some (.inl lo), some (.inl e)] [] I (0, 0) := by
    intro n
    induction n using Nat.strongRecOn with
    | ind n ih =>
      intro lo e he hea hn
      refine hA_iload (zs_iload em242_27) rfl ?_
      refine hA_iload (zs_iload_n em242_29) rfl ?_
      refine hA_icmp (zs_icmpge em242_30 (t := 66) (by decide)) (fun (c30 : a.toInt ≤ e.toInt) => ?_) (fun (c30 : ¬ a.toInt ≤ e.toInt) => ?_)
      · refine hA_iload (zs_iload em242_66) rfl ?_
        refine hA_iload (zs_iload_n em242_68) rfl ?_
        refine hA_sub (zs_isub em242_69) (by omega) (by omega) (fun z69 hz69 => ?_)
        refine hA_ireturn ⟨rfl, em242_70⟩ ⟨Nat.le_refl _, Nat.le_refl _⟩ ?_
        intro a' b' he'
        cases he'
        exact ⟨_, rfl, ⟨by omega, by omega⟩, rfl⟩
      · refine hA_iload (zs_iload_n em242_33) rfl ?_
        refine hA_if (zs_ifeq em242_34 (t := 50) (by decide)) (fun (c34 : lo.toInt = 0) => ?_) (fun (c34 : ¬ lo.toInt = 0) => ?_)
        · refine hA_aload (zs_aload_n em242_50) rfl ?_
          refine hA_iload (zs_iload em242_51) rfl ?_
          refine hA_baldH (kd := 1) (len := 2000) (zs_bald em242_53) ⟨rfl, rfl, rfl, Or.inl rfl⟩ (by omega) (by show _ < ((2000 : Nat) : Int); omega) (fun z53 hz53 => ?_)
          have hbz53 : ((-128) : Int) ≤ z53.toInt ∧ z53.toInt ≤ 127 := eall rfl hz53
          refine hA_call (as := [.inl z53]) (rest := []) (B' := (0, 0)) (zs_invS em242_54 zl_241 wd_636 wd_637 ((congrFun xo_8 33).trans rfl) xm_209) rfl (Nat.le_of_ble_eq_true rfl) rfl ⟨Nat.zero_le _, Nat.zero_le _⟩ (zpre_of zh_241 ⟨(by show 1 ≤ d; omega), ⟨_, _, rfl, ⟨_, rfl, an_lo _, an_hi _⟩, rfl⟩, hF_nil, fun h => by cases h⟩) (fun r54 I54 hp54 => ?_)
          replace hp54 := zpost_of zh_241 hp54
          rcases zq_241 hp54 with ⟨z54, rfl, hz54l, hz54h, rfl⟩ | ⟨z54', rfl, hz54'l, hz54'h, rfl, ha54_0⟩
          · refine hA_if (zs_ifeq em242_57 (t := 66) (by decide)) (fun (c57 : z54.toInt = 0) => ?_) (fun (c57 : ¬ z54.toInt = 0) => ?_)
            · refine hA_iload (zs_iload em242_66) rfl ?_
              refine hA_iload (zs_iload_n em242_68) rfl ?_
              refine hA_sub (zs_isub em242_69) (by omega) (by omega) (fun z69' hz69' => ?_)
              refine hA_ireturn ⟨rfl, em242_70⟩ ⟨Nat.le_refl _, Nat.le_refl _⟩ ?_
              intro a' b' he'
              cases he'
              exact ⟨_, rfl, ⟨by omega, by omega⟩, rfl⟩
            · exfalso
              omega
          · have ha54_0 := ha54_0 _ rfl
            refine hA_if (zs_ifeq em242_57 (t := 66) (by decide)) (fun (c57' : z54'.toInt = 0) => ?_) (fun (c57' : ¬ z54'.toInt = 0) => ?_)
            · exfalso
              omega
            · refine hA_iinc (c := 1) (zs_iinc (k := 1) em242_60 (by decide +kernel)) (by decide +kernel) rfl ⟨Nat.le_of_ble_eq_true rfl, rfl⟩ (by omega) (by omega) (fun z60 hz60 => ?_)
              show zAt _ _ _ _ _ _ _ _ _ _ [some (.inr (.inl (some 1))), some (.inl a), some (.inl b), some (.inl lo), some (.inl z60)] _ _ _
              refine hA_goto (zs_goto em242_63 (t := 27) (by decide)) ?_
              exact ih _ (by omega) lo z60 (by omega) (by omega) rfl
        · refine hA_aload (zs_aload_n em242_37) rfl ?_
          refine hA_iload (zs_iload em242_38) rfl ?_
          refine hA_baldH (kd := 1) (len := 2000) (zs_bald em242_40) ⟨rfl, rfl, rfl, Or.inl rfl⟩ (by omega) (by show _ < ((2000 : Nat) : Int); omega) (fun z40 hz40 => ?_)
          have hbz40 : ((-128) : Int) ≤ z40.toInt ∧ z40.toInt ≤ 127 := eall rfl hz40
          refine hA_call (as := [.inl z40]) (rest := []) (B' := (0, 0)) (zs_invS em242_41 zl_242 wd_633 wd_634 ((congrFun xo_8 30).trans rfl) xm_210) rfl (Nat.le_of_ble_eq_true rfl) rfl ⟨Nat.zero_le _, Nat.zero_le _⟩ (zpre_of zh_242 ⟨(by show 1 ≤ d; omega), ⟨_, _, rfl, ⟨_, rfl, an_lo _, an_hi _⟩, rfl⟩, hF_nil, fun h => by cases h⟩) (fun r41 I41 hp41 => ?_)
          replace hp41 := zpost_of zh_242 hp41
          rcases zq_242 hp41 with ⟨z41, rfl, hz41l, hz41h, rfl⟩ | ⟨z41', rfl, hz41'l, hz41'h, rfl, ha41_0⟩
          · refine hA_if (zs_ifeq em242_44 (t := 66) (by decide)) (fun (c44 : z41.toInt = 0) => ?_) (fun (c44 : ¬ z41.toInt = 0) => ?_)
            · refine hA_iload (zs_iload em242_66) rfl ?_
              refine hA_iload (zs_iload_n em242_68) rfl ?_
              refine hA_sub (zs_isub em242_69) (by omega) (by omega) (fun z69'' hz69'' => ?_)
              refine hA_ireturn ⟨rfl, em242_70⟩ ⟨Nat.le_refl _, Nat.le_refl _⟩ ?_
              intro a' b' he'
              cases he'
              exact ⟨_, rfl, ⟨by omega, by omega⟩, rfl⟩
            · exfalso
              omega
          · have ha41_0 := ha41_0 _ rfl
            refine hA_if (zs_ifeq em242_44 (t := 66) (by decide)) (fun (c44' : z41'.toInt = 0) => ?_) (fun (c44' : ¬ z41'.toInt = 0) => ?_)
            · exfalso
              omega
            · refine hA_goto (zs_goto em242_47 (t := 60) (by decide)) ?_
              refine hA_iinc (c := 1) (zs_iinc (k := 1) em242_60 (by decide +kernel)) (by decide +kernel) rfl ⟨Nat.le_of_ble_eq_true rfl, rfl⟩ (by omega) (by omega) (fun z60' hz60' => ?_)
              show zAt _ _ _ _ _ _ _ _ _ _ [some (.inr (.inl (some 1))), some (.inl a), some (.inl b), some (.inl lo), some (.inl z60')] _ _ _
              refine hA_goto (zs_goto em242_63 (t := 27) (by decide)) ?_
              exact ih _ (by omega) lo z60' (by omega) (by omega) rfl
  refine hmet (L := [some (.inr (.inl (some 1))), some (.inl a), some (.inl b), none, none]) (by decide) (Nat.le_of_ble_eq_true rfl) hc rfl ?_
  refine hA_aload (zs_aload_n em242_0) rfl ?_
  refine hA_iload (zs_iload_n em242_1) rfl ?_
  refine hA_baldH (kd := 1) (len := 2000) (zs_bald em242_2) ⟨rfl, rfl, rfl, Or.inl rfl⟩ (by omega) (by show _ < ((2000 : Nat) : Int); omega) (fun z2 hz2 => ?_)
  have hbz2 : ((-128) : Int) ≤ z2.toInt ∧ z2.toInt ≤ 127 := eall rfl hz2
  refine hA_call (as := [.inl z2]) (rest := []) (B' := (0, 0)) (zs_invS em242_3 zl_242 wd_633 wd_634 ((congrFun xo_8 30).trans rfl) xm_210) rfl (Nat.le_of_ble_eq_true rfl) rfl ⟨Nat.zero_le _, Nat.zero_le _⟩ (zpre_of zh_242 ⟨(by show 1 ≤ d; omega), ⟨_, _, rfl, ⟨_, rfl, an_lo _, an_hi _⟩, rfl⟩, hF_nil, fun h => by cases h⟩) (fun r3 I3 hp3 => ?_)
  replace hp3 := zpost_of zh_242 hp3
  rcases zq_242 hp3 with ⟨z3, rfl, hz3l, hz3h, rfl⟩ | ⟨z3', rfl, hz3'l, hz3'h, rfl, ha3_0⟩
  · refine hA_istore (L' := [some (.inr (.inl (some 1))), some (.inl a), some (.inl b), some (.inl z3), none]) (zs_istore_n em242_6) ⟨Nat.le_of_ble_eq_true rfl, rfl⟩ rfl ?_
    refine hA_iload (zs_iload_n em242_7) rfl ?_
    refine hA_if (zs_ifne em242_8 (t := 22) (by decide)) (fun (c8 : ¬ z3.toInt = 0) => ?_) (fun (c8 : ¬ ¬ z3.toInt = 0) => ?_)
    · exfalso
      omega
    · refine hA_aload (zs_aload_n em242_11) rfl ?_
      refine hA_iload (zs_iload_n em242_12) rfl ?_
      refine hA_baldH (kd := 1) (len := 2000) (zs_bald em242_13) ⟨rfl, rfl, rfl, Or.inl rfl⟩ (by omega) (by show _ < ((2000 : Nat) : Int); omega) (fun z13 hz13 => ?_)
      have hbz13 : ((-128) : Int) ≤ z13.toInt ∧ z13.toInt ≤ 127 := eall rfl hz13
      refine hA_call (as := [.inl z13]) (rest := []) (B' := (0, 0)) (zs_invS em242_14 zl_241 wd_636 wd_637 ((congrFun xo_8 33).trans rfl) xm_209) rfl (Nat.le_of_ble_eq_true rfl) rfl ⟨Nat.zero_le _, Nat.zero_le _⟩ (zpre_of zh_241 ⟨(by show 1 ≤ d; omega), ⟨_, _, rfl, ⟨_, rfl, an_lo _, an_hi _⟩, rfl⟩, hF_nil, fun h => by cases h⟩) (fun r14 I14 hp14 => ?_)
      replace hp14 := zpost_of zh_241 hp14
      rcases zq_241 hp14 with ⟨z14, rfl, hz14l, hz14h, rfl⟩ | ⟨z14', rfl, hz14'l, hz14'h, rfl, ha14_0⟩
      · refine hA_if (zs_ifne em242_17 (t := 22) (by decide)) (fun (c17 : ¬ z14.toInt = 0) => ?_) (fun (c17 : ¬ ¬ z14.toInt = 0) => ?_)
        · exfalso
          omega
        · refine hA_const (k := 1) (zs_iconst (v := 1) em242_20 (by decide +kernel)) (by decide +kernel) (fun z20 hz20 => ?_)
          refine hA_ireturn ⟨rfl, em242_21⟩ ⟨Nat.le_refl _, Nat.le_refl _⟩ ?_
          intro a' b' he'
          cases he'
          exact ⟨_, rfl, ⟨by omega, by omega⟩, rfl⟩
      · have ha14_0 := ha14_0 _ rfl
        refine hA_if (zs_ifne em242_17 (t := 22) (by decide)) (fun (c17' : ¬ z14'.toInt = 0) => ?_) (fun (c17' : ¬ ¬ z14'.toInt = 0) => ?_)
        · refine hA_iload (zs_iload_n em242_22) rfl ?_
          refine hA_const (k := 1) (zs_iconst (v := 1) em242_23 (by decide +kernel)) (by decide +kernel) (fun z23 hz23 => ?_)
          refine hA_add (zs_iadd em242_24) (by omega) (by omega) (fun z24 hz24 => ?_)
          refine hA_istore (L' := [some (.inr (.inl (some 1))), some (.inl a), some (.inl b), some (.inl z3), some (.inl z24)]) (zs_istore em242_25) ⟨Nat.le_of_ble_eq_true rfl, rfl⟩ rfl ?_
          exact loop _ z3 z24 (by omega) (by omega) rfl
        · exfalso
          omega
  · have ha3_0 := ha3_0 _ rfl
    refine hA_istore (L' := [some (.inr (.inl (some 1))), some (.inl a), some (.inl b), some (.inl z3'), none]) (zs_istore_n em242_6) ⟨Nat.le_of_ble_eq_true rfl, rfl⟩ rfl ?_
    refine hA_iload (zs_iload_n em242_7) rfl ?_
    refine hA_if (zs_ifne em242_8 (t := 22) (by decide)) (fun (c8' : ¬ z3'.toInt = 0) => ?_) (fun (c8' : ¬ ¬ z3'.toInt = 0) => ?_)
    · refine hA_iload (zs_iload_n em242_22) rfl ?_
      refine hA_const (k := 1) (zs_iconst (v := 1) em242_23 (by decide +kernel)) (by decide +kernel) (fun z23' hz23' => ?_)
      refine hA_add (zs_iadd em242_24) (by omega) (by omega) (fun z24' hz24' => ?_)
      refine hA_istore (L' := [some (.inr (.inl (some 1))), some (.inl a), some (.inl b), some (.inl z3'), some (.inl z24')]) (zs_istore em242_25) ⟨Nat.le_of_ble_eq_true rfl, rfl⟩ rfl ?_
      exact loop _ z3' z24' (by omega) (by omega) rfl
    · exfalso
      omega
theorem em240_0 : decode prog_9_method_8_code 0 = .ok (.iconst 0, 1) := by decide +kernel
theorem em240_1 : decode prog_9_method_8_code 1 = .ok (.istore_n 3, 1) := by decide +kernel
theorem em240_2 : decode prog_9_method_8_code 2 = .ok (.iload_n 3, 1) := by decide +kernel
theorem em240_3 : decode prog_9_method_8_code 3 = .ok (.bipush 21, 2) := by decide +kernel
theorem em240_5 : decode prog_9_method_8_code 5 = .ok (.if_icmp .ge 25, 3) := by decide +kernel
theorem em240_8 : decode prog_9_method_8_code 8 = .ok (.iload_n 3, 1) := by decide +kernel
theorem em240_9 : decode prog_9_method_8_code 9 = .ok (.aload_n 0, 1) := by decide +kernel
theorem em240_10 : decode prog_9_method_8_code 10 = .ok (.iload_n 1, 1) := by decide +kernel
theorem em240_11 : decode prog_9_method_8_code 11 = .ok (.iload_n 2, 1) := by decide +kernel
theorem em240_12 : decode prog_9_method_8_code 12 = .ok (.invokestatic 47, 3) := by decide +kernel
theorem em240_15 : decode prog_9_method_8_code 15 = .ok (.ifCond .eq 9, 3) := by decide +kernel
theorem em240_18 : decode prog_9_method_8_code 18 = .ok (.sipush 128, 3) := by decide +kernel
theorem em240_21 : decode prog_9_method_8_code 21 = .ok (.iload_n 3, 1) := by decide +kernel
theorem em240_22 : decode prog_9_method_8_code 22 = .ok (.iadd, 1) := by decide +kernel
theorem em240_23 : decode prog_9_method_8_code 23 = .ok (.ireturn, 1) := by decide +kernel
theorem em240_24 : decode prog_9_method_8_code 24 = .ok (.iinc 3 1, 3) := by decide +kernel
theorem em240_27 : decode prog_9_method_8_code 27 = .ok (.goto (-25), 3) := by decide +kernel
theorem em240_30 : decode prog_9_method_8_code 30 = .ok (.iconst 2, 1) := by decide +kernel
theorem em240_31 : decode prog_9_method_8_code 31 = .ok (.ireturn, 1) := by decide +kernel
set_option maxRecDepth 10000 in
set_option maxHeartbeats 4000000 in
theorem hM_272 : zOKx 272 := by
  intro d hc as I q h hq
  have h : hpr_272 (d + 1) as I := h
  obtain ⟨hd, a, b, rfl, hpre⟩ := h
  cases (show some _ = some q from hq)
  obtain ⟨ha0, hb0, hb1, hab⟩ := hpre
  have loop : ∀ (n : Nat) (w : Int32) (hw : 0 ≤ w.toInt), (21 - w.toInt).toNat = n → zAt zG0 PZ zbd zpre zpost (d, (zbd 272).1, (zbd 272).2) prog_9_method_8_code "CapitalCase$Tokens" (zRet prog_9_method_8_code (some .int) (zbd 272) (hpost 272 [.inr (.inl (some 1)), .inl a, .inl b] I)) 2 [some (.inr (.inl (some 1))), some (.inl a), some (.inl b), some (.inl w)] [] I (0, 0) := by
    intro n
    induction n using Nat.strongRecOn with
    | ind n ih =>
      intro w hw hn
      refine hA_iload (zs_iload_n em240_2) rfl ?_
      refine hA_const (k := 21) (zs_bipush (v := 21) em240_3 (by decide +kernel)) (by decide +kernel) (fun z3 hz3 => ?_)
      refine hA_icmp (zs_icmpge em240_5 (t := 30) (by decide)) (fun (c5 : z3.toInt ≤ w.toInt) => ?_) (fun (c5 : ¬ z3.toInt ≤ w.toInt) => ?_)
      · refine hA_const (k := 2) (zs_iconst (v := 2) em240_30 (by decide +kernel)) (by decide +kernel) (fun z30 hz30 => ?_)
        refine hA_ireturn ⟨rfl, em240_31⟩ ⟨Nat.le_refl _, Nat.le_refl _⟩ ?_
        intro a' b' he'
        cases he'
        exact ⟨_, rfl, ⟨by omega, by omega⟩, rfl⟩
      · refine hA_iload (zs_iload_n em240_8) rfl ?_
        refine hA_aload (zs_aload_n em240_9) rfl ?_
        refine hA_iload (zs_iload_n em240_10) rfl ?_
        refine hA_iload (zs_iload_n em240_11) rfl ?_
        refine hA_call (as := [.inl w, .inr (.inl (some 1)), .inl a, .inl b]) (rest := []) (B' := (0, 0)) (zs_invS em240_12 zl_273 wd_645 wd_646 ((congrFun xo_8 47).trans rfl) xm_241) rfl (Nat.le_of_ble_eq_true rfl) rfl ⟨Nat.zero_le _, Nat.zero_le _⟩ (hpre_of rfl (show hpr_273 d [.inl w, .inr (.inl (some 1)), .inl a, .inl b] I from ⟨by show 6 ≤ d; omega, w, a, b, rfl, ⟨⟨by omega, by omega⟩, by omega, by omega, by omega, by omega⟩⟩)) (fun r12 I12 hp12 => ?_)
        replace hp12 : hpo_273 _ _ _ _ := hpost_of rfl hp12
        replace hp12 := hp12 w a b rfl
        obtain ⟨x12, rfl, hx12, rfl⟩ := hp12
        refine hA_if (zs_ifeq em240_15 (t := 24) (by decide)) (fun (c15 : x12.toInt = 0) => ?_) (fun (c15 : ¬ x12.toInt = 0) => ?_)
        · refine hA_iinc (c := 1) (zs_iinc (k := 1) em240_24 (by decide +kernel)) (by decide +kernel) rfl ⟨Nat.le_of_ble_eq_true rfl, rfl⟩ (by omega) (by omega) (fun z24 hz24 => ?_)
          show zAt _ _ _ _ _ _ _ _ _ _ [some (.inr (.inl (some 1))), some (.inl a), some (.inl b), some (.inl z24)] _ _ _
          refine hA_goto (zs_goto em240_27 (t := 2) (by decide)) ?_
          exact ih _ (by omega) z24 (by omega) rfl
        · refine hA_const (k := 128) (zs_sipush (v := 128) em240_18 (by decide +kernel)) (by decide +kernel) (fun z18 hz18 => ?_)
          refine hA_iload (zs_iload_n em240_21) rfl ?_
          refine hA_add (zs_iadd em240_22) (by omega) (by omega) (fun z22 hz22 => ?_)
          refine hA_ireturn ⟨rfl, em240_23⟩ ⟨Nat.le_refl _, Nat.le_refl _⟩ ?_
          intro a' b' he'
          cases he'
          exact ⟨_, rfl, ⟨by omega, by omega⟩, rfl⟩
  refine hmet (L := [some (.inr (.inl (some 1))), some (.inl a), some (.inl b), none]) (by decide) (Nat.le_of_ble_eq_true rfl) hc rfl ?_
  refine hA_const (k := 0) (zs_iconst (v := 0) em240_0 (by decide +kernel)) (by decide +kernel) (fun z0 hz0 => ?_)
  refine hA_istore (L' := [some (.inr (.inl (some 1))), some (.inl a), some (.inl b), some (.inl z0)]) (zs_istore_n em240_1) ⟨Nat.le_of_ble_eq_true rfl, rfl⟩ rfl ?_
  exact loop _ z0 (by omega) rfl
theorem em48_0 : decode prog_9_method_2_code 0 = .ok (.iconst 0, 1) := by decide +kernel
theorem em48_1 : decode prog_9_method_2_code 1 = .ok (.istore_n 3, 1) := by decide +kernel
theorem em48_2 : decode prog_9_method_2_code 2 = .ok (.iconst 0, 1) := by decide +kernel
theorem em48_3 : decode prog_9_method_2_code 3 = .ok (.istore 4, 2) := by decide +kernel
theorem em48_5 : decode prog_9_method_2_code 5 = .ok (.iload 4, 2) := by decide +kernel
theorem em48_7 : decode prog_9_method_2_code 7 = .ok (.sipush 400, 3) := by decide +kernel
theorem em48_10 : decode prog_9_method_2_code 10 = .ok (.if_icmp .gt 119, 3) := by decide +kernel
theorem em48_13 : decode prog_9_method_2_code 13 = .ok (.iload_n 3, 1) := by decide +kernel
theorem em48_14 : decode prog_9_method_2_code 14 = .ok (.iload_n 2, 1) := by decide +kernel
theorem em48_15 : decode prog_9_method_2_code 15 = .ok (.if_icmp .ge 18, 3) := by decide +kernel
theorem em48_18 : decode prog_9_method_2_code 18 = .ok (.aload_n 1, 1) := by decide +kernel
theorem em48_19 : decode prog_9_method_2_code 19 = .ok (.iload_n 3, 1) := by decide +kernel
theorem em48_20 : decode prog_9_method_2_code 20 = .ok (.baload, 1) := by decide +kernel
theorem em48_21 : decode prog_9_method_2_code 21 = .ok (.invokestatic 19, 3) := by decide +kernel
theorem em48_24 : decode prog_9_method_2_code 24 = .ok (.ifCond .eq 9, 3) := by decide +kernel
theorem em48_27 : decode prog_9_method_2_code 27 = .ok (.iinc 3 1, 3) := by decide +kernel
theorem em48_30 : decode prog_9_method_2_code 30 = .ok (.goto (-17), 3) := by decide +kernel
theorem em48_33 : decode prog_9_method_2_code 33 = .ok (.aload_n 0, 1) := by decide +kernel
theorem em48_34 : decode prog_9_method_2_code 34 = .ok (.getfield 13, 3) := by decide +kernel
theorem em48_37 : decode prog_9_method_2_code 37 = .ok (.iload 4, 2) := by decide +kernel
theorem em48_39 : decode prog_9_method_2_code 39 = .ok (.iload_n 3, 1) := by decide +kernel
theorem em48_40 : decode prog_9_method_2_code 40 = .ok (.iastore, 1) := by decide +kernel
theorem em48_41 : decode prog_9_method_2_code 41 = .ok (.aload_n 0, 1) := by decide +kernel
theorem em48_42 : decode prog_9_method_2_code 42 = .ok (.getfield 16, 3) := by decide +kernel
theorem em48_45 : decode prog_9_method_2_code 45 = .ok (.iload 4, 2) := by decide +kernel
theorem em48_47 : decode prog_9_method_2_code 47 = .ok (.iload_n 3, 1) := by decide +kernel
theorem em48_48 : decode prog_9_method_2_code 48 = .ok (.iload_n 2, 1) := by decide +kernel
theorem em48_49 : decode prog_9_method_2_code 49 = .ok (.if_icmp .ge 12, 3) := by decide +kernel
theorem em48_52 : decode prog_9_method_2_code 52 = .ok (.aload_n 1, 1) := by decide +kernel
theorem em48_53 : decode prog_9_method_2_code 53 = .ok (.iload_n 2, 1) := by decide +kernel
theorem em48_54 : decode prog_9_method_2_code 54 = .ok (.iload_n 3, 1) := by decide +kernel
theorem em48_55 : decode prog_9_method_2_code 55 = .ok (.invokestatic 23, 3) := by decide +kernel
theorem em48_58 : decode prog_9_method_2_code 58 = .ok (.goto 4, 3) := by decide +kernel
theorem em48_61 : decode prog_9_method_2_code 61 = .ok (.iconst 0, 1) := by decide +kernel
theorem em48_62 : decode prog_9_method_2_code 62 = .ok (.iastore, 1) := by decide +kernel
theorem em48_63 : decode prog_9_method_2_code 63 = .ok (.aload_n 0, 1) := by decide +kernel
theorem em48_64 : decode prog_9_method_2_code 64 = .ok (.getfield 9, 3) := by decide +kernel
theorem em48_67 : decode prog_9_method_2_code 67 = .ok (.iload 4, 2) := by decide +kernel
theorem em48_69 : decode prog_9_method_2_code 69 = .ok (.iload_n 3, 1) := by decide +kernel
theorem em48_70 : decode prog_9_method_2_code 70 = .ok (.iload_n 2, 1) := by decide +kernel
theorem em48_71 : decode prog_9_method_2_code 71 = .ok (.if_icmp .ge 18, 3) := by decide +kernel
theorem em48_74 : decode prog_9_method_2_code 74 = .ok (.aload_n 1, 1) := by decide +kernel
theorem em48_75 : decode prog_9_method_2_code 75 = .ok (.iload_n 3, 1) := by decide +kernel
theorem em48_76 : decode prog_9_method_2_code 76 = .ok (.aload_n 0, 1) := by decide +kernel
theorem em48_77 : decode prog_9_method_2_code 77 = .ok (.getfield 16, 3) := by decide +kernel
theorem em48_80 : decode prog_9_method_2_code 80 = .ok (.iload 4, 2) := by decide +kernel
theorem em48_82 : decode prog_9_method_2_code 82 = .ok (.iaload, 1) := by decide +kernel
theorem em48_83 : decode prog_9_method_2_code 83 = .ok (.invokestatic 27, 3) := by decide +kernel
theorem em48_86 : decode prog_9_method_2_code 86 = .ok (.goto 4, 3) := by decide +kernel
theorem em48_89 : decode prog_9_method_2_code 89 = .ok (.iconst 0, 1) := by decide +kernel
theorem em48_90 : decode prog_9_method_2_code 90 = .ok (.iastore, 1) := by decide +kernel
theorem em48_91 : decode prog_9_method_2_code 91 = .ok (.aload_n 0, 1) := by decide +kernel
theorem em48_92 : decode prog_9_method_2_code 92 = .ok (.getfield 9, 3) := by decide +kernel
theorem em48_95 : decode prog_9_method_2_code 95 = .ok (.iload 4, 2) := by decide +kernel
theorem em48_97 : decode prog_9_method_2_code 97 = .ok (.iaload, 1) := by decide +kernel
theorem em48_98 : decode prog_9_method_2_code 98 = .ok (.ifCond .eq 14, 3) := by decide +kernel
theorem em48_101 : decode prog_9_method_2_code 101 = .ok (.aload_n 0, 1) := by decide +kernel
theorem em48_102 : decode prog_9_method_2_code 102 = .ok (.getfield 9, 3) := by decide +kernel
theorem em48_105 : decode prog_9_method_2_code 105 = .ok (.iload 4, 2) := by decide +kernel
theorem em48_107 : decode prog_9_method_2_code 107 = .ok (.iaload, 1) := by decide +kernel
theorem em48_108 : decode prog_9_method_2_code 108 = .ok (.iconst 1, 1) := by decide +kernel
theorem em48_109 : decode prog_9_method_2_code 109 = .ok (.if_icmp .ne 4, 3) := by decide +kernel
theorem em48_112 : decode prog_9_method_2_code 112 = .ok (.return_, 1) := by decide +kernel
theorem em48_113 : decode prog_9_method_2_code 113 = .ok (.iload_n 3, 1) := by decide +kernel
theorem em48_114 : decode prog_9_method_2_code 114 = .ok (.aload_n 0, 1) := by decide +kernel
theorem em48_115 : decode prog_9_method_2_code 115 = .ok (.getfield 16, 3) := by decide +kernel
theorem em48_118 : decode prog_9_method_2_code 118 = .ok (.iload 4, 2) := by decide +kernel
theorem em48_120 : decode prog_9_method_2_code 120 = .ok (.iaload, 1) := by decide +kernel
theorem em48_121 : decode prog_9_method_2_code 121 = .ok (.iadd, 1) := by decide +kernel
theorem em48_122 : decode prog_9_method_2_code 122 = .ok (.istore_n 3, 1) := by decide +kernel
theorem em48_123 : decode prog_9_method_2_code 123 = .ok (.iinc 4 1, 3) := by decide +kernel
theorem em48_126 : decode prog_9_method_2_code 126 = .ok (.goto (-121), 3) := by decide +kernel
theorem em48_129 : decode prog_9_method_2_code 129 = .ok (.return_, 1) := by decide +kernel
set_option maxRecDepth 10000 in
set_option maxHeartbeats 4000000 in
theorem hM_52 : zOKh 52 zc_52 := by
  intro d hc as I q h hq
  obtain ⟨hd, ⟨_, _, rfl, rfl, ⟨_, _, rfl, rfl, ⟨_, _, rfl, ⟨x2, rfl, hx2, hx2b⟩, rfl⟩⟩⟩, hF, hI⟩ := h
  have hd : 14 ≤ d + 1 := hd
  have hx2 : (0 : Int) ≤ x2.toInt := hx2
  have hx2b : x2.toInt ≤ (2000 : Int) := hx2b
  have hInv : zInv I := hI rfl
  cases (show some _ = some q from hq)
  have loop : ∀ (n : Nat) (IJ : zI) (aa tk : Int32) (hFr : ∀ id, id < 4096 → IJ id = I id) (hIJ : zInv IJ) (hat : 0 ≤ aa.toInt) (hat2 : aa.toInt ≤ x2.toInt) (htk : 0 ≤ tk.toInt) (htk2 : tk.toInt ≤ 401), (402 - tk.toInt).toNat = n → zAt zG0 PZ zbd zpre zpost (d, (zbd 52).1, (zbd 52).2) prog_9_method_2_code "CapitalCase$Tokens" (zRet prog_9_method_2_code none (zbd 52) (fun r I' => aPost zInv zc_52 [.inr (.inl (some 23)), .inr (.inl (some 1)), .inl x2] I r I')) 5 [some (.inr (.inl (some 23))), some (.inr (.inl (some 1))), some (.inl x2), some (.inl aa), some (.inl tk)] [] IJ (0, 0) := by
    intro n
    induction n using Nat.strongRecOn with
    | ind n ih =>
      intro IJ aa tk hFr hIJ hat hat2 htk htk2 hn
      have h33 : ∀ aa : Int32, 0 ≤ aa.toInt → aa.toInt ≤ x2.toInt → tk.toInt ≤ 400 → zAt zG0 PZ zbd zpre zpost (d, (zbd 52).1, (zbd 52).2) prog_9_method_2_code "CapitalCase$Tokens" (zRet prog_9_method_2_code none (zbd 52) (fun r I' => aPost zInv zc_52 [.inr (.inl (some 23)), .inr (.inl (some 1)), .inl x2] I r I')) 33 [some (.inr (.inl (some 23))), some (.inr (.inl (some 1))), some (.inl x2), some (.inl aa), some (.inl tk)] [] IJ (0, 0) := by
        intro aa hat hat2 ht4
        refine hA_aload (zs_aload_n em48_33) rfl ?_
        refine hA_getf2 (r := 25) (zs_getf (T := TX7) (M := 3) (ci := 7) (j := 1) em48_34 rfl inX7 (by decide) wd_270 ((congrFun xo_8 13).trans rfl)) ⟨_, rfl, rfl⟩ ?_
        refine hA_iload (zs_iload em48_37) rfl ?_
        refine hA_iload (zs_iload_n em48_39) rfl ?_
        refine hA_iast (kd := 25) (len := 401) (zs_iast zInj0 em48_40) ⟨rfl, rfl, rfl⟩ (by omega) (by show _ < ((401 : Nat) : Int); omega) ?_
        refine hA_aload (zs_aload_n em48_41) rfl ?_
        refine hA_getf2 (r := 26) (zs_getf (T := TX7) (M := 3) (ci := 7) (j := 2) em48_42 rfl inX7 (by decide) wd_272 ((congrFun xo_8 16).trans rfl)) ⟨_, rfl, rfl⟩ ?_
        refine hA_iload (zs_iload em48_45) rfl ?_
        refine hA_iload (zs_iload_n em48_47) rfl ?_
        refine hA_iload (zs_iload_n em48_48) rfl ?_
        refine hA_icmp (zs_icmpge em48_49 (t := 61) (by decide)) (fun (c49 : x2.toInt ≤ aa.toInt) => ?_) (fun (c49 : ¬ x2.toInt ≤ aa.toInt) => ?_)
        · refine hA_const (k := 0) (zs_iconst (v := 0) em48_61 (by decide +kernel)) (by decide +kernel) (fun z61 hz61 => ?_)
          refine hA_iast (kd := 26) (len := 401) (zs_iast zInj0 em48_62) ⟨rfl, rfl, rfl⟩ (by omega) (by show _ < ((401 : Nat) : Int); omega) ?_
          refine hA_aload (zs_aload_n em48_63) rfl ?_
          refine hA_getf2 (r := 24) (zs_getf (T := TX7) (M := 3) (ci := 7) (j := 0) em48_64 rfl inX7 (by decide) wd_268 ((congrFun xo_8 9).trans rfl)) ⟨_, rfl, rfl⟩ ?_
          refine hA_iload (zs_iload em48_67) rfl ?_
          refine hA_iload (zs_iload_n em48_69) rfl ?_
          refine hA_iload (zs_iload_n em48_70) rfl ?_
          refine hA_icmp (zs_icmpge em48_71 (t := 89) (by decide)) (fun (c71 : x2.toInt ≤ aa.toInt) => ?_) (fun (c71 : ¬ x2.toInt ≤ aa.toInt) => ?_)
          · refine hA_const (k := 0) (zs_iconst (v := 0) em48_89 (by decide +kernel)) (by decide +kernel) (fun z89 hz89 => ?_)
            refine hA_iast (kd := 24) (len := 401) (zs_iast zInj0 em48_90) ⟨rfl, rfl, rfl⟩ (by omega) (by show _ < ((401 : Nat) : Int); omega) ?_
            refine hA_aload (zs_aload_n em48_91) rfl ?_
            refine hA_getf2 (r := 24) (zs_getf (T := TX7) (M := 3) (ci := 7) (j := 0) em48_92 rfl inX7 (by decide) wd_268 ((congrFun xo_8 9).trans rfl)) ⟨_, rfl, rfl⟩ ?_
            refine hA_iload (zs_iload em48_95) rfl ?_
            refine hA_iald (kd := 24) (len := 401) (zs_iald em48_97) ⟨rfl, rfl, rfl⟩ (by omega) (by show _ < ((401 : Nat) : Int); omega) (fun z97 hz97 => ?_)
            rw [zv_at] at hz97
            refine hA_if (zs_ifeq em48_98 (t := 112) (by decide)) (fun (c98 : z97.toInt = 0) => ?_) (fun (c98 : ¬ z97.toInt = 0) => ?_)
            · refine hA_return ⟨rfl, em48_112⟩ ⟨Nat.le_refl _, Nat.le_refl _⟩ ?_
              exact ⟨⟨_, List.mem_cons_self, rfl, hCh_nil, (fun id hl hn => (zupd_hi2 hl).trans ((zupd_hi2 hl).trans ((zupd_hi2 hl).trans (hFr id hl)))), (fun _ h => absurd h List.not_mem_nil)⟩, (fun _ => zInv_tok3 hIJ (by omega) (by omega) (by omega) (by omega) (by omega) ⟨by omega, by omega⟩ (by omega)), (fun h => by cases h)⟩
            · refine hA_aload (zs_aload_n em48_101) rfl ?_
              refine hA_getf2 (r := 24) (zs_getf (T := TX7) (M := 3) (ci := 7) (j := 0) em48_102 rfl inX7 (by decide) wd_268 ((congrFun xo_8 9).trans rfl)) ⟨_, rfl, rfl⟩ ?_
              refine hA_iload (zs_iload em48_105) rfl ?_
              refine hA_iald (kd := 24) (len := 401) (zs_iald em48_107) ⟨rfl, rfl, rfl⟩ (by omega) (by show _ < ((401 : Nat) : Int); omega) (fun z107 hz107 => ?_)
              rw [zv_at] at hz107
              refine hA_const (k := 1) (zs_iconst (v := 1) em48_108 (by decide +kernel)) (by decide +kernel) (fun z108 hz108 => ?_)
              refine hA_icmp (zs_icmpne em48_109 (t := 113) (by decide)) (fun (c109 : ¬ z107.toInt = z108.toInt) => ?_) (fun (c109 : ¬ ¬ z107.toInt = z108.toInt) => ?_)
              · refine hA_iload (zs_iload_n em48_113) rfl ?_
                refine hA_aload (zs_aload_n em48_114) rfl ?_
                refine hA_getf2 (r := 26) (zs_getf (T := TX7) (M := 3) (ci := 7) (j := 2) em48_115 rfl inX7 (by decide) wd_272 ((congrFun xo_8 16).trans rfl)) ⟨_, rfl, rfl⟩ ?_
                refine hA_iload (zs_iload em48_118) rfl ?_
                refine hA_iald (kd := 26) (len := 401) (zs_iald em48_120) ⟨rfl, rfl, rfl⟩ (by omega) (by show _ < ((401 : Nat) : Int); omega) (fun z120 hz120 => ?_)
                rw [zv_nk (by decide) (by omega) (by omega)] at hz120
                rw [zv_at] at hz120
                refine hA_add (zs_iadd em48_121) (by omega) (by omega) (fun z121 hz121 => ?_)
                refine hA_istore (L' := [some (.inr (.inl (some 23))), some (.inr (.inl (some 1))), some (.inl x2), some (.inl z121), some (.inl tk)]) (zs_istore_n em48_122) ⟨Nat.le_of_ble_eq_true rfl, rfl⟩ rfl ?_
                refine hA_iinc (c := 1) (zs_iinc (k := 1) em48_123 (by decide +kernel)) (by decide +kernel) rfl ⟨Nat.le_of_ble_eq_true rfl, rfl⟩ (by omega) (by omega) (fun z123 hz123 => ?_)
                show zAt _ _ _ _ _ _ _ _ _ _ [some (.inr (.inl (some 23))), some (.inr (.inl (some 1))), some (.inl x2), some (.inl z121), some (.inl z123)] _ _ _
                refine hA_goto (zs_goto em48_126 (t := 5) (by decide)) ?_
                exact ih _ (by omega) (zupd (zupd (zupd IJ (zid 25 tk.toInt.toNat) aa) (zid 26 tk.toInt.toNat) z61) (zid 24 tk.toInt.toNat) z89) z121 z123 (by intro id hl; exact (zupd_hi2 hl).trans ((zupd_hi2 hl).trans ((zupd_hi2 hl).trans (hFr id hl)))) (zInv_tok3 hIJ (by omega) (by omega) (by omega) (by omega) (by omega) ⟨by omega, by omega⟩ (by omega)) (by omega) (by omega) (by omega) (by omega) rfl
              · refine hA_return ⟨rfl, em48_112⟩ ⟨Nat.le_refl _, Nat.le_refl _⟩ ?_
                exact ⟨⟨_, List.mem_cons_self, rfl, hCh_nil, (fun id hl hn => (zupd_hi2 hl).trans ((zupd_hi2 hl).trans ((zupd_hi2 hl).trans (hFr id hl)))), (fun _ h => absurd h List.not_mem_nil)⟩, (fun _ => zInv_tok3 hIJ (by omega) (by omega) (by omega) (by omega) (by omega) ⟨by omega, by omega⟩ (by omega)), (fun h => by cases h)⟩
          · refine hA_aload (zs_aload_n em48_74) rfl ?_
            refine hA_iload (zs_iload_n em48_75) rfl ?_
            refine hA_aload (zs_aload_n em48_76) rfl ?_
            refine hA_getf2 (r := 26) (zs_getf (T := TX7) (M := 3) (ci := 7) (j := 2) em48_77 rfl inX7 (by decide) wd_272 ((congrFun xo_8 16).trans rfl)) ⟨_, rfl, rfl⟩ ?_
            refine hA_iload (zs_iload em48_80) rfl ?_
            refine hA_iald (kd := 26) (len := 401) (zs_iald em48_82) ⟨rfl, rfl, rfl⟩ (by omega) (by show _ < ((401 : Nat) : Int); omega) (fun z82 hz82 => ?_)
            rw [zv_at] at hz82
            refine hA_call (as := [.inr (.inl (some 1)), .inl aa, .inl z82]) (rest := [.inl tk, .inr (.inl (some 24))]) (B' := (0, 0)) (zs_invS em48_83 zl_271 wd_639 wd_640 ((congrFun xo_8 27).trans rfl) xm_239) rfl (Nat.le_of_ble_eq_true rfl) rfl ⟨Nat.zero_le _, Nat.zero_le _⟩ (hpre_of rfl (show hpr_271 d [.inr (.inl (some 1)), .inl aa, .inl z82] (zupd (zupd IJ (zid 25 tk.toInt.toNat) aa) (zid 26 tk.toInt.toNat) z61) from ⟨by show 8 ≤ d; omega, aa, z82, rfl, ⟨by omega, by omega, by omega⟩⟩)) (fun r83 I83 hp83 => ?_)
            replace hp83 : hpo_271 _ _ _ _ := hpost_of rfl hp83
            replace hp83 := hp83 aa z82 rfl
            obtain ⟨y83, rfl, hy83, hy83b, rfl⟩ := hp83
            refine hA_goto (zs_goto em48_86 (t := 90) (by decide)) ?_
            refine hA_iast (kd := 24) (len := 401) (zs_iast zInj0 em48_90) ⟨rfl, rfl, rfl⟩ (by omega) (by show _ < ((401 : Nat) : Int); omega) ?_
            refine hA_aload (zs_aload_n em48_91) rfl ?_
            refine hA_getf2 (r := 24) (zs_getf (T := TX7) (M := 3) (ci := 7) (j := 0) em48_92 rfl inX7 (by decide) wd_268 ((congrFun xo_8 9).trans rfl)) ⟨_, rfl, rfl⟩ ?_
            refine hA_iload (zs_iload em48_95) rfl ?_
            refine hA_iald (kd := 24) (len := 401) (zs_iald em48_97) ⟨rfl, rfl, rfl⟩ (by omega) (by show _ < ((401 : Nat) : Int); omega) (fun z97' hz97' => ?_)
            rw [zv_at] at hz97'
            refine hA_if (zs_ifeq em48_98 (t := 112) (by decide)) (fun (c98' : z97'.toInt = 0) => ?_) (fun (c98' : ¬ z97'.toInt = 0) => ?_)
            · refine hA_return ⟨rfl, em48_112⟩ ⟨Nat.le_refl _, Nat.le_refl _⟩ ?_
              exact ⟨⟨_, List.mem_cons_self, rfl, hCh_nil, (fun id hl hn => (zupd_hi2 hl).trans ((zupd_hi2 hl).trans ((zupd_hi2 hl).trans (hFr id hl)))), (fun _ h => absurd h List.not_mem_nil)⟩, (fun _ => zInv_tok3 hIJ (by omega) (by omega) (by omega) (by omega) (by omega) ⟨by omega, by omega⟩ (by omega)), (fun h => by cases h)⟩
            · refine hA_aload (zs_aload_n em48_101) rfl ?_
              refine hA_getf2 (r := 24) (zs_getf (T := TX7) (M := 3) (ci := 7) (j := 0) em48_102 rfl inX7 (by decide) wd_268 ((congrFun xo_8 9).trans rfl)) ⟨_, rfl, rfl⟩ ?_
              refine hA_iload (zs_iload em48_105) rfl ?_
              refine hA_iald (kd := 24) (len := 401) (zs_iald em48_107) ⟨rfl, rfl, rfl⟩ (by omega) (by show _ < ((401 : Nat) : Int); omega) (fun z107' hz107' => ?_)
              rw [zv_at] at hz107'
              refine hA_const (k := 1) (zs_iconst (v := 1) em48_108 (by decide +kernel)) (by decide +kernel) (fun z108' hz108' => ?_)
              refine hA_icmp (zs_icmpne em48_109 (t := 113) (by decide)) (fun (c109' : ¬ z107'.toInt = z108'.toInt) => ?_) (fun (c109' : ¬ ¬ z107'.toInt = z108'.toInt) => ?_)
              · refine hA_iload (zs_iload_n em48_113) rfl ?_
                refine hA_aload (zs_aload_n em48_114) rfl ?_
                refine hA_getf2 (r := 26) (zs_getf (T := TX7) (M := 3) (ci := 7) (j := 2) em48_115 rfl inX7 (by decide) wd_272 ((congrFun xo_8 16).trans rfl)) ⟨_, rfl, rfl⟩ ?_
                refine hA_iload (zs_iload em48_118) rfl ?_
                refine hA_iald (kd := 26) (len := 401) (zs_iald em48_120) ⟨rfl, rfl, rfl⟩ (by omega) (by show _ < ((401 : Nat) : Int); omega) (fun z120' hz120' => ?_)
                rw [zv_nk (by decide) (by omega) (by omega)] at hz120'
                rw [zv_at] at hz120'
                refine hA_add (zs_iadd em48_121) (by omega) (by omega) (fun z121' hz121' => ?_)
                refine hA_istore (L' := [some (.inr (.inl (some 23))), some (.inr (.inl (some 1))), some (.inl x2), some (.inl z121'), some (.inl tk)]) (zs_istore_n em48_122) ⟨Nat.le_of_ble_eq_true rfl, rfl⟩ rfl ?_
                refine hA_iinc (c := 1) (zs_iinc (k := 1) em48_123 (by decide +kernel)) (by decide +kernel) rfl ⟨Nat.le_of_ble_eq_true rfl, rfl⟩ (by omega) (by omega) (fun z123' hz123' => ?_)
                show zAt _ _ _ _ _ _ _ _ _ _ [some (.inr (.inl (some 23))), some (.inr (.inl (some 1))), some (.inl x2), some (.inl z121'), some (.inl z123')] _ _ _
                refine hA_goto (zs_goto em48_126 (t := 5) (by decide)) ?_
                exact ih _ (by omega) (zupd (zupd (zupd IJ (zid 25 tk.toInt.toNat) aa) (zid 26 tk.toInt.toNat) z61) (zid 24 tk.toInt.toNat) y83) z121' z123' (by intro id hl; exact (zupd_hi2 hl).trans ((zupd_hi2 hl).trans ((zupd_hi2 hl).trans (hFr id hl)))) (zInv_tok3 hIJ (by omega) (by omega) (by omega) (by omega) (by omega) ⟨by omega, by omega⟩ (by omega)) (by omega) (by omega) (by omega) (by omega) rfl
              · refine hA_return ⟨rfl, em48_112⟩ ⟨Nat.le_refl _, Nat.le_refl _⟩ ?_
                exact ⟨⟨_, List.mem_cons_self, rfl, hCh_nil, (fun id hl hn => (zupd_hi2 hl).trans ((zupd_hi2 hl).trans ((zupd_hi2 hl).trans (hFr id hl)))), (fun _ h => absurd h List.not_mem_nil)⟩, (fun _ => zInv_tok3 hIJ (by omega) (by omega) (by omega) (by omega) (by omega) ⟨by omega, by omega⟩ (by omega)), (fun h => by cases h)⟩
        · refine hA_aload (zs_aload_n em48_52) rfl ?_
          refine hA_iload (zs_iload_n em48_53) rfl ?_
          refine hA_iload (zs_iload_n em48_54) rfl ?_
          refine hA_call (as := [.inr (.inl (some 1)), .inl x2, .inl aa]) (rest := [.inl tk, .inr (.inl (some 26))]) (B' := (0, 0)) (zs_invS em48_55 zl_274 wd_630 wd_631 ((congrFun xo_8 23).trans rfl) xm_242) rfl (Nat.le_of_ble_eq_true rfl) rfl ⟨Nat.zero_le _, Nat.zero_le _⟩ (hpre_of rfl (show hpr_274 d [.inr (.inl (some 1)), .inl x2, .inl aa] (zupd IJ (zid 25 tk.toInt.toNat) aa) from ⟨by show 2 ≤ d; omega, x2, aa, rfl, ⟨by omega, by omega, by omega⟩⟩)) (fun r55 I55 hp55 => ?_)
          replace hp55 : hpo_274 _ _ _ _ := hpost_of rfl hp55
          replace hp55 := hp55 x2 aa rfl
          obtain ⟨y55, rfl, hy55, rfl⟩ := hp55
          refine hA_goto (zs_goto em48_58 (t := 62) (by decide)) ?_
          refine hA_iast (kd := 26) (len := 401) (zs_iast zInj0 em48_62) ⟨rfl, rfl, rfl⟩ (by omega) (by show _ < ((401 : Nat) : Int); omega) ?_
          refine hA_aload (zs_aload_n em48_63) rfl ?_
          refine hA_getf2 (r := 24) (zs_getf (T := TX7) (M := 3) (ci := 7) (j := 0) em48_64 rfl inX7 (by decide) wd_268 ((congrFun xo_8 9).trans rfl)) ⟨_, rfl, rfl⟩ ?_
          refine hA_iload (zs_iload em48_67) rfl ?_
          refine hA_iload (zs_iload_n em48_69) rfl ?_
          refine hA_iload (zs_iload_n em48_70) rfl ?_
          refine hA_icmp (zs_icmpge em48_71 (t := 89) (by decide)) (fun (c71' : x2.toInt ≤ aa.toInt) => ?_) (fun (c71' : ¬ x2.toInt ≤ aa.toInt) => ?_)
          · refine hA_const (k := 0) (zs_iconst (v := 0) em48_89 (by decide +kernel)) (by decide +kernel) (fun z89' hz89' => ?_)
            refine hA_iast (kd := 24) (len := 401) (zs_iast zInj0 em48_90) ⟨rfl, rfl, rfl⟩ (by omega) (by show _ < ((401 : Nat) : Int); omega) ?_
            refine hA_aload (zs_aload_n em48_91) rfl ?_
            refine hA_getf2 (r := 24) (zs_getf (T := TX7) (M := 3) (ci := 7) (j := 0) em48_92 rfl inX7 (by decide) wd_268 ((congrFun xo_8 9).trans rfl)) ⟨_, rfl, rfl⟩ ?_
            refine hA_iload (zs_iload em48_95) rfl ?_
            refine hA_iald (kd := 24) (len := 401) (zs_iald em48_97) ⟨rfl, rfl, rfl⟩ (by omega) (by show _ < ((401 : Nat) : Int); omega) (fun z97'' hz97'' => ?_)
            rw [zv_at] at hz97''
            refine hA_if (zs_ifeq em48_98 (t := 112) (by decide)) (fun (c98'' : z97''.toInt = 0) => ?_) (fun (c98'' : ¬ z97''.toInt = 0) => ?_)
            · refine hA_return ⟨rfl, em48_112⟩ ⟨Nat.le_refl _, Nat.le_refl _⟩ ?_
              exact ⟨⟨_, List.mem_cons_self, rfl, hCh_nil, (fun id hl hn => (zupd_hi2 hl).trans ((zupd_hi2 hl).trans ((zupd_hi2 hl).trans (hFr id hl)))), (fun _ h => absurd h List.not_mem_nil)⟩, (fun _ => zInv_tok3 hIJ (by omega) (by omega) (by omega) (by omega) (by omega) ⟨by omega, by omega⟩ (by omega)), (fun h => by cases h)⟩
            · refine hA_aload (zs_aload_n em48_101) rfl ?_
              refine hA_getf2 (r := 24) (zs_getf (T := TX7) (M := 3) (ci := 7) (j := 0) em48_102 rfl inX7 (by decide) wd_268 ((congrFun xo_8 9).trans rfl)) ⟨_, rfl, rfl⟩ ?_
              refine hA_iload (zs_iload em48_105) rfl ?_
              refine hA_iald (kd := 24) (len := 401) (zs_iald em48_107) ⟨rfl, rfl, rfl⟩ (by omega) (by show _ < ((401 : Nat) : Int); omega) (fun z107'' hz107'' => ?_)
              rw [zv_at] at hz107''
              refine hA_const (k := 1) (zs_iconst (v := 1) em48_108 (by decide +kernel)) (by decide +kernel) (fun z108'' hz108'' => ?_)
              refine hA_icmp (zs_icmpne em48_109 (t := 113) (by decide)) (fun (c109'' : ¬ z107''.toInt = z108''.toInt) => ?_) (fun (c109'' : ¬ ¬ z107''.toInt = z108''.toInt) => ?_)
              · refine hA_iload (zs_iload_n em48_113) rfl ?_
                refine hA_aload (zs_aload_n em48_114) rfl ?_
                refine hA_getf2 (r := 26) (zs_getf (T := TX7) (M := 3) (ci := 7) (j := 2) em48_115 rfl inX7 (by decide) wd_272 ((congrFun xo_8 16).trans rfl)) ⟨_, rfl, rfl⟩ ?_
                refine hA_iload (zs_iload em48_118) rfl ?_
                refine hA_iald (kd := 26) (len := 401) (zs_iald em48_120) ⟨rfl, rfl, rfl⟩ (by omega) (by show _ < ((401 : Nat) : Int); omega) (fun z120'' hz120'' => ?_)
                rw [zv_nk (by decide) (by omega) (by omega)] at hz120''
                rw [zv_at] at hz120''
                refine hA_add (zs_iadd em48_121) (by omega) (by omega) (fun z121'' hz121'' => ?_)
                refine hA_istore (L' := [some (.inr (.inl (some 23))), some (.inr (.inl (some 1))), some (.inl x2), some (.inl z121''), some (.inl tk)]) (zs_istore_n em48_122) ⟨Nat.le_of_ble_eq_true rfl, rfl⟩ rfl ?_
                refine hA_iinc (c := 1) (zs_iinc (k := 1) em48_123 (by decide +kernel)) (by decide +kernel) rfl ⟨Nat.le_of_ble_eq_true rfl, rfl⟩ (by omega) (by omega) (fun z123'' hz123'' => ?_)
                show zAt _ _ _ _ _ _ _ _ _ _ [some (.inr (.inl (some 23))), some (.inr (.inl (some 1))), some (.inl x2), some (.inl z121''), some (.inl z123'')] _ _ _
                refine hA_goto (zs_goto em48_126 (t := 5) (by decide)) ?_
                exact ih _ (by omega) (zupd (zupd (zupd IJ (zid 25 tk.toInt.toNat) aa) (zid 26 tk.toInt.toNat) y55) (zid 24 tk.toInt.toNat) z89') z121'' z123'' (by intro id hl; exact (zupd_hi2 hl).trans ((zupd_hi2 hl).trans ((zupd_hi2 hl).trans (hFr id hl)))) (zInv_tok3 hIJ (by omega) (by omega) (by omega) (by omega) (by omega) ⟨by omega, by omega⟩ (by omega)) (by omega) (by omega) (by omega) (by omega) rfl
              · refine hA_return ⟨rfl, em48_112⟩ ⟨Nat.le_refl _, Nat.le_refl _⟩ ?_
                exact ⟨⟨_, List.mem_cons_self, rfl, hCh_nil, (fun id hl hn => (zupd_hi2 hl).trans ((zupd_hi2 hl).trans ((zupd_hi2 hl).trans (hFr id hl)))), (fun _ h => absurd h List.not_mem_nil)⟩, (fun _ => zInv_tok3 hIJ (by omega) (by omega) (by omega) (by omega) (by omega) ⟨by omega, by omega⟩ (by omega)), (fun h => by cases h)⟩
          · refine hA_aload (zs_aload_n em48_74) rfl ?_
            refine hA_iload (zs_iload_n em48_75) rfl ?_
            refine hA_aload (zs_aload_n em48_76) rfl ?_
            refine hA_getf2 (r := 26) (zs_getf (T := TX7) (M := 3) (ci := 7) (j := 2) em48_77 rfl inX7 (by decide) wd_272 ((congrFun xo_8 16).trans rfl)) ⟨_, rfl, rfl⟩ ?_
            refine hA_iload (zs_iload em48_80) rfl ?_
            refine hA_iald (kd := 26) (len := 401) (zs_iald em48_82) ⟨rfl, rfl, rfl⟩ (by omega) (by show _ < ((401 : Nat) : Int); omega) (fun z82' hz82' => ?_)
            rw [zv_at] at hz82'
            refine hA_call (as := [.inr (.inl (some 1)), .inl aa, .inl z82']) (rest := [.inl tk, .inr (.inl (some 24))]) (B' := (0, 0)) (zs_invS em48_83 zl_271 wd_639 wd_640 ((congrFun xo_8 27).trans rfl) xm_239) rfl (Nat.le_of_ble_eq_true rfl) rfl ⟨Nat.zero_le _, Nat.zero_le _⟩ (hpre_of rfl (show hpr_271 d [.inr (.inl (some 1)), .inl aa, .inl z82'] (zupd (zupd IJ (zid 25 tk.toInt.toNat) aa) (zid 26 tk.toInt.toNat) y55) from ⟨by show 8 ≤ d; omega, aa, z82', rfl, ⟨by omega, by omega, by omega⟩⟩)) (fun r83 I83 hp83 => ?_)
            replace hp83 : hpo_271 _ _ _ _ := hpost_of rfl hp83
            replace hp83 := hp83 aa z82' rfl
            obtain ⟨y83, rfl, hy83, hy83b, rfl⟩ := hp83
            refine hA_goto (zs_goto em48_86 (t := 90) (by decide)) ?_
            refine hA_iast (kd := 24) (len := 401) (zs_iast zInj0 em48_90) ⟨rfl, rfl, rfl⟩ (by omega) (by show _ < ((401 : Nat) : Int); omega) ?_
            refine hA_aload (zs_aload_n em48_91) rfl ?_
            refine hA_getf2 (r := 24) (zs_getf (T := TX7) (M := 3) (ci := 7) (j := 0) em48_92 rfl inX7 (by decide) wd_268 ((congrFun xo_8 9).trans rfl)) ⟨_, rfl, rfl⟩ ?_
            refine hA_iload (zs_iload em48_95) rfl ?_
            refine hA_iald (kd := 24) (len := 401) (zs_iald em48_97) ⟨rfl, rfl, rfl⟩ (by omega) (by show _ < ((401 : Nat) : Int); omega) (fun z97_3 hz97_3 => ?_)
            rw [zv_at] at hz97_3
            refine hA_if (zs_ifeq em48_98 (t := 112) (by decide)) (fun (c98_3 : z97_3.toInt = 0) => ?_) (fun (c98_3 : ¬ z97_3.toInt = 0) => ?_)
            · refine hA_return ⟨rfl, em48_112⟩ ⟨Nat.le_refl _, Nat.le_refl _⟩ ?_
              exact ⟨⟨_, List.mem_cons_self, rfl, hCh_nil, (fun id hl hn => (zupd_hi2 hl).trans ((zupd_hi2 hl).trans ((zupd_hi2 hl).trans (hFr id hl)))), (fun _ h => absurd h List.not_mem_nil)⟩, (fun _ => zInv_tok3 hIJ (by omega) (by omega) (by omega) (by omega) (by omega) ⟨by omega, by omega⟩ (by omega)), (fun h => by cases h)⟩
            · refine hA_aload (zs_aload_n em48_101) rfl ?_
              refine hA_getf2 (r := 24) (zs_getf (T := TX7) (M := 3) (ci := 7) (j := 0) em48_102 rfl inX7 (by decide) wd_268 ((congrFun xo_8 9).trans rfl)) ⟨_, rfl, rfl⟩ ?_
              refine hA_iload (zs_iload em48_105) rfl ?_
              refine hA_iald (kd := 24) (len := 401) (zs_iald em48_107) ⟨rfl, rfl, rfl⟩ (by omega) (by show _ < ((401 : Nat) : Int); omega) (fun z107_3 hz107_3 => ?_)
              rw [zv_at] at hz107_3
              refine hA_const (k := 1) (zs_iconst (v := 1) em48_108 (by decide +kernel)) (by decide +kernel) (fun z108_3 hz108_3 => ?_)
              refine hA_icmp (zs_icmpne em48_109 (t := 113) (by decide)) (fun (c109_3 : ¬ z107_3.toInt = z108_3.toInt) => ?_) (fun (c109_3 : ¬ ¬ z107_3.toInt = z108_3.toInt) => ?_)
              · refine hA_iload (zs_iload_n em48_113) rfl ?_
                refine hA_aload (zs_aload_n em48_114) rfl ?_
                refine hA_getf2 (r := 26) (zs_getf (T := TX7) (M := 3) (ci := 7) (j := 2) em48_115 rfl inX7 (by decide) wd_272 ((congrFun xo_8 16).trans rfl)) ⟨_, rfl, rfl⟩ ?_
                refine hA_iload (zs_iload em48_118) rfl ?_
                refine hA_iald (kd := 26) (len := 401) (zs_iald em48_120) ⟨rfl, rfl, rfl⟩ (by omega) (by show _ < ((401 : Nat) : Int); omega) (fun z120_3 hz120_3 => ?_)
                rw [zv_nk (by decide) (by omega) (by omega)] at hz120_3
                rw [zv_at] at hz120_3
                refine hA_add (zs_iadd em48_121) (by omega) (by omega) (fun z121_3 hz121_3 => ?_)
                refine hA_istore (L' := [some (.inr (.inl (some 23))), some (.inr (.inl (some 1))), some (.inl x2), some (.inl z121_3), some (.inl tk)]) (zs_istore_n em48_122) ⟨Nat.le_of_ble_eq_true rfl, rfl⟩ rfl ?_
                refine hA_iinc (c := 1) (zs_iinc (k := 1) em48_123 (by decide +kernel)) (by decide +kernel) rfl ⟨Nat.le_of_ble_eq_true rfl, rfl⟩ (by omega) (by omega) (fun z123_3 hz123_3 => ?_)
                show zAt _ _ _ _ _ _ _ _ _ _ [some (.inr (.inl (some 23))), some (.inr (.inl (some 1))), some (.inl x2), some (.inl z121_3), some (.inl z123_3)] _ _ _
                refine hA_goto (zs_goto em48_126 (t := 5) (by decide)) ?_
                exact ih _ (by omega) (zupd (zupd (zupd IJ (zid 25 tk.toInt.toNat) aa) (zid 26 tk.toInt.toNat) y55) (zid 24 tk.toInt.toNat) y83) z121_3 z123_3 (by intro id hl; exact (zupd_hi2 hl).trans ((zupd_hi2 hl).trans ((zupd_hi2 hl).trans (hFr id hl)))) (zInv_tok3 hIJ (by omega) (by omega) (by omega) (by omega) (by omega) ⟨by omega, by omega⟩ (by omega)) (by omega) (by omega) (by omega) (by omega) rfl
              · refine hA_return ⟨rfl, em48_112⟩ ⟨Nat.le_refl _, Nat.le_refl _⟩ ?_
                exact ⟨⟨_, List.mem_cons_self, rfl, hCh_nil, (fun id hl hn => (zupd_hi2 hl).trans ((zupd_hi2 hl).trans ((zupd_hi2 hl).trans (hFr id hl)))), (fun _ h => absurd h List.not_mem_nil)⟩, (fun _ => zInv_tok3 hIJ (by omega) (by omega) (by omega) (by omega) (by omega) ⟨by omega, by omega⟩ (by omega)), (fun h => by cases h)⟩
      have h13 : ∀ (m : Nat) (aa : Int32), 0 ≤ aa.toInt → aa.toInt ≤ x2.toInt → tk.toInt ≤ 400 → (2001 - aa.toInt).toNat = m → zAt zG0 PZ zbd zpre zpost (d, (zbd 52).1, (zbd 52).2) prog_9_method_2_code "CapitalCase$Tokens" (zRet prog_9_method_2_code none (zbd 52) (fun r I' => aPost zInv zc_52 [.inr (.inl (some 23)), .inr (.inl (some 1)), .inl x2] I r I')) 13 [some (.inr (.inl (some 23))), some (.inr (.inl (some 1))), some (.inl x2), some (.inl aa), some (.inl tk)] [] IJ (0, 0) := by
        intro m
        induction m using Nat.strongRecOn with
        | ind m ih2 =>
          intro aa hat hat2 ht4 hm
          refine hA_iload (zs_iload_n em48_13) rfl ?_
          refine hA_iload (zs_iload_n em48_14) rfl ?_
          refine hA_icmp (zs_icmpge em48_15 (t := 33) (by decide)) (fun (c15 : x2.toInt ≤ aa.toInt) => ?_) (fun (c15 : ¬ x2.toInt ≤ aa.toInt) => ?_)
          · exact h33 aa hat hat2 ht4
          · refine hA_aload (zs_aload_n em48_18) rfl ?_
            refine hA_iload (zs_iload_n em48_19) rfl ?_
            refine hA_baldH (kd := 1) (len := 2000) (zs_bald em48_20) ⟨rfl, rfl, rfl, Or.inl rfl⟩ (by omega) (by show _ < ((2000 : Nat) : Int); omega) (fun z20 hz20 => ?_)
            have hbz20 : ((-128) : Int) ≤ z20.toInt ∧ z20.toInt ≤ 127 := eall rfl hz20
            refine hA_call (as := [.inl z20]) (rest := []) (B' := (0, 0)) (zs_invS em48_21 zl_240 wd_627 wd_628 ((congrFun xo_8 19).trans rfl) xm_208) rfl (Nat.le_of_ble_eq_true rfl) rfl ⟨Nat.zero_le _, Nat.zero_le _⟩ (zpre_of zh_240 ⟨(by show 1 ≤ d; omega), ⟨_, _, rfl, ⟨_, rfl, an_lo _, an_hi _⟩, rfl⟩, hF_nil, fun h => by cases h⟩) (fun r21 I21 hp21 => ?_)
            replace hp21 := zpost_of zh_240 hp21
            rcases zq_240 hp21 with ⟨z21, rfl, hz21l, hz21h, rfl⟩ | ⟨z21', rfl, hz21'l, hz21'h, rfl, ha21_0⟩
            · refine hA_if (zs_ifeq em48_24 (t := 33) (by decide)) (fun (c24 : z21.toInt = 0) => ?_) (fun (c24 : ¬ z21.toInt = 0) => ?_)
              · exact h33 aa hat hat2 ht4
              · exfalso
                omega
            · have ha21_0 := ha21_0 _ rfl
              refine hA_if (zs_ifeq em48_24 (t := 33) (by decide)) (fun (c24' : z21'.toInt = 0) => ?_) (fun (c24' : ¬ z21'.toInt = 0) => ?_)
              · exfalso
                omega
              · refine hA_iinc (c := 1) (zs_iinc (k := 1) em48_27 (by decide +kernel)) (by decide +kernel) rfl ⟨Nat.le_of_ble_eq_true rfl, rfl⟩ (by omega) (by omega) (fun z27 hz27 => ?_)
                show zAt _ _ _ _ _ _ _ _ _ _ [some (.inr (.inl (some 23))), some (.inr (.inl (some 1))), some (.inl x2), some (.inl z27), some (.inl tk)] _ _ _
                refine hA_goto (zs_goto em48_30 (t := 13) (by decide)) ?_
                exact ih2 _ (by omega) z27 (by omega) (by omega) ht4 rfl
      refine hA_iload (zs_iload em48_5) rfl ?_
      refine hA_const (k := 400) (zs_sipush (v := 400) em48_7 (by decide +kernel)) (by decide +kernel) (fun z7 hz7 => ?_)
      refine hA_icmp (zs_icmpgt em48_10 (t := 129) (by decide)) (fun (c10 : z7.toInt < tk.toInt) => ?_) (fun (c10 : ¬ z7.toInt < tk.toInt) => ?_)
      · refine hA_return ⟨rfl, em48_129⟩ ⟨Nat.le_refl _, Nat.le_refl _⟩ ?_
        exact ⟨⟨_, List.mem_cons_self, rfl, hCh_nil, (fun id hl hn => hFr id hl), (fun _ h => absurd h List.not_mem_nil)⟩, (fun _ => hIJ), (fun h => by cases h)⟩
      · exact h13 _ aa hat hat2 (by omega) rfl
  refine hmet (L := [some (.inr (.inl (some 23))), some (.inr (.inl (some 1))), some (.inl x2), none, none]) (by decide) (Nat.le_of_ble_eq_true rfl) hc rfl ?_
  refine hA_const (k := 0) (zs_iconst (v := 0) em48_0 (by decide +kernel)) (by decide +kernel) (fun z0 hz0 => ?_)
  refine hA_istore (L' := [some (.inr (.inl (some 23))), some (.inr (.inl (some 1))), some (.inl x2), some (.inl z0), none]) (zs_istore_n em48_1) ⟨Nat.le_of_ble_eq_true rfl, rfl⟩ rfl ?_
  refine hA_const (k := 0) (zs_iconst (v := 0) em48_2 (by decide +kernel)) (by decide +kernel) (fun z2 hz2 => ?_)
  refine hA_istore (L' := [some (.inr (.inl (some 23))), some (.inr (.inl (some 1))), some (.inl x2), some (.inl z0), some (.inl z2)]) (zs_istore em48_3) ⟨Nat.le_of_ble_eq_true rfl, rfl⟩ rfl ?_
  exact loop _ I z0 z2 (fun _ _ => rfl) hInv (by omega) (by omega) (by omega) (by omega) rfl
