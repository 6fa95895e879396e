theorem zlaws_cg75 {I I' : zI} (hh : ∀ kd i : Nat, 75 ≤ kd → I' (zid kd i) = I (zid kd i)) (h22 : I' 22 = I 22) (g5 : zlaws (fun kd i => I (zid kd i)) (I 22)) : zlaws (fun kd i => I' (zid kd i)) (I' 22) := by
  rw [h22]
  have hpf : ∀ (a n D : Nat), zpx (fun kd i => I (zid kd i)) a n D → zpx (fun kd i => I' (zid kd i)) a n D := by
    intro a n
    induction n with
    | zero => intro D hp; exact hp
    | succ n ih =>
      intro D hp
      unfold zpx at hp ⊢
      simp only [hh 101 (a + n) (by decide), hh 102 (a + n) (by decide)]
      exact hp.imp (fun q => ⟨q.1, q.2.1, ih _ q.2.2⟩) (fun q => ⟨q.1, q.2.1, q.2.2.1, ih _ q.2.2.2⟩)
  have hpr : ∀ (h : Int) (a b : Int32), zpr (fun kd i => I (zid kd i)) h a b → zpr (fun kd i => I' (zid kd i)) h a b := fun h a b hp => ⟨hp.1, hp.2.1, hp.2.2.1, hp.2.2.2.1, hpf _ _ _ hp.2.2.2.2⟩
  have hbr : ∀ (s : Int) (b : Nat), zbr (fun kd i => I (zid kd i)) s b → zbr (fun kd i => I' (zid kd i)) s b := by
    intro s b hp
    unfold zbr at hp ⊢
    simp only [hh 96 b (by decide), hh 97 b (by decide), hh 98 b (by decide), hh 99 b (by decide), hh 100 b (by decide)]
    exact ⟨hp.1, fun q => ⟨hpr _ _ _ (hp.2.1 q).1, hpr _ _ _ (hp.2.1 q).2⟩, hpr _ _ _ hp.2.2⟩
  refine ⟨g5.1, fun k hk => ?_⟩
  have e := g5.2 k hk
  simp only [hh 94 _ (by decide), hh 95 _ (by decide)]
  exact ⟨e.1, fun b b1 b2 => hbr _ b (e.2 b b1 b2)⟩
theorem zInv_slot {I : zI} {i v : Int32} (hI : zInv I) (h1 : i.toInt < 4096) (h0 : 0 ≤ i.toInt) : zInv (zupd I (zid 42 i.toInt.toNat) v) := by
  obtain ⟨g1, g2, g3, g4, g5⟩ := hI
  have e : ∀ kd j : Nat, j < 4096 → kd ≠ 42 → zupd I (zid 42 i.toInt.toNat) v (zid kd j) = I (zid kd j) := fun kd j hj hk => zupd_fr (by unfold zid; omega)
  have eh : ∀ kd j : Nat, 75 ≤ kd → zupd I (zid 42 i.toInt.toNat) v (zid kd j) = I (zid kd j) := fun kd j hk => zupd_fr (by unfold zid; omega)
  refine ⟨fun kd j t len hv hd hj => ?_, fun c hc q => ?_, fun c hc q => ?_, fun t ht => ?_, zlaws_cg75 eh (zupd_hi2 (by decide)) g5⟩
  · show eOK _ j (zupd I (zid 42 i.toInt.toNat) v (zid kd j)).toInt
    by_cases hk : kd = 42
    · subst hk; exact eno rfl
    · rw [e kd j (zvs_len hv hd hj) hk]
      exact g1 kd j t len hv hd hj
  · have q : zupd I (zid 42 i.toInt.toNat) v (zid 10 c) = 1 := q
    rw [e 10 c (by omega) (by decide)] at q
    show 0 ≤ (zupd I (zid 42 i.toInt.toNat) v (zid 11 c)).toInt ∧ (zupd I (zid 42 i.toInt.toNat) v (zid 11 c)).toInt ≤ 8
    rw [e 11 c (by omega) (by decide)]
    exact g2 c hc q
  · have q : zupd I (zid 42 i.toInt.toNat) v (zid 21 c) = 1 := q
    rw [e 21 c (by omega) (by decide)] at q
    show 0 ≤ (zupd I (zid 42 i.toInt.toNat) v (zid 22 c)).toInt ∧ (zupd I (zid 42 i.toInt.toNat) v (zid 22 c)).toInt ≤ 8
    rw [e 22 c (by omega) (by decide)]
    exact g3 c hc q
  · have q := g4 t ht
    show (zupd I (zid 42 i.toInt.toNat) v (zid 25 t)).toInt + (zupd I (zid 42 i.toInt.toNat) v (zid 26 t)).toInt ≤ 2000 ∧ (zupd I (zid 42 i.toInt.toNat) v (zid 24 t) = 2 → (zupd I (zid 42 i.toInt.toNat) v (zid 26 t)).toInt ≤ 8)
    rw [e 25 t (by omega) (by decide), e 26 t (by omega) (by decide), e 24 t (by omega) (by decide)]
    exact q
theorem em0_0 : decode prog_2_method_2_code 0 = .ok (.aload_n 0, 1) := by decide +kernel
theorem em0_1 : decode prog_2_method_2_code 1 = .ok (.getfield 11, 3) := by decide +kernel
theorem em0_4 : decode prog_2_method_2_code 4 = .ok (.aload_n 0, 1) := by decide +kernel
theorem em0_5 : decode prog_2_method_2_code 5 = .ok (.getfield 15, 3) := by decide +kernel
theorem em0_8 : decode prog_2_method_2_code 8 = .ok (.aaload, 1) := by decide +kernel
theorem em0_9 : decode prog_2_method_2_code 9 = .ok (.astore_n 2, 1) := by decide +kernel
theorem em0_10 : decode prog_2_method_2_code 10 = .ok (.aload_n 2, 1) := by decide +kernel
theorem em0_11 : decode prog_2_method_2_code 11 = .ok (.ifnonnull 21, 3) := by decide +kernel
theorem em0_14 : decode prog_2_method_2_code 14 = .ok (.new 9, 3) := by decide +kernel
theorem em0_17 : decode prog_2_method_2_code 17 = .ok (.dup, 1) := by decide +kernel
theorem em0_18 : decode prog_2_method_2_code 18 = .ok (.invokespecial 19, 3) := by decide +kernel
theorem em0_21 : decode prog_2_method_2_code 21 = .ok (.astore_n 2, 1) := by decide +kernel
theorem em0_22 : decode prog_2_method_2_code 22 = .ok (.aload_n 0, 1) := by decide +kernel
theorem em0_23 : decode prog_2_method_2_code 23 = .ok (.getfield 11, 3) := by decide +kernel
theorem em0_26 : decode prog_2_method_2_code 26 = .ok (.aload_n 0, 1) := by decide +kernel
theorem em0_27 : decode prog_2_method_2_code 27 = .ok (.getfield 15, 3) := by decide +kernel
theorem em0_30 : decode prog_2_method_2_code 30 = .ok (.aload_n 2, 1) := by decide +kernel
theorem em0_31 : decode prog_2_method_2_code 31 = .ok (.aastore, 1) := by decide +kernel
theorem em0_32 : decode prog_2_method_2_code 32 = .ok (.aload_n 2, 1) := by decide +kernel
theorem em0_33 : decode prog_2_method_2_code 33 = .ok (.aload_n 1, 1) := by decide +kernel
theorem em0_34 : decode prog_2_method_2_code 34 = .ok (.invokevirtual 20, 3) := by decide +kernel
theorem em0_37 : decode prog_2_method_2_code 37 = .ok (.aload_n 0, 1) := by decide +kernel
theorem em0_38 : decode prog_2_method_2_code 38 = .ok (.aload_n 0, 1) := by decide +kernel
theorem em0_39 : decode prog_2_method_2_code 39 = .ok (.getfield 15, 3) := by decide +kernel
theorem em0_42 : decode prog_2_method_2_code 42 = .ok (.iconst 1, 1) := by decide +kernel
theorem em0_43 : decode prog_2_method_2_code 43 = .ok (.iadd, 1) := by decide +kernel
theorem em0_44 : decode prog_2_method_2_code 44 = .ok (.bipush 30, 2) := by decide +kernel
theorem em0_46 : decode prog_2_method_2_code 46 = .ok (.irem, 1) := by decide +kernel
theorem em0_47 : decode prog_2_method_2_code 47 = .ok (.putfield 15, 3) := by decide +kernel
theorem em0_50 : decode prog_2_method_2_code 50 = .ok (.aload_n 0, 1) := by decide +kernel
theorem em0_51 : decode prog_2_method_2_code 51 = .ok (.bipush 30, 2) := by decide +kernel
theorem em0_53 : decode prog_2_method_2_code 53 = .ok (.aload_n 0, 1) := by decide +kernel
theorem em0_54 : decode prog_2_method_2_code 54 = .ok (.getfield 24, 3) := by decide +kernel
theorem em0_57 : decode prog_2_method_2_code 57 = .ok (.iconst 1, 1) := by decide +kernel
theorem em0_58 : decode prog_2_method_2_code 58 = .ok (.iadd, 1) := by decide +kernel
theorem em0_59 : decode prog_2_method_2_code 59 = .ok (.invokestatic 27, 3) := by decide +kernel
theorem em0_62 : decode prog_2_method_2_code 62 = .ok (.putfield 24, 3) := by decide +kernel
theorem em0_65 : decode prog_2_method_2_code 65 = .ok (.return_, 1) := by decide +kernel
set_option maxRecDepth 10000 in
set_option maxHeartbeats 4000000 in
theorem hM_0 : zOKh 0 zc_0 := by
  intro d hc as I q h hq
  obtain ⟨hd, ⟨_, _, rfl, rfl, ⟨_, _, rfl, ⟨r1, rfl, hk_r1⟩, rfl⟩⟩, hF, hI⟩ := h
  have hd : 8 ≤ d + 1 := hd
  have hf8 : (0 : Int) ≤ zf I 8 ∧ zf I 8 ≤ (29 : Int) := hF _ List.mem_cons_self
  have hf9 : (0 : Int) ≤ zf I 9 ∧ zf I 9 ≤ (30 : Int) := hF _ (List.mem_cons_of_mem _ List.mem_cons_self)
  cases (show some _ = some q from hq)
  have h32a : ∀ (r2 : Nat) (hk_r2 : zG0.1 r2 = 1000), zAt zG0 PZ zbd zpre zpost (d, (zbd 0).1, (zbd 0).2) prog_2_method_2_code "CapitalCase$History" (zRet prog_2_method_2_code none (zbd 0) (fun r I' => aPost zInv zc_0 [.inr (.inl (some 40)), .inr (.inl (some r1))] I r I')) 32 [some (.inr (.inl (some 40))), some (.inr (.inl (some r1))), some (.inr (.inl (some r2)))] [] I (0, 0) := by
    intro r2 hk_r2
    refine hA_aload (zs_aload_n em0_32) rfl ?_
    refine hA_aload (zs_aload_n em0_33) rfl ?_
    refine hA_callV (as := [.inr (.inl (some r1))]) (rest := []) (B' := (0, 0)) (zs_invV (T := TX8) em0_34 zl_53 rfl wd_972 wd_973 wd_974 ((congrFun xo_1 20).trans rfl) xm_49) rfl ⟨_, by rw [hk_r2]; rfl⟩ (Nat.le_of_ble_eq_true rfl) rfl ⟨Nat.le_of_ble_eq_true rfl, Nat.le_of_ble_eq_true rfl⟩ (zpre_of zh_53 ⟨(by show 1 ≤ d; omega), ⟨_, _, rfl, ⟨_, rfl, hk_r2⟩, ⟨_, _, rfl, ⟨_, rfl, hk_r1⟩, rfl⟩⟩, hF_nil, fun h => by cases h⟩) (fun r34 I34 hp34 => ?_)
    replace hp34 := zpost_of zh_53 hp34
    obtain ⟨rfl, rfl⟩ := zq_53 hp34
    refine hA_aload (zs_aload_n em0_37) rfl ?_
    refine hA_aload (zs_aload_n em0_38) rfl ?_
    refine hA_getf0 (id := 8) (zs_getf (T := TX0) (M := 3) (ci := 0) (j := 1) em0_39 rfl inX0 (by decide) wd_385 ((congrFun xo_1 15).trans rfl)) ⟨_, rfl, rfl⟩ (fun z39 hz39 => ?_)
    refine hA_const (k := 1) (zs_iconst (v := 1) em0_42 (by decide +kernel)) (by decide +kernel) (fun z42 hz42 => ?_)
    refine hA_add (zs_iadd em0_43) (by omega) (by omega) (fun z43 hz43 => ?_)
    refine hA_const (k := 30) (zs_bipush (v := 30) em0_44 (by decide +kernel)) (by decide +kernel) (fun z44 hz44 => ?_)
    refine hA_rem (c := 30) (zs_irem em0_46) hz44 (by omega) (by decide) (fun z46 hz46 hz46b hz46c => ?_)
    refine hA_puti0 (id := 8) (zs_puti zInj0 (T := TX0) (M := 3) (ty := tyX0) (ci := 0) (j := 1) (kd := 0) em0_47 rfl inX0 tyX0_ok nmX0 (by decide) wd_385 (Or.inl ⟨rfl, rfl⟩) rfl ((congrFun xo_1 15).trans rfl)) ⟨_, rfl, rfl⟩ (fun h => by cases h) ?_
    refine hA_aload (zs_aload_n em0_50) rfl ?_
    refine hA_const (k := 30) (zs_bipush (v := 30) em0_51 (by decide +kernel)) (by decide +kernel) (fun z51 hz51 => ?_)
    refine hA_aload (zs_aload_n em0_53) rfl ?_
    refine hA_getf0 (id := 9) (zs_getf (T := TX0) (M := 3) (ci := 0) (j := 2) em0_54 rfl inX0 (by decide) wd_386 ((congrFun xo_1 24).trans rfl)) ⟨_, rfl, rfl⟩ (fun z54 hz54 => ?_)
    rw [zf_ne (by decide)] at hz54
    refine hA_const (k := 1) (zs_iconst (v := 1) em0_57 (by decide +kernel)) (by decide +kernel) (fun z57 hz57 => ?_)
    refine hA_add (zs_iadd em0_58) (by omega) (by omega) (fun z58 hz58 => ?_)
    refine hA_min (zs_min em0_59 wd_976 wd_716 wd_129 wz_min ((congrFun xo_1 27).trans rfl)) (Nat.le_of_ble_eq_true rfl) (fun z59 hz59 hz59b hz59c => ?_)
    refine hA_puti0 (id := 9) (zs_puti zInj0 (T := TX0) (M := 3) (ty := tyX0) (ci := 0) (j := 2) (kd := 0) em0_62 rfl inX0 tyX0_ok nmX0 (by decide) wd_386 (Or.inl ⟨rfl, rfl⟩) rfl ((congrFun xo_1 24).trans rfl)) ⟨_, rfl, rfl⟩ (fun h => by cases h) ?_
    refine hA_return ⟨rfl, em0_65⟩ ⟨Nat.le_of_ble_eq_true rfl, Nat.le_of_ble_eq_true rfl⟩ ?_
    exact ⟨⟨_, List.mem_cons_self, rfl, (hCh_cons (fun k hk => none_no hk) ⟨by rw [zf_ne (by decide), zf_same]; omega, by rw [zf_ne (by decide), zf_same]; omega⟩ (hCh_cons (fun k hk => none_no hk) ⟨by rw [zf_same]; omega, by rw [zf_same]; omega⟩ hCh_nil)), (fun id hl hn => ((zupd_fr (fun e => by subst e; exact hn _ (List.mem_cons_of_mem _ List.mem_cons_self))).trans (((zupd_fr (fun e => by subst e; exact hn _ List.mem_cons_self)).trans (rfl))))), (fun _ h => absurd h List.not_mem_nil)⟩, (fun h => by cases h), (fun _ id hid => ((zupd_hi (by decide) hid).trans (((zupd_hi (by decide) hid).trans (rfl)))))⟩
  have h32b : ∀ (r2 : Nat) (hk_r2 : zG0.1 r2 = 1000), zAt zG0 PZ zbd zpre zpost (d, (zbd 0).1, (zbd 0).2) prog_2_method_2_code "CapitalCase$History" (zRet prog_2_method_2_code none (zbd 0) (fun r I' => aPost zInv zc_0 [.inr (.inl (some 40)), .inr (.inl (some r1))] I r I')) 32 [some (.inr (.inl (some 40))), some (.inr (.inl (some r1))), some (.inr (.inl (some r2)))] [] I (6, 386) := by
    intro r2 hk_r2
    refine hA_aload (zs_aload_n em0_32) rfl ?_
    refine hA_aload (zs_aload_n em0_33) rfl ?_
    refine hA_callV (as := [.inr (.inl (some r1))]) (rest := []) (B' := (6, 386)) (zs_invV (T := TX8) em0_34 zl_53 rfl wd_972 wd_973 wd_974 ((congrFun xo_1 20).trans rfl) xm_49) rfl ⟨_, by rw [hk_r2]; rfl⟩ (Nat.le_of_ble_eq_true rfl) rfl ⟨Nat.le_of_ble_eq_true rfl, Nat.le_of_ble_eq_true rfl⟩ (zpre_of zh_53 ⟨(by show 1 ≤ d; omega), ⟨_, _, rfl, ⟨_, rfl, hk_r2⟩, ⟨_, _, rfl, ⟨_, rfl, hk_r1⟩, rfl⟩⟩, hF_nil, fun h => by cases h⟩) (fun r34 I34 hp34 => ?_)
    replace hp34 := zpost_of zh_53 hp34
    obtain ⟨rfl, rfl⟩ := zq_53 hp34
    refine hA_aload (zs_aload_n em0_37) rfl ?_
    refine hA_aload (zs_aload_n em0_38) rfl ?_
    refine hA_getf0 (id := 8) (zs_getf (T := TX0) (M := 3) (ci := 0) (j := 1) em0_39 rfl inX0 (by decide) wd_385 ((congrFun xo_1 15).trans rfl)) ⟨_, rfl, rfl⟩ (fun z39 hz39 => ?_)
    refine hA_const (k := 1) (zs_iconst (v := 1) em0_42 (by decide +kernel)) (by decide +kernel) (fun z42 hz42 => ?_)
    refine hA_add (zs_iadd em0_43) (by omega) (by omega) (fun z43 hz43 => ?_)
    refine hA_const (k := 30) (zs_bipush (v := 30) em0_44 (by decide +kernel)) (by decide +kernel) (fun z44 hz44 => ?_)
    refine hA_rem (c := 30) (zs_irem em0_46) hz44 (by omega) (by decide) (fun z46 hz46 hz46b hz46c => ?_)
    refine hA_puti0 (id := 8) (zs_puti zInj0 (T := TX0) (M := 3) (ty := tyX0) (ci := 0) (j := 1) (kd := 0) em0_47 rfl inX0 tyX0_ok nmX0 (by decide) wd_385 (Or.inl ⟨rfl, rfl⟩) rfl ((congrFun xo_1 15).trans rfl)) ⟨_, rfl, rfl⟩ (fun h => by cases h) ?_
    refine hA_aload (zs_aload_n em0_50) rfl ?_
    refine hA_const (k := 30) (zs_bipush (v := 30) em0_51 (by decide +kernel)) (by decide +kernel) (fun z51 hz51 => ?_)
    refine hA_aload (zs_aload_n em0_53) rfl ?_
    refine hA_getf0 (id := 9) (zs_getf (T := TX0) (M := 3) (ci := 0) (j := 2) em0_54 rfl inX0 (by decide) wd_386 ((congrFun xo_1 24).trans rfl)) ⟨_, rfl, rfl⟩ (fun z54 hz54 => ?_)
    rw [zf_ne (by decide)] at hz54
    refine hA_const (k := 1) (zs_iconst (v := 1) em0_57 (by decide +kernel)) (by decide +kernel) (fun z57 hz57 => ?_)
    refine hA_add (zs_iadd em0_58) (by omega) (by omega) (fun z58 hz58 => ?_)
    refine hA_min (zs_min em0_59 wd_976 wd_716 wd_129 wz_min ((congrFun xo_1 27).trans rfl)) (Nat.le_of_ble_eq_true rfl) (fun z59 hz59 hz59b hz59c => ?_)
    refine hA_puti0 (id := 9) (zs_puti zInj0 (T := TX0) (M := 3) (ty := tyX0) (ci := 0) (j := 2) (kd := 0) em0_62 rfl inX0 tyX0_ok nmX0 (by decide) wd_386 (Or.inl ⟨rfl, rfl⟩) rfl ((congrFun xo_1 24).trans rfl)) ⟨_, rfl, rfl⟩ (fun h => by cases h) ?_
    refine hA_return ⟨rfl, em0_65⟩ ⟨Nat.le_of_ble_eq_true rfl, Nat.le_of_ble_eq_true rfl⟩ ?_
    exact ⟨⟨_, List.mem_cons_self, rfl, (hCh_cons (fun k hk => none_no hk) ⟨by rw [zf_ne (by decide), zf_same]; omega, by rw [zf_ne (by decide), zf_same]; omega⟩ (hCh_cons (fun k hk => none_no hk) ⟨by rw [zf_same]; omega, by rw [zf_same]; omega⟩ hCh_nil)), (fun id hl hn => ((zupd_fr (fun e => by subst e; exact hn _ (List.mem_cons_of_mem _ List.mem_cons_self))).trans (((zupd_fr (fun e => by subst e; exact hn _ List.mem_cons_self)).trans (rfl))))), (fun _ h => absurd h List.not_mem_nil)⟩, (fun h => by cases h), (fun _ id hid => ((zupd_hi (by decide) hid).trans (((zupd_hi (by decide) hid).trans (rfl)))))⟩
  refine hmet (L := [some (.inr (.inl (some 40))), some (.inr (.inl (some r1))), none]) (by decide) (Nat.le_of_ble_eq_true rfl) hc rfl ?_
  refine hA_aload (zs_aload_n em0_0) rfl ?_
  refine hA_getf2 (r := 41) (zs_getf (T := TX0) (M := 3) (ci := 0) (j := 0) em0_1 rfl inX0 (by decide) wd_384 ((congrFun xo_1 11).trans rfl)) ⟨_, rfl, rfl⟩ ?_
  refine hA_aload (zs_aload_n em0_4) rfl ?_
  refine hA_getf0 (id := 8) (zs_getf (T := TX0) (M := 3) (ci := 0) (j := 1) em0_5 rfl inX0 (by decide) wd_385 ((congrFun xo_1 15).trans rfl)) ⟨_, rfl, rfl⟩ (fun z5 hz5 => ?_)
  refine hA_aald (kd := 41) (len := 30) (zs_aald em0_8) ⟨rfl, rfl⟩ (by omega) (by show _ < ((30 : Nat) : Int); omega) (fun hn8 => ?_) (fun r8 hk_r8 hn8 => ?_)
  · clear hn8
    refine hA_astore (L' := [some (.inr (.inl (some 40))), some (.inr (.inl (some r1))), some (.inr (.inl none))]) (zs_astore_n em0_9) ⟨Nat.le_of_ble_eq_true rfl, rfl⟩ rfl ?_
    refine hA_aload (zs_aload_n em0_10) rfl ?_
    refine hA (zs_ifnonnull em0_11 (t := 32) (by decide)) ?_
    show zAt _ _ _ _ _ _ _ _ _ 14 _ _ _ _
    refine hA (zs_newT (show 3 ≤ d by omega) em0_14 em0_17 em0_18 wd_382 (by decide +kernel)) ?_
    refine ⟨Nat.le_of_ble_eq_true rfl, Nat.le_of_ble_eq_true rfl, Nat.le_of_ble_eq_true rfl, fun rn14 hk_rn14 => ?_⟩
    show zAt _ _ _ _ _ _ _ _ _ 21 _ _ _ (6, 386)
    refine hA_astore (L' := [some (.inr (.inl (some 40))), some (.inr (.inl (some r1))), some (.inr (.inl (some rn14)))]) (zs_astore_n em0_21) ⟨Nat.le_of_ble_eq_true rfl, rfl⟩ rfl ?_
    refine hA_aload (zs_aload_n em0_22) rfl ?_
    refine hA_getf2 (r := 41) (zs_getf (T := TX0) (M := 3) (ci := 0) (j := 0) em0_23 rfl inX0 (by decide) wd_384 ((congrFun xo_1 11).trans rfl)) ⟨_, rfl, rfl⟩ ?_
    refine hA_aload (zs_aload_n em0_26) rfl ?_
    refine hA_getf0 (id := 8) (zs_getf (T := TX0) (M := 3) (ci := 0) (j := 1) em0_27 rfl inX0 (by decide) wd_385 ((congrFun xo_1 15).trans rfl)) ⟨_, rfl, rfl⟩ (fun z27 hz27 => ?_)
    refine hA_aload (zs_aload_n em0_30) rfl ?_
    refine hA_aastH (kd := 41) (len := 30) (zs_aast zInj0 (ci := 8) em0_31 rfl rfl) ⟨rfl, rfl, rfl⟩ hk_rn14 (by omega) (by show _ < ((30 : Nat) : Int); omega) (fun _ => eno rfl) ?_
    exact h32b _ hk_rn14
  · clear hn8
    refine hA_astore (L' := [some (.inr (.inl (some 40))), some (.inr (.inl (some r1))), some (.inr (.inl (some r8)))]) (zs_astore_n em0_9) ⟨Nat.le_of_ble_eq_true rfl, rfl⟩ rfl ?_
    refine hA_aload (zs_aload_n em0_10) rfl ?_
    refine hA (zs_ifnonnull em0_11 (t := 32) (by decide)) ?_
    show zAt _ _ _ _ _ _ _ _ _ 32 _ _ _ _
    exact h32a _ hk_r8
theorem em1_0 : decode prog_2_method_3_code 0 = .ok (.aload_n 0, 1) := by decide +kernel
theorem em1_1 : decode prog_2_method_3_code 1 = .ok (.getfield 15, 3) := by decide +kernel
theorem em1_4 : decode prog_2_method_3_code 4 = .ok (.bipush 30, 2) := by decide +kernel
theorem em1_6 : decode prog_2_method_3_code 6 = .ok (.iadd, 1) := by decide +kernel
theorem em1_7 : decode prog_2_method_3_code 7 = .ok (.iconst 1, 1) := by decide +kernel
theorem em1_8 : decode prog_2_method_3_code 8 = .ok (.isub, 1) := by decide +kernel
theorem em1_9 : decode prog_2_method_3_code 9 = .ok (.bipush 30, 2) := by decide +kernel
theorem em1_11 : decode prog_2_method_3_code 11 = .ok (.irem, 1) := by decide +kernel
theorem em1_12 : decode prog_2_method_3_code 12 = .ok (.istore_n 2, 1) := by decide +kernel
theorem em1_13 : decode prog_2_method_3_code 13 = .ok (.aload_n 0, 1) := by decide +kernel
theorem em1_14 : decode prog_2_method_3_code 14 = .ok (.getfield 11, 3) := by decide +kernel
theorem em1_17 : decode prog_2_method_3_code 17 = .ok (.iload_n 2, 1) := by decide +kernel
theorem em1_18 : decode prog_2_method_3_code 18 = .ok (.aaload, 1) := by decide +kernel
theorem em1_19 : decode prog_2_method_3_code 19 = .ok (.astore_n 3, 1) := by decide +kernel
theorem em1_20 : decode prog_2_method_3_code 20 = .ok (.aload_n 0, 1) := by decide +kernel
theorem em1_21 : decode prog_2_method_3_code 21 = .ok (.getfield 24, 3) := by decide +kernel
theorem em1_24 : decode prog_2_method_3_code 24 = .ok (.ifCond .eq 7, 3) := by decide +kernel
theorem em1_27 : decode prog_2_method_3_code 27 = .ok (.aload_n 3, 1) := by decide +kernel
theorem em1_28 : decode prog_2_method_3_code 28 = .ok (.ifnonnull 5, 3) := by decide +kernel
theorem em1_31 : decode prog_2_method_3_code 31 = .ok (.iconst 0, 1) := by decide +kernel
theorem em1_32 : decode prog_2_method_3_code 32 = .ok (.ireturn, 1) := by decide +kernel
theorem em1_33 : decode prog_2_method_3_code 33 = .ok (.aload_n 1, 1) := by decide +kernel
theorem em1_34 : decode prog_2_method_3_code 34 = .ok (.aload_n 3, 1) := by decide +kernel
theorem em1_35 : decode prog_2_method_3_code 35 = .ok (.invokevirtual 20, 3) := by decide +kernel
theorem em1_38 : decode prog_2_method_3_code 38 = .ok (.aload_n 0, 1) := by decide +kernel
theorem em1_39 : decode prog_2_method_3_code 39 = .ok (.iload_n 2, 1) := by decide +kernel
theorem em1_40 : decode prog_2_method_3_code 40 = .ok (.putfield 15, 3) := by decide +kernel
theorem em1_43 : decode prog_2_method_3_code 43 = .ok (.aload_n 0, 1) := by decide +kernel
theorem em1_44 : decode prog_2_method_3_code 44 = .ok (.dup, 1) := by decide +kernel
theorem em1_45 : decode prog_2_method_3_code 45 = .ok (.getfield 24, 3) := by decide +kernel
theorem em1_48 : decode prog_2_method_3_code 48 = .ok (.iconst 1, 1) := by decide +kernel
theorem em1_49 : decode prog_2_method_3_code 49 = .ok (.isub, 1) := by decide +kernel
theorem em1_50 : decode prog_2_method_3_code 50 = .ok (.putfield 24, 3) := by decide +kernel
theorem em1_53 : decode prog_2_method_3_code 53 = .ok (.iconst 1, 1) := by decide +kernel
theorem em1_54 : decode prog_2_method_3_code 54 = .ok (.ireturn, 1) := by decide +kernel
set_option maxRecDepth 10000 in
set_option maxHeartbeats 4000000 in
theorem hM_1 : zOKh 1 zc_1 := by
  intro d hc as I q h hq
  obtain ⟨hd, ⟨_, _, rfl, rfl, ⟨_, _, rfl, ⟨r1, rfl, hk_r1⟩, rfl⟩⟩, hF, hI⟩ := h
  have hd : 8 ≤ d + 1 := hd
  have hf8 : (0 : Int) ≤ zf I 8 ∧ zf I 8 ≤ (29 : Int) := hF _ List.mem_cons_self
  have hf9 : (0 : Int) ≤ zf I 9 ∧ zf I 9 ≤ (30 : Int) := hF _ (List.mem_cons_of_mem _ List.mem_cons_self)
  cases (show some _ = some q from hq)
  refine hmet (L := [some (.inr (.inl (some 40))), some (.inr (.inl (some r1))), none, none]) (by decide) (Nat.le_of_ble_eq_true rfl) hc rfl ?_
  refine hA_aload (zs_aload_n em1_0) rfl ?_
  refine hA_getf0 (id := 8) (zs_getf (T := TX0) (M := 3) (ci := 0) (j := 1) em1_1 rfl inX0 (by decide) wd_385 ((congrFun xo_1 15).trans rfl)) ⟨_, rfl, rfl⟩ (fun z1 hz1 => ?_)
  refine hA_const (k := 30) (zs_bipush (v := 30) em1_4 (by decide +kernel)) (by decide +kernel) (fun z4 hz4 => ?_)
  refine hA_add (zs_iadd em1_6) (by omega) (by omega) (fun z6 hz6 => ?_)
  refine hA_const (k := 1) (zs_iconst (v := 1) em1_7 (by decide +kernel)) (by decide +kernel) (fun z7 hz7 => ?_)
  refine hA_sub (zs_isub em1_8) (by omega) (by omega) (fun z8 hz8 => ?_)
  refine hA_const (k := 30) (zs_bipush (v := 30) em1_9 (by decide +kernel)) (by decide +kernel) (fun z9 hz9 => ?_)
  refine hA_rem (c := 30) (zs_irem em1_11) hz9 (by omega) (by decide) (fun z11 hz11 hz11b hz11c => ?_)
  refine hA_istore (L' := [some (.inr (.inl (some 40))), some (.inr (.inl (some r1))), some (.inl z11), none]) (zs_istore_n em1_12) ⟨Nat.le_of_ble_eq_true rfl, rfl⟩ rfl ?_
  refine hA_aload (zs_aload_n em1_13) rfl ?_
  refine hA_getf2 (r := 41) (zs_getf (T := TX0) (M := 3) (ci := 0) (j := 0) em1_14 rfl inX0 (by decide) wd_384 ((congrFun xo_1 11).trans rfl)) ⟨_, rfl, rfl⟩ ?_
  refine hA_iload (zs_iload_n em1_17) rfl ?_
  refine hA_aald (kd := 41) (len := 30) (zs_aald em1_18) ⟨rfl, rfl⟩ (by omega) (by show _ < ((30 : Nat) : Int); omega) (fun hn18 => ?_) (fun r18 hk_r18 hn18 => ?_)
  · clear hn18
    refine hA_astore (L' := [some (.inr (.inl (some 40))), some (.inr (.inl (some r1))), some (.inl z11), some (.inr (.inl none))]) (zs_astore_n em1_19) ⟨Nat.le_of_ble_eq_true rfl, rfl⟩ rfl ?_
    refine hA_aload (zs_aload_n em1_20) rfl ?_
    refine hA_getf0 (id := 9) (zs_getf (T := TX0) (M := 3) (ci := 0) (j := 2) em1_21 rfl inX0 (by decide) wd_386 ((congrFun xo_1 24).trans rfl)) ⟨_, rfl, rfl⟩ (fun z21 hz21 => ?_)
    refine hA_if (zs_ifeq em1_24 (t := 31) (by decide)) (fun (c24 : z21.toInt = 0) => ?_) (fun (c24 : ¬ z21.toInt = 0) => ?_)
    · refine hA_const (k := 0) (zs_iconst (v := 0) em1_31 (by decide +kernel)) (by decide +kernel) (fun z31 hz31 => ?_)
      refine hA_zreturn ⟨rfl, em1_32⟩ ⟨Nat.le_refl _, Nat.le_refl _⟩ ⟨by omega, by omega⟩ ?_
      exact ⟨⟨_, List.mem_cons_self, ⟨_, rfl, show (0 : Int) ≤ _ by omega, show _ ≤ (0 : Int) by omega⟩, hCh_nil, (fun id hl hn => rfl), (fun _ h => absurd h List.not_mem_nil)⟩, (fun h => by cases h), (fun _ id hid => rfl)⟩
    · refine hA_aload (zs_aload_n em1_27) rfl ?_
      refine hA (zs_ifnonnull em1_28 (t := 33) (by decide)) ?_
      show zAt _ _ _ _ _ _ _ _ _ 31 _ _ _ _
      refine hA_const (k := 0) (zs_iconst (v := 0) em1_31 (by decide +kernel)) (by decide +kernel) (fun z31' hz31' => ?_)
      refine hA_zreturn ⟨rfl, em1_32⟩ ⟨Nat.le_refl _, Nat.le_refl _⟩ ⟨by omega, by omega⟩ ?_
      exact ⟨⟨_, List.mem_cons_self, ⟨_, rfl, show (0 : Int) ≤ _ by omega, show _ ≤ (0 : Int) by omega⟩, hCh_nil, (fun id hl hn => rfl), (fun _ h => absurd h List.not_mem_nil)⟩, (fun h => by cases h), (fun _ id hid => rfl)⟩
  · clear hn18
    refine hA_astore (L' := [some (.inr (.inl (some 40))), some (.inr (.inl (some r1))), some (.inl z11), some (.inr (.inl (some r18)))]) (zs_astore_n em1_19) ⟨Nat.le_of_ble_eq_true rfl, rfl⟩ rfl ?_
    refine hA_aload (zs_aload_n em1_20) rfl ?_
    refine hA_getf0 (id := 9) (zs_getf (T := TX0) (M := 3) (ci := 0) (j := 2) em1_21 rfl inX0 (by decide) wd_386 ((congrFun xo_1 24).trans rfl)) ⟨_, rfl, rfl⟩ (fun z21' hz21' => ?_)
    refine hA_if (zs_ifeq em1_24 (t := 31) (by decide)) (fun (c24' : z21'.toInt = 0) => ?_) (fun (c24' : ¬ z21'.toInt = 0) => ?_)
    · refine hA_const (k := 0) (zs_iconst (v := 0) em1_31 (by decide +kernel)) (by decide +kernel) (fun z31'' hz31'' => ?_)
      refine hA_zreturn ⟨rfl, em1_32⟩ ⟨Nat.le_refl _, Nat.le_refl _⟩ ⟨by omega, by omega⟩ ?_
      exact ⟨⟨_, List.mem_cons_self, ⟨_, rfl, show (0 : Int) ≤ _ by omega, show _ ≤ (0 : Int) by omega⟩, hCh_nil, (fun id hl hn => rfl), (fun _ h => absurd h List.not_mem_nil)⟩, (fun h => by cases h), (fun _ id hid => rfl)⟩
    · refine hA_aload (zs_aload_n em1_27) rfl ?_
      refine hA (zs_ifnonnull em1_28 (t := 33) (by decide)) ?_
      show zAt _ _ _ _ _ _ _ _ _ 33 _ _ _ _
      refine hA_aload (zs_aload_n em1_33) rfl ?_
      refine hA_aload (zs_aload_n em1_34) rfl ?_
      refine hA_callV (as := [.inr (.inl (some r18))]) (rest := []) (B' := (0, 0)) (zs_invV (T := TX8) em1_35 zl_53 rfl wd_972 wd_973 wd_974 ((congrFun xo_1 20).trans rfl) xm_49) rfl ⟨_, by rw [hk_r1]; rfl⟩ (Nat.le_of_ble_eq_true rfl) rfl ⟨Nat.zero_le _, Nat.zero_le _⟩ (zpre_of zh_53 ⟨(by show 1 ≤ d; omega), ⟨_, _, rfl, ⟨_, rfl, hk_r1⟩, ⟨_, _, rfl, ⟨_, rfl, hk_r18⟩, rfl⟩⟩, hF_nil, fun h => by cases h⟩) (fun r35 I35 hp35 => ?_)
      replace hp35 := zpost_of zh_53 hp35
      obtain ⟨rfl, rfl⟩ := zq_53 hp35
      refine hA_aload (zs_aload_n em1_38) rfl ?_
      refine hA_iload (zs_iload_n em1_39) rfl ?_
      refine hA_puti0 (id := 8) (zs_puti zInj0 (T := TX0) (M := 3) (ty := tyX0) (ci := 0) (j := 1) (kd := 0) em1_40 rfl inX0 tyX0_ok nmX0 (by decide) wd_385 (Or.inl ⟨rfl, rfl⟩) rfl ((congrFun xo_1 15).trans rfl)) ⟨_, rfl, rfl⟩ (fun h => by cases h) ?_
      refine hA_aload (zs_aload_n em1_43) rfl ?_
      refine hA_dup (zs_dup em1_44) rfl ?_
      refine hA_getf0 (id := 9) (zs_getf (T := TX0) (M := 3) (ci := 0) (j := 2) em1_45 rfl inX0 (by decide) wd_386 ((congrFun xo_1 24).trans rfl)) ⟨_, rfl, rfl⟩ (fun z45 hz45 => ?_)
      rw [zf_ne (by decide)] at hz45
      refine hA_const (k := 1) (zs_iconst (v := 1) em1_48 (by decide +kernel)) (by decide +kernel) (fun z48 hz48 => ?_)
      refine hA_sub (zs_isub em1_49) (by omega) (by omega) (fun z49 hz49 => ?_)
      refine hA_puti0 (id := 9) (zs_puti zInj0 (T := TX0) (M := 3) (ty := tyX0) (ci := 0) (j := 2) (kd := 0) em1_50 rfl inX0 tyX0_ok nmX0 (by decide) wd_386 (Or.inl ⟨rfl, rfl⟩) rfl ((congrFun xo_1 24).trans rfl)) ⟨_, rfl, rfl⟩ (fun h => by cases h) ?_
      refine hA_const (k := 1) (zs_iconst (v := 1) em1_53 (by decide +kernel)) (by decide +kernel) (fun z53 hz53 => ?_)
      refine hA_zreturn ⟨rfl, em1_54⟩ ⟨Nat.le_refl _, Nat.le_refl _⟩ ⟨by omega, by omega⟩ ?_
      exact ⟨⟨_, (List.mem_cons_of_mem _ List.mem_cons_self), ⟨_, rfl, show (1 : Int) ≤ _ by omega, show _ ≤ (1 : Int) by omega⟩, (hCh_cons (fun k hk => none_no hk) ⟨by rw [zf_ne (by decide), zf_same]; omega, by rw [zf_ne (by decide), zf_same]; omega⟩ (hCh_cons (fun k hk => by rw [some_eq hk]; rw [zf_same]; omega) ⟨by rw [zf_same]; omega, by rw [zf_same]; omega⟩ hCh_nil)), (fun id hl hn => ((zupd_fr (fun e => by subst e; exact hn _ (List.mem_cons_of_mem _ List.mem_cons_self))).trans (((zupd_fr (fun e => by subst e; exact hn _ List.mem_cons_self)).trans (rfl))))), (fun _ h => absurd h List.not_mem_nil)⟩, (fun h => by cases h), (fun _ id hid => ((zupd_hi (by decide) hid).trans (((zupd_hi (by decide) hid).trans (rfl)))))⟩
theorem em86_0 : decode prog_1_method_42_code 0 = .ok (.iload_n 1, 1) := by decide +kernel
theorem em86_1 : decode prog_1_method_42_code 1 = .ok (.ifCond .lt 8, 3) := by decide +kernel
theorem em86_4 : decode prog_1_method_42_code 4 = .ok (.iload_n 1, 1) := by decide +kernel
theorem em86_5 : decode prog_1_method_42_code 5 = .ok (.iconst 3, 1) := by decide +kernel
theorem em86_6 : decode prog_1_method_42_code 6 = .ok (.if_icmp .lt 5, 3) := by decide +kernel
theorem em86_9 : decode prog_1_method_42_code 9 = .ok (.iconst 0, 1) := by decide +kernel
theorem em86_10 : decode prog_1_method_42_code 10 = .ok (.ireturn, 1) := by decide +kernel
theorem em86_11 : decode prog_1_method_42_code 11 = .ok (.aload_n 0, 1) := by decide +kernel
theorem em86_12 : decode prog_1_method_42_code 12 = .ok (.getfield 53, 3) := by decide +kernel
theorem em86_15 : decode prog_1_method_42_code 15 = .ok (.iload_n 1, 1) := by decide +kernel
theorem em86_16 : decode prog_1_method_42_code 16 = .ok (.aaload, 1) := by decide +kernel
theorem em86_17 : decode prog_1_method_42_code 17 = .ok (.ifnonnull 16, 3) := by decide +kernel
theorem em86_20 : decode prog_1_method_42_code 20 = .ok (.aload_n 0, 1) := by decide +kernel
theorem em86_21 : decode prog_1_method_42_code 21 = .ok (.getfield 53, 3) := by decide +kernel
theorem em86_24 : decode prog_1_method_42_code 24 = .ok (.iload_n 1, 1) := by decide +kernel
theorem em86_25 : decode prog_1_method_42_code 25 = .ok (.new 36, 3) := by decide +kernel
theorem em86_28 : decode prog_1_method_42_code 28 = .ok (.dup, 1) := by decide +kernel
theorem em86_29 : decode prog_1_method_42_code 29 = .ok (.invokespecial 38, 3) := by decide +kernel
theorem em86_32 : decode prog_1_method_42_code 32 = .ok (.aastore, 1) := by decide +kernel
theorem em86_33 : decode prog_1_method_42_code 33 = .ok (.aload_n 0, 1) := by decide +kernel
theorem em86_34 : decode prog_1_method_42_code 34 = .ok (.getfield 53, 3) := by decide +kernel
theorem em86_37 : decode prog_1_method_42_code 37 = .ok (.iload_n 1, 1) := by decide +kernel
theorem em86_38 : decode prog_1_method_42_code 38 = .ok (.aaload, 1) := by decide +kernel
theorem em86_39 : decode prog_1_method_42_code 39 = .ok (.aload_n 0, 1) := by decide +kernel
theorem em86_40 : decode prog_1_method_42_code 40 = .ok (.getfield 39, 3) := by decide +kernel
theorem em86_43 : decode prog_1_method_42_code 43 = .ok (.invokevirtual 275, 3) := by decide +kernel
theorem em86_46 : decode prog_1_method_42_code 46 = .ok (.aload_n 0, 1) := by decide +kernel
theorem em86_47 : decode prog_1_method_42_code 47 = .ok (.getfield 57, 3) := by decide +kernel
theorem em86_50 : decode prog_1_method_42_code 50 = .ok (.iload_n 1, 1) := by decide +kernel
theorem em86_51 : decode prog_1_method_42_code 51 = .ok (.iconst 1, 1) := by decide +kernel
theorem em86_52 : decode prog_1_method_42_code 52 = .ok (.bastore, 1) := by decide +kernel
theorem em86_53 : decode prog_1_method_42_code 53 = .ok (.iconst 1, 1) := by decide +kernel
theorem em86_54 : decode prog_1_method_42_code 54 = .ok (.ireturn, 1) := by decide +kernel
set_option maxRecDepth 10000 in
set_option maxHeartbeats 4000000 in
theorem hM_91 : zOKh 91 zc_91 := by
  intro d hc as I q h hq
  obtain ⟨hd, ⟨_, _, rfl, rfl, ⟨_, _, rfl, ⟨x1, rfl, hx1, hx1b⟩, rfl⟩⟩, hF, hI⟩ := h
  have hd : 8 ≤ d + 1 := hd
  have hx1 : ((-2147483648) : Int) ≤ x1.toInt := hx1
  have hx1b : x1.toInt ≤ (2147483647 : Int) := hx1b
  have hInv : zInv I := hI rfl
  cases (show some _ = some q from hq)
  have h33a : 0 ≤ x1.toInt → x1.toInt < 3 → zv I 42 x1.toInt = 1 → zAt zG0 PZ zbd zpre zpost (d, (zbd 91).1, (zbd 91).2) prog_1_method_42_code "CapitalCase" (zRet prog_1_method_42_code (some .boolean) (zbd 91) (fun r I' => aPost zInv zc_91 [.inr (.inl (some 0)), .inl x1] I r I')) 33 [some (.inr (.inl (some 0))), some (.inl x1)] [] I (0, 0) := by
    intro q0 q1 q2
    refine hA_aload (zs_aload_n em86_33) rfl ?_
    refine hA_getf2 (r := 42) (zs_getf (T := TX11) (M := 16) (ci := 11) (j := 11) em86_34 rfl inX11 (by decide) wd_561 ((congrFun xo_0 53).trans rfl)) ⟨_, rfl, rfl⟩ ?_
    refine hA_iload (zs_iload_n em86_37) rfl ?_
    refine hA_aald (kd := 42) (len := 3) (zs_aald em86_38) ⟨rfl, rfl⟩ (by omega) (by show _ < ((3 : Nat) : Int); omega) (fun hn38 => ?_) (fun r38 hk_r38 hn38 => ?_)
    · replace hn38 := hn38 rfl
      exfalso
      omega
    · replace hn38 := hn38 rfl
      refine hA_aload (zs_aload_n em86_39) rfl ?_
      refine hA_getf2 (r := 28) (zs_getf (T := TX11) (M := 16) (ci := 11) (j := 1) em86_40 rfl inX11 (by decide) wd_558 ((congrFun xo_0 39).trans rfl)) ⟨_, rfl, rfl⟩ ?_
      refine hA_callV (as := [.inr (.inl (some 28))]) (rest := []) (B' := (0, 0)) (zs_invV (T := TX8) em86_43 zl_53 rfl wd_1082 wd_973 wd_974 ((congrFun xo_0 275).trans rfl) xm_49) rfl ⟨_, by rw [hk_r38]; rfl⟩ (Nat.le_of_ble_eq_true rfl) rfl ⟨Nat.le_of_ble_eq_true rfl, Nat.le_of_ble_eq_true rfl⟩ (zpre_of zh_53 ⟨(by show 1 ≤ d; omega), ⟨_, _, rfl, ⟨_, rfl, hk_r38⟩, ⟨_, _, rfl, ⟨_, rfl, rfl⟩, rfl⟩⟩, hF_nil, fun h => by cases h⟩) (fun r43 I43 hp43 => ?_)
      replace hp43 := zpost_of zh_53 hp43
      obtain ⟨rfl, rfl⟩ := zq_53 hp43
      refine hA_aload (zs_aload_n em86_46) rfl ?_
      refine hA_getf2 (r := 43) (zs_getf (T := TX11) (M := 16) (ci := 11) (j := 12) em86_47 rfl inX11 (by decide) wd_562 ((congrFun xo_0 57).trans rfl)) ⟨_, rfl, rfl⟩ ?_
      refine hA_iload (zs_iload_n em86_50) rfl ?_
      refine hA_const (k := 1) (zs_iconst (v := 1) em86_51 (by decide +kernel)) (by decide +kernel) (fun z51 hz51 => ?_)
      refine hA_zastH (kd := 43) (len := 3) (zs_bast zInj0 em86_52) ⟨rfl, rfl, rfl⟩ (by omega) (by show _ < ((3 : Nat) : Int); omega) (by omega) (by omega) (eal rfl (by show (0 : Int) ≤ _; omega) (by show _ ≤ (1 : Int); omega)) ?_
      refine hA_const (k := 1) (zs_iconst (v := 1) em86_53 (by decide +kernel)) (by decide +kernel) (fun z53 hz53 => ?_)
      refine hA_zreturn ⟨rfl, em86_54⟩ ⟨Nat.le_of_ble_eq_true rfl, Nat.le_of_ble_eq_true rfl⟩ ⟨by omega, by omega⟩ ?_
      exact ⟨⟨_, List.mem_cons_self, ⟨_, rfl, show (1 : Int) ≤ _ by omega, show _ ≤ (1 : Int) by omega⟩, hCh_nil, (fun id hl hn => rfl), (List.forall_mem_cons.mpr ⟨⟨_, rfl, show (0 : Int) ≤ _ by omega, show _ ≤ (2 : Int) by omega⟩, fun _ h => absurd h List.not_mem_nil⟩)⟩, (fun _ => hInv), (fun h => by cases h)⟩
  have h33b : ∀ z : Int32, z.toInt = 1 → 0 ≤ x1.toInt → x1.toInt < 3 → zAt zG0 PZ zbd zpre zpost (d, (zbd 91).1, (zbd 91).2) prog_1_method_42_code "CapitalCase" (zRet prog_1_method_42_code (some .boolean) (zbd 91) (fun r I' => aPost zInv zc_91 [.inr (.inl (some 0)), .inl x1] I r I')) 33 [some (.inr (.inl (some 0))), some (.inl x1)] [] (zupd I (zid 42 x1.toInt.toNat) z) (6, 386) := by
    intro z hz q0 q1
    refine hA_aload (zs_aload_n em86_33) rfl ?_
    refine hA_getf2 (r := 42) (zs_getf (T := TX11) (M := 16) (ci := 11) (j := 11) em86_34 rfl inX11 (by decide) wd_561 ((congrFun xo_0 53).trans rfl)) ⟨_, rfl, rfl⟩ ?_
    refine hA_iload (zs_iload_n em86_37) rfl ?_
    refine hA_aald (kd := 42) (len := 3) (zs_aald em86_38) ⟨rfl, rfl⟩ (by omega) (by show _ < ((3 : Nat) : Int); omega) (fun hn38 => ?_) (fun r38 hk_r38 hn38 => ?_)
    · replace hn38 := hn38 rfl
      rw [zv_at] at hn38
      exfalso
      omega
    · replace hn38 := hn38 rfl
      rw [zv_at] at hn38
      refine hA_aload (zs_aload_n em86_39) rfl ?_
      refine hA_getf2 (r := 28) (zs_getf (T := TX11) (M := 16) (ci := 11) (j := 1) em86_40 rfl inX11 (by decide) wd_558 ((congrFun xo_0 39).trans rfl)) ⟨_, rfl, rfl⟩ ?_
      refine hA_callV (as := [.inr (.inl (some 28))]) (rest := []) (B' := (6, 386)) (zs_invV (T := TX8) em86_43 zl_53 rfl wd_1082 wd_973 wd_974 ((congrFun xo_0 275).trans rfl) xm_49) rfl ⟨_, by rw [hk_r38]; rfl⟩ (Nat.le_of_ble_eq_true rfl) rfl ⟨Nat.le_of_ble_eq_true rfl, Nat.le_of_ble_eq_true rfl⟩ (zpre_of zh_53 ⟨(by show 1 ≤ d; omega), ⟨_, _, rfl, ⟨_, rfl, hk_r38⟩, ⟨_, _, rfl, ⟨_, rfl, rfl⟩, rfl⟩⟩, hF_nil, fun h => by cases h⟩) (fun r43 I43 hp43 => ?_)
      replace hp43 := zpost_of zh_53 hp43
      obtain ⟨rfl, rfl⟩ := zq_53 hp43
      refine hA_aload (zs_aload_n em86_46) rfl ?_
      refine hA_getf2 (r := 43) (zs_getf (T := TX11) (M := 16) (ci := 11) (j := 12) em86_47 rfl inX11 (by decide) wd_562 ((congrFun xo_0 57).trans rfl)) ⟨_, rfl, rfl⟩ ?_
      refine hA_iload (zs_iload_n em86_50) rfl ?_
      refine hA_const (k := 1) (zs_iconst (v := 1) em86_51 (by decide +kernel)) (by decide +kernel) (fun z51 hz51 => ?_)
      refine hA_zastH (kd := 43) (len := 3) (zs_bast zInj0 em86_52) ⟨rfl, rfl, rfl⟩ (by omega) (by show _ < ((3 : Nat) : Int); omega) (by omega) (by omega) (eal rfl (by show (0 : Int) ≤ _; omega) (by show _ ≤ (1 : Int); omega)) ?_
      refine hA_const (k := 1) (zs_iconst (v := 1) em86_53 (by decide +kernel)) (by decide +kernel) (fun z53 hz53 => ?_)
      refine hA_zreturn ⟨rfl, em86_54⟩ ⟨Nat.le_of_ble_eq_true rfl, Nat.le_of_ble_eq_true rfl⟩ ⟨by omega, by omega⟩ ?_
      exact ⟨⟨_, List.mem_cons_self, ⟨_, rfl, show (1 : Int) ≤ _ by omega, show _ ≤ (1 : Int) by omega⟩, hCh_nil, (fun id hl hn => ((zupd_hi2 hl).trans (rfl))), (List.forall_mem_cons.mpr ⟨⟨_, rfl, show (0 : Int) ≤ _ by omega, show _ ≤ (2 : Int) by omega⟩, fun _ h => absurd h List.not_mem_nil⟩)⟩, (fun _ => zInv_slot hInv (by omega) (by omega)), (fun h => by cases h)⟩
  refine hmet (L := [some (.inr (.inl (some 0))), some (.inl x1)]) (by decide) (Nat.le_of_ble_eq_true rfl) hc rfl ?_
  refine hA_iload (zs_iload_n em86_0) rfl ?_
  refine hA_if (zs_iflt em86_1 (t := 9) (by decide)) (fun (c1 : x1.toInt < 0) => ?_) (fun (c1 : ¬ x1.toInt < 0) => ?_)
  · refine hA_const (k := 0) (zs_iconst (v := 0) em86_9 (by decide +kernel)) (by decide +kernel) (fun z9 hz9 => ?_)
    refine hA_zreturn ⟨rfl, em86_10⟩ ⟨Nat.le_of_ble_eq_true rfl, Nat.le_of_ble_eq_true rfl⟩ ⟨by omega, by omega⟩ ?_
    first
    | exact ⟨⟨_, (List.mem_cons_of_mem _ List.mem_cons_self), ⟨_, rfl, show (0 : Int) ≤ _ by omega, show _ ≤ (0 : Int) by omega⟩, hCh_nil, (fun id hl hn => rfl), (List.forall_mem_cons.mpr ⟨⟨_, rfl, an_lo _, show _ ≤ ((-1) : Int) by omega⟩, fun _ h => absurd h List.not_mem_nil⟩)⟩, (fun _ => hInv), (fun h => by cases h)⟩
    | exact ⟨⟨_, (List.mem_cons_of_mem _ (List.mem_cons_of_mem _ List.mem_cons_self)), ⟨_, rfl, show (0 : Int) ≤ _ by omega, show _ ≤ (0 : Int) by omega⟩, hCh_nil, (fun id hl hn => rfl), (List.forall_mem_cons.mpr ⟨⟨_, rfl, show (3 : Int) ≤ _ by omega, an_hi _⟩, fun _ h => absurd h List.not_mem_nil⟩)⟩, (fun _ => hInv), (fun h => by cases h)⟩
  · refine hA_iload (zs_iload_n em86_4) rfl ?_
    refine hA_const (k := 3) (zs_iconst (v := 3) em86_5 (by decide +kernel)) (by decide +kernel) (fun z5 hz5 => ?_)
    refine hA_icmp (zs_icmplt em86_6 (t := 11) (by decide)) (fun (c6 : x1.toInt < z5.toInt) => ?_) (fun (c6 : ¬ x1.toInt < z5.toInt) => ?_)
    · refine hA_aload (zs_aload_n em86_11) rfl ?_
      refine hA_getf2 (r := 42) (zs_getf (T := TX11) (M := 16) (ci := 11) (j := 11) em86_12 rfl inX11 (by decide) wd_561 ((congrFun xo_0 53).trans rfl)) ⟨_, rfl, rfl⟩ ?_
      refine hA_iload (zs_iload_n em86_15) rfl ?_
      refine hA_aald (kd := 42) (len := 3) (zs_aald em86_16) ⟨rfl, rfl⟩ (by omega) (by show _ < ((3 : Nat) : Int); omega) (fun hn16 => ?_) (fun r16 hk_r16 hn16 => ?_)
      · replace hn16 := hn16 rfl
        refine hA (zs_ifnonnull em86_17 (t := 33) (by decide)) ?_
        show zAt _ _ _ _ _ _ _ _ _ 20 _ _ _ _
        refine hA_aload (zs_aload_n em86_20) rfl ?_
        refine hA_getf2 (r := 42) (zs_getf (T := TX11) (M := 16) (ci := 11) (j := 11) em86_21 rfl inX11 (by decide) wd_561 ((congrFun xo_0 53).trans rfl)) ⟨_, rfl, rfl⟩ ?_
        refine hA_iload (zs_iload_n em86_24) rfl ?_
        refine hA (zs_newT (show 3 ≤ d by omega) em86_25 em86_28 em86_29 wd_314 (by decide +kernel)) ?_
        refine ⟨Nat.le_of_ble_eq_true rfl, Nat.le_of_ble_eq_true rfl, Nat.le_of_ble_eq_true rfl, fun rn25 hk_rn25 => ?_⟩
        show zAt _ _ _ _ _ _ _ _ _ 32 _ _ _ (6, 386)
        refine hA_aast (kd := 42) (len := 3) (zs_aast zInj0 (ci := 8) em86_32 rfl rfl) ⟨rfl, rfl, rfl⟩ hk_rn25 (by omega) (by show _ < ((3 : Nat) : Int); omega) (fun z32 hz32 => ?_)
        exact h33b _ hz32 (by omega) (by omega)
      · replace hn16 := hn16 rfl
        refine hA (zs_ifnonnull em86_17 (t := 33) (by decide)) ?_
        show zAt _ _ _ _ _ _ _ _ _ 33 _ _ _ _
        exact h33a (by omega) (by omega) (by omega)
    · refine hA_const (k := 0) (zs_iconst (v := 0) em86_9 (by decide +kernel)) (by decide +kernel) (fun z9' hz9' => ?_)
      refine hA_zreturn ⟨rfl, em86_10⟩ ⟨Nat.le_of_ble_eq_true rfl, Nat.le_of_ble_eq_true rfl⟩ ⟨by omega, by omega⟩ ?_
      first
      | exact ⟨⟨_, (List.mem_cons_of_mem _ List.mem_cons_self), ⟨_, rfl, show (0 : Int) ≤ _ by omega, show _ ≤ (0 : Int) by omega⟩, hCh_nil, (fun id hl hn => rfl), (List.forall_mem_cons.mpr ⟨⟨_, rfl, an_lo _, show _ ≤ ((-1) : Int) by omega⟩, fun _ h => absurd h List.not_mem_nil⟩)⟩, (fun _ => hInv), (fun h => by cases h)⟩
      | exact ⟨⟨_, (List.mem_cons_of_mem _ (List.mem_cons_of_mem _ List.mem_cons_self)), ⟨_, rfl, show (0 : Int) ≤ _ by omega, show _ ≤ (0 : Int) by omega⟩, hCh_nil, (fun id hl hn => rfl), (List.forall_mem_cons.mpr ⟨⟨_, rfl, show (3 : Int) ≤ _ by omega, an_hi _⟩, fun _ h => absurd h List.not_mem_nil⟩)⟩, (fun _ => hInv), (fun h => by cases h)⟩
theorem em99_0 : decode prog_1_method_43_code 0 = .ok (.iload_n 1, 1) := by decide +kernel
theorem em99_1 : decode prog_1_method_43_code 1 = .ok (.ifCond .lt 26, 3) := by decide +kernel
theorem em99_4 : decode prog_1_method_43_code 4 = .ok (.iload_n 1, 1) := by decide +kernel
theorem em99_5 : decode prog_1_method_43_code 5 = .ok (.iconst 3, 1) := by decide +kernel
theorem em99_6 : decode prog_1_method_43_code 6 = .ok (.if_icmp .ge 21, 3) := by decide +kernel
theorem em99_9 : decode prog_1_method_43_code 9 = .ok (.aload_n 0, 1) := by decide +kernel
theorem em99_10 : decode prog_1_method_43_code 10 = .ok (.getfield 57, 3) := by decide +kernel
theorem em99_13 : decode prog_1_method_43_code 13 = .ok (.iload_n 1, 1) := by decide +kernel
theorem em99_14 : decode prog_1_method_43_code 14 = .ok (.baload, 1) := by decide +kernel
theorem em99_15 : decode prog_1_method_43_code 15 = .ok (.ifCond .eq 12, 3) := by decide +kernel
theorem em99_18 : decode prog_1_method_43_code 18 = .ok (.aload_n 0, 1) := by decide +kernel
theorem em99_19 : decode prog_1_method_43_code 19 = .ok (.getfield 53, 3) := by decide +kernel
theorem em99_22 : decode prog_1_method_43_code 22 = .ok (.iload_n 1, 1) := by decide +kernel
theorem em99_23 : decode prog_1_method_43_code 23 = .ok (.aaload, 1) := by decide +kernel
theorem em99_24 : decode prog_1_method_43_code 24 = .ok (.ifnonnull 5, 3) := by decide +kernel
theorem em99_27 : decode prog_1_method_43_code 27 = .ok (.iconst 0, 1) := by decide +kernel
theorem em99_28 : decode prog_1_method_43_code 28 = .ok (.ireturn, 1) := by decide +kernel
theorem em99_29 : decode prog_1_method_43_code 29 = .ok (.aload_n 0, 1) := by decide +kernel
theorem em99_30 : decode prog_1_method_43_code 30 = .ok (.getfield 39, 3) := by decide +kernel
theorem em99_33 : decode prog_1_method_43_code 33 = .ok (.aload_n 0, 1) := by decide +kernel
theorem em99_34 : decode prog_1_method_43_code 34 = .ok (.getfield 53, 3) := by decide +kernel
theorem em99_37 : decode prog_1_method_43_code 37 = .ok (.iload_n 1, 1) := by decide +kernel
theorem em99_38 : decode prog_1_method_43_code 38 = .ok (.aaload, 1) := by decide +kernel
theorem em99_39 : decode prog_1_method_43_code 39 = .ok (.invokevirtual 275, 3) := by decide +kernel
theorem em99_42 : decode prog_1_method_43_code 42 = .ok (.aload_n 0, 1) := by decide +kernel
theorem em99_43 : decode prog_1_method_43_code 43 = .ok (.getfield 49, 3) := by decide +kernel
theorem em99_46 : decode prog_1_method_43_code 46 = .ok (.iconst 0, 1) := by decide +kernel
theorem em99_47 : decode prog_1_method_43_code 47 = .ok (.putfield 130, 3) := by decide +kernel
theorem em99_50 : decode prog_1_method_43_code 50 = .ok (.iconst 1, 1) := by decide +kernel
theorem em99_51 : decode prog_1_method_43_code 51 = .ok (.ireturn, 1) := by decide +kernel
set_option maxRecDepth 10000 in
set_option maxHeartbeats 4000000 in
theorem hM_104 : zOKh 104 zc_104 := by
  intro d hc as I q h hq
  obtain ⟨hd, ⟨_, _, rfl, rfl, ⟨_, _, rfl, ⟨x1, rfl, hx1, hx1b⟩, rfl⟩⟩, hF, hI⟩ := h
  have hd : 8 ≤ d + 1 := hd
  have hx1 : ((-2147483648) : Int) ≤ x1.toInt := hx1
  have hx1b : x1.toInt ≤ (2147483647 : Int) := hx1b
  have hf9 : (0 : Int) ≤ zf I 9 ∧ zf I 9 ≤ (30 : Int) := hF _ List.mem_cons_self
  cases (show some _ = some q from hq)
  refine hmet (L := [some (.inr (.inl (some 0))), some (.inl x1)]) (by decide) (Nat.le_of_ble_eq_true rfl) hc rfl ?_
  refine hA_iload (zs_iload_n em99_0) rfl ?_
  refine hA_if (zs_iflt em99_1 (t := 27) (by decide)) (fun (c1 : x1.toInt < 0) => ?_) (fun (c1 : ¬ x1.toInt < 0) => ?_)
  · refine hA_const (k := 0) (zs_iconst (v := 0) em99_27 (by decide +kernel)) (by decide +kernel) (fun z27 hz27 => ?_)
    refine hA_zreturn ⟨rfl, em99_28⟩ ⟨Nat.le_refl _, Nat.le_refl _⟩ ⟨by omega, by omega⟩ ?_
    exact ⟨⟨_, List.mem_cons_self, ⟨_, rfl, show (0 : Int) ≤ _ by omega, show _ ≤ (1 : Int) by omega⟩, (hCh_cons (fun k hk => none_no hk) ⟨by omega, by omega⟩ hCh_nil), (fun id hl hn => rfl), (fun _ h => absurd h List.not_mem_nil)⟩, (fun h => by cases h), (fun _ id hid => rfl)⟩
  · refine hA_iload (zs_iload_n em99_4) rfl ?_
    refine hA_const (k := 3) (zs_iconst (v := 3) em99_5 (by decide +kernel)) (by decide +kernel) (fun z5 hz5 => ?_)
    refine hA_icmp (zs_icmpge em99_6 (t := 27) (by decide)) (fun (c6 : z5.toInt ≤ x1.toInt) => ?_) (fun (c6 : ¬ z5.toInt ≤ x1.toInt) => ?_)
    · refine hA_const (k := 0) (zs_iconst (v := 0) em99_27 (by decide +kernel)) (by decide +kernel) (fun z27' hz27' => ?_)
      refine hA_zreturn ⟨rfl, em99_28⟩ ⟨Nat.le_refl _, Nat.le_refl _⟩ ⟨by omega, by omega⟩ ?_
      exact ⟨⟨_, List.mem_cons_self, ⟨_, rfl, show (0 : Int) ≤ _ by omega, show _ ≤ (1 : Int) by omega⟩, (hCh_cons (fun k hk => none_no hk) ⟨by omega, by omega⟩ hCh_nil), (fun id hl hn => rfl), (fun _ h => absurd h List.not_mem_nil)⟩, (fun h => by cases h), (fun _ id hid => rfl)⟩
    · refine hA_aload (zs_aload_n em99_9) rfl ?_
      refine hA_getf2 (r := 43) (zs_getf (T := TX11) (M := 16) (ci := 11) (j := 12) em99_10 rfl inX11 (by decide) wd_562 ((congrFun xo_0 57).trans rfl)) ⟨_, rfl, rfl⟩ ?_
      refine hA_iload (zs_iload_n em99_13) rfl ?_
      refine hA_baldH (kd := 43) (len := 3) (zs_bald em99_14) ⟨rfl, rfl, rfl, Or.inr rfl⟩ (by omega) (by show _ < ((3 : Nat) : Int); omega) (fun z14 hz14 => ?_)
      have hbz14 : (0 : Int) ≤ z14.toInt ∧ z14.toInt ≤ 1 := eall rfl hz14
      refine hA_if (zs_ifeq em99_15 (t := 27) (by decide)) (fun (c15 : z14.toInt = 0) => ?_) (fun (c15 : ¬ z14.toInt = 0) => ?_)
      · refine hA_const (k := 0) (zs_iconst (v := 0) em99_27 (by decide +kernel)) (by decide +kernel) (fun z27'' hz27'' => ?_)
        refine hA_zreturn ⟨rfl, em99_28⟩ ⟨Nat.le_refl _, Nat.le_refl _⟩ ⟨by omega, by omega⟩ ?_
        exact ⟨⟨_, List.mem_cons_self, ⟨_, rfl, show (0 : Int) ≤ _ by omega, show _ ≤ (1 : Int) by omega⟩, (hCh_cons (fun k hk => none_no hk) ⟨by omega, by omega⟩ hCh_nil), (fun id hl hn => rfl), (fun _ h => absurd h List.not_mem_nil)⟩, (fun h => by cases h), (fun _ id hid => rfl)⟩
      · refine hA_aload (zs_aload_n em99_18) rfl ?_
        refine hA_getf2 (r := 42) (zs_getf (T := TX11) (M := 16) (ci := 11) (j := 11) em99_19 rfl inX11 (by decide) wd_561 ((congrFun xo_0 53).trans rfl)) ⟨_, rfl, rfl⟩ ?_
        refine hA_iload (zs_iload_n em99_22) rfl ?_
        refine hA_aald (kd := 42) (len := 3) (zs_aald em99_23) ⟨rfl, rfl⟩ (by omega) (by show _ < ((3 : Nat) : Int); omega) (fun hn23 => ?_) (fun r23 hk_r23 hn23 => ?_)
        · replace hn23 := hn23 rfl
          refine hA (zs_ifnonnull em99_24 (t := 29) (by decide)) ?_
          show zAt _ _ _ _ _ _ _ _ _ 27 _ _ _ _
          refine hA_const (k := 0) (zs_iconst (v := 0) em99_27 (by decide +kernel)) (by decide +kernel) (fun z27_3 hz27_3 => ?_)
          refine hA_zreturn ⟨rfl, em99_28⟩ ⟨Nat.le_refl _, Nat.le_refl _⟩ ⟨by omega, by omega⟩ ?_
          exact ⟨⟨_, List.mem_cons_self, ⟨_, rfl, show (0 : Int) ≤ _ by omega, show _ ≤ (1 : Int) by omega⟩, (hCh_cons (fun k hk => none_no hk) ⟨by omega, by omega⟩ hCh_nil), (fun id hl hn => rfl), (fun _ h => absurd h List.not_mem_nil)⟩, (fun h => by cases h), (fun _ id hid => rfl)⟩
        · replace hn23 := hn23 rfl
          refine hA (zs_ifnonnull em99_24 (t := 29) (by decide)) ?_
          show zAt _ _ _ _ _ _ _ _ _ 29 _ _ _ _
          refine hA_aload (zs_aload_n em99_29) rfl ?_
          refine hA_getf2 (r := 28) (zs_getf (T := TX11) (M := 16) (ci := 11) (j := 1) em99_30 rfl inX11 (by decide) wd_558 ((congrFun xo_0 39).trans rfl)) ⟨_, rfl, rfl⟩ ?_
          refine hA_aload (zs_aload_n em99_33) rfl ?_
          refine hA_getf2 (r := 42) (zs_getf (T := TX11) (M := 16) (ci := 11) (j := 11) em99_34 rfl inX11 (by decide) wd_561 ((congrFun xo_0 53).trans rfl)) ⟨_, rfl, rfl⟩ ?_
          refine hA_iload (zs_iload_n em99_37) rfl ?_
          refine hA_aald (kd := 42) (len := 3) (zs_aald em99_38) ⟨rfl, rfl⟩ (by omega) (by show _ < ((3 : Nat) : Int); omega) (fun hn38 => ?_) (fun r38 hk_r38 hn38 => ?_)
          · replace hn38 := hn38 rfl
            exfalso
            omega
          · replace hn38 := hn38 rfl
            refine hA_callV (as := [.inr (.inl (some r38))]) (rest := []) (B' := (0, 0)) (zs_invV (T := TX8) em99_39 zl_53 rfl wd_1082 wd_973 wd_974 ((congrFun xo_0 275).trans rfl) xm_49) rfl ⟨_, rfl⟩ (Nat.le_of_ble_eq_true rfl) rfl ⟨Nat.zero_le _, Nat.zero_le _⟩ (zpre_of zh_53 ⟨(by show 1 ≤ d; omega), ⟨_, _, rfl, ⟨_, rfl, rfl⟩, ⟨_, _, rfl, ⟨_, rfl, hk_r38⟩, rfl⟩⟩, hF_nil, fun h => by cases h⟩) (fun r39 I39 hp39 => ?_)
            replace hp39 := zpost_of zh_53 hp39
            obtain ⟨rfl, rfl⟩ := zq_53 hp39
            refine hA_aload (zs_aload_n em99_42) rfl ?_
            refine hA_getf2 (r := 40) (zs_getf (T := TX11) (M := 16) (ci := 11) (j := 8) em99_43 rfl inX11 (by decide) wd_560 ((congrFun xo_0 49).trans rfl)) ⟨_, rfl, rfl⟩ ?_
            refine hA_const (k := 0) (zs_iconst (v := 0) em99_46 (by decide +kernel)) (by decide +kernel) (fun z46 hz46 => ?_)
            refine hA_puti0 (id := 9) (zs_puti zInj0 (T := TX0) (M := 3) (ty := tyX0) (ci := 0) (j := 2) (kd := 0) em99_47 rfl inX0 tyX0_ok nmX0 (by decide) wd_387 (Or.inl ⟨rfl, rfl⟩) rfl ((congrFun xo_0 130).trans rfl)) ⟨_, rfl, rfl⟩ (fun h => by cases h) ?_
            refine hA_const (k := 1) (zs_iconst (v := 1) em99_50 (by decide +kernel)) (by decide +kernel) (fun z50 hz50 => ?_)
            refine hA_zreturn ⟨rfl, em99_51⟩ ⟨Nat.le_refl _, Nat.le_refl _⟩ ⟨by omega, by omega⟩ ?_
            exact ⟨⟨_, List.mem_cons_self, ⟨_, rfl, show (0 : Int) ≤ _ by omega, show _ ≤ (1 : Int) by omega⟩, (hCh_cons (fun k hk => none_no hk) ⟨by rw [zf_same]; omega, by rw [zf_same]; omega⟩ hCh_nil), (fun id hl hn => ((zupd_fr (fun e => by subst e; exact hn _ List.mem_cons_self)).trans (rfl))), (fun _ h => absurd h List.not_mem_nil)⟩, (fun h => by cases h), (fun _ id hid => ((zupd_hi (by decide) hid).trans (rfl)))⟩
