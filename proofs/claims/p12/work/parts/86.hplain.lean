/-- what plain has laid so far -/
def plP (I J : zI) (a k : Int) : Prop := (∀ id, id < 4096 → J id = I id) ∧ (∀ kd i, i < 4096 → kd ≠ 84 → kd ≠ 86 → kd ≠ 94 → kd ≠ 95 → J (zid kd i) = I (zid kd i)) ∧ (∀ i : Nat, i < 4096 → ¬ (i : Int) = a → J (zid 84 i) = I (zid 84 i) ∧ J (zid 86 i) = I (zid 86 i)) ∧ (zv J 84 a = 0 ∧ zv J 86 a = 0) ∧ (∀ i : Nat, i < 4096 → ((i : Int) < 4 * a ∨ 4 * a + 4 ≤ (i : Int)) → J (zid 94 i) = I (zid 94 i) ∧ J (zid 95 i) = I (zid 95 i)) ∧ (∀ m : Nat, (m : Int) < k → zv J 94 (4 * a + (m : Int)) = 0 ∧ zv J 95 (4 * a + (m : Int)) = 0)
theorem plP_0 {I : zI} {a x y : Int32} (h0 : 0 ≤ a.toInt) (h1 : a.toInt ≤ 1) (hx : x.toInt = 0) (hy : y.toInt = 0) : plP I (zupd (zupd I (zid 84 a.toInt.toNat) x) (zid 86 a.toInt.toNat) y) a.toInt 0 := by
  refine ⟨fun id h => ?_, fun kd i hi p q r s => ?_, fun i hi h => ⟨?_, ?_⟩, ⟨?_, ?_⟩, fun i hi h => ⟨?_, ?_⟩, fun m hm => by omega⟩
  · rw [zupd_hi2 h, zupd_hi2 h]
  · rw [zupd_fr (by unfold zid; omega), zupd_fr (by unfold zid; omega)]
  · rw [zupd_fr (by unfold zid; omega), zupd_fr (by unfold zid; omega)]
  · rw [zupd_fr (by unfold zid; omega), zupd_fr (by unfold zid; omega)]
  · rw [zv_nk (by decide) (by omega) (by omega), zv_at]; exact hx
  · rw [zv_at]; exact hy
  · rw [zupd_fr (by unfold zid; omega), zupd_fr (by unfold zid; omega)]
  · rw [zupd_fr (by unfold zid; omega), zupd_fr (by unfold zid; omega)]
theorem plP_s {I J : zI} {a k : Int} {i j x y : Int32} (h : plP I J a k) (h0 : 0 ≤ a) (h1 : a ≤ 1) (hk : 0 ≤ k) (hk4 : k < 4) (hi : i.toInt = 4 * a + k) (hj : j.toInt = 4 * a + k) (hx : x.toInt = 0) (hy : y.toInt = 0) : plP I (zupd (zupd J (zid 94 i.toInt.toNat) x) (zid 95 j.toInt.toNat) y) a (k + 1) := by
  obtain ⟨a1, a2, a3, a4, a5, a6⟩ := h
  refine ⟨fun id h => ?_, fun kd m hm p q r s => ?_, fun m hm h => ⟨?_, ?_⟩, ⟨?_, ?_⟩, fun m hm h => ⟨?_, ?_⟩, fun m hm => ⟨?_, ?_⟩⟩
  · rw [zupd_hi2 h, zupd_hi2 h]; exact a1 id h
  · rw [zupd_fr (by unfold zid; omega), zupd_fr (by unfold zid; omega)]; exact a2 kd m hm p q r s
  · rw [zupd_fr (by unfold zid; omega), zupd_fr (by unfold zid; omega)]; exact (a3 m hm h).1
  · rw [zupd_fr (by unfold zid; omega), zupd_fr (by unfold zid; omega)]; exact (a3 m hm h).2
  · rw [zv_nk (by decide) (by omega) (by omega), zv_nk (by decide) (by omega) (by omega)]; exact a4.1
  · rw [zv_nk (by decide) (by omega) (by omega), zv_nk (by decide) (by omega) (by omega)]; exact a4.2
  · rw [zupd_fr (by unfold zid; omega), zupd_fr (by unfold zid; omega)]; exact (a5 m hm h).1
  · rw [zupd_fr (by unfold zid; omega), zupd_fr (by unfold zid; omega)]; exact (a5 m hm h).2
  · rw [zv_nk (by decide) (by omega) (by omega)]
    by_cases e : (m : Int) = k
    · rw [show 4 * a + (m : Int) = i.toInt by omega, zv_at]; exact hx
    · rw [zv_ne _ _ _ _ _ _ (by omega) (by omega) (Or.inr ⟨by omega, by omega, by omega⟩)]; exact (a6 m (by omega)).1
  · by_cases e : (m : Int) = k
    · rw [show 4 * a + (m : Int) = j.toInt by omega, zv_at]; exact hy
    · rw [zv_ne _ _ _ _ _ _ (by omega) (by omega) (Or.inr ⟨by omega, by omega, by omega⟩), zv_nk (by decide) (by omega) (by omega)]; exact (a6 m (by omega)).2
theorem em218_0 : decode prog_14_method_19_code 0 = .ok (.aload_n 0, 1) := by decide +kernel
theorem em218_1 : decode prog_14_method_19_code 1 = .ok (.getfield 43, 3) := by decide +kernel
theorem em218_4 : decode prog_14_method_19_code 4 = .ok (.iload_n 1, 1) := by decide +kernel
theorem em218_5 : decode prog_14_method_19_code 5 = .ok (.iconst 0, 1) := by decide +kernel
theorem em218_6 : decode prog_14_method_19_code 6 = .ok (.iastore, 1) := by decide +kernel
theorem em218_7 : decode prog_14_method_19_code 7 = .ok (.aload_n 0, 1) := by decide +kernel
theorem em218_8 : decode prog_14_method_19_code 8 = .ok (.getfield 49, 3) := by decide +kernel
theorem em218_11 : decode prog_14_method_19_code 11 = .ok (.iload_n 1, 1) := by decide +kernel
theorem em218_12 : decode prog_14_method_19_code 12 = .ok (.iconst 0, 1) := by decide +kernel
theorem em218_13 : decode prog_14_method_19_code 13 = .ok (.iastore, 1) := by decide +kernel
theorem em218_14 : decode prog_14_method_19_code 14 = .ok (.aload_n 0, 1) := by decide +kernel
theorem em218_15 : decode prog_14_method_19_code 15 = .ok (.getfield 64, 3) := by decide +kernel
theorem em218_18 : decode prog_14_method_19_code 18 = .ok (.iload_n 1, 1) := by decide +kernel
theorem em218_19 : decode prog_14_method_19_code 19 = .ok (.bipush 20, 2) := by decide +kernel
theorem em218_21 : decode prog_14_method_19_code 21 = .ok (.iastore, 1) := by decide +kernel
theorem em218_22 : decode prog_14_method_19_code 22 = .ok (.aload_n 0, 1) := by decide +kernel
theorem em218_23 : decode prog_14_method_19_code 23 = .ok (.getfield 67, 3) := by decide +kernel
theorem em218_26 : decode prog_14_method_19_code 26 = .ok (.iload_n 1, 1) := by decide +kernel
theorem em218_27 : decode prog_14_method_19_code 27 = .ok (.iconst 0, 1) := by decide +kernel
theorem em218_28 : decode prog_14_method_19_code 28 = .ok (.iastore, 1) := by decide +kernel
theorem em218_29 : decode prog_14_method_19_code 29 = .ok (.aload_n 0, 1) := by decide +kernel
theorem em218_30 : decode prog_14_method_19_code 30 = .ok (.getfield 70, 3) := by decide +kernel
theorem em218_33 : decode prog_14_method_19_code 33 = .ok (.iload_n 1, 1) := by decide +kernel
theorem em218_34 : decode prog_14_method_19_code 34 = .ok (.iconst 0, 1) := by decide +kernel
theorem em218_35 : decode prog_14_method_19_code 35 = .ok (.iastore, 1) := by decide +kernel
theorem em218_36 : decode prog_14_method_19_code 36 = .ok (.iconst 0, 1) := by decide +kernel
theorem em218_37 : decode prog_14_method_19_code 37 = .ok (.istore_n 2, 1) := by decide +kernel
theorem em218_38 : decode prog_14_method_19_code 38 = .ok (.iload_n 2, 1) := by decide +kernel
theorem em218_39 : decode prog_14_method_19_code 39 = .ok (.iconst 4, 1) := by decide +kernel
theorem em218_40 : decode prog_14_method_19_code 40 = .ok (.if_icmp .ge 31, 3) := by decide +kernel
theorem em218_43 : decode prog_14_method_19_code 43 = .ok (.aload_n 0, 1) := by decide +kernel
theorem em218_44 : decode prog_14_method_19_code 44 = .ok (.getfield 73, 3) := by decide +kernel
theorem em218_47 : decode prog_14_method_19_code 47 = .ok (.iconst 4, 1) := by decide +kernel
theorem em218_48 : decode prog_14_method_19_code 48 = .ok (.iload_n 1, 1) := by decide +kernel
theorem em218_49 : decode prog_14_method_19_code 49 = .ok (.imul, 1) := by decide +kernel
theorem em218_50 : decode prog_14_method_19_code 50 = .ok (.iload_n 2, 1) := by decide +kernel
theorem em218_51 : decode prog_14_method_19_code 51 = .ok (.iadd, 1) := by decide +kernel
theorem em218_52 : decode prog_14_method_19_code 52 = .ok (.iconst 0, 1) := by decide +kernel
theorem em218_53 : decode prog_14_method_19_code 53 = .ok (.iastore, 1) := by decide +kernel
theorem em218_54 : decode prog_14_method_19_code 54 = .ok (.aload_n 0, 1) := by decide +kernel
theorem em218_55 : decode prog_14_method_19_code 55 = .ok (.getfield 76, 3) := by decide +kernel
theorem em218_58 : decode prog_14_method_19_code 58 = .ok (.iconst 4, 1) := by decide +kernel
theorem em218_59 : decode prog_14_method_19_code 59 = .ok (.iload_n 1, 1) := by decide +kernel
theorem em218_60 : decode prog_14_method_19_code 60 = .ok (.imul, 1) := by decide +kernel
theorem em218_61 : decode prog_14_method_19_code 61 = .ok (.iload_n 2, 1) := by decide +kernel
theorem em218_62 : decode prog_14_method_19_code 62 = .ok (.iadd, 1) := by decide +kernel
theorem em218_63 : decode prog_14_method_19_code 63 = .ok (.iconst 0, 1) := by decide +kernel
theorem em218_64 : decode prog_14_method_19_code 64 = .ok (.iastore, 1) := by decide +kernel
theorem em218_65 : decode prog_14_method_19_code 65 = .ok (.iinc 2 1, 3) := by decide +kernel
theorem em218_68 : decode prog_14_method_19_code 68 = .ok (.goto (-30), 3) := by decide +kernel
theorem em218_71 : decode prog_14_method_19_code 71 = .ok (.return_, 1) := by decide +kernel
set_option maxRecDepth 10000 in
set_option maxHeartbeats 4000000 in
theorem hM_250 : zOKx 250 := by
  intro d hc as I q h hq
  have h : hpr_250 (d + 1) as I := h
  obtain ⟨hd, a, rfl, hpre⟩ := h
  cases (show some _ = some q from hq)
  obtain ⟨hp0, hp1⟩ := hpre
  have loop : ∀ (n : Nat) (IJ : zI) (k : Int32) (hk : 0 ≤ k.toInt) (hk2 : k.toInt ≤ 4) (hP : plP I IJ a.toInt k.toInt), (4 - k.toInt).toNat = n → zAt zG0 PZ zbd zpre zpost (d, (zbd 250).1, (zbd 250).2) prog_14_method_19_code "CapitalCaseModel" (zRet prog_14_method_19_code none (zbd 250) (hpost 250 [.inr (.inl (some 75)), .inl a] I)) 38 [some (.inr (.inl (some 75))), some (.inl a), some (.inl k)] [] IJ (0, 0) := by
    intro n
    induction n using Nat.strongRecOn with
    | ind n ih =>
      intro IJ k hk hk2 hP hn
      refine hA_iload (zs_iload_n em218_38) rfl ?_
      refine hA_const (k := 4) (zs_iconst (v := 4) em218_39 (by decide +kernel)) (by decide +kernel) (fun z39 hz39 => ?_)
      refine hA_icmp (zs_icmpge em218_40 (t := 71) (by decide)) (fun (c40 : z39.toInt ≤ k.toInt) => ?_) (fun (c40 : ¬ z39.toInt ≤ k.toInt) => ?_)
      · refine hA_return ⟨rfl, em218_71⟩ ⟨Nat.le_refl _, Nat.le_refl _⟩ ?_
        intro a' he
        cases he
        obtain ⟨b1, b2, b3, b4, b5, b6⟩ := hP
        exact ⟨rfl, b1, b2, b3, b4, b5, fun m hm => b6 m (by omega)⟩
      · refine hA_aload (zs_aload_n em218_43) rfl ?_
        refine hA_getf2 (r := 94) (zs_getf (T := TX12) (M := 70) (ci := 12) (j := 41) em218_44 rfl inX12 (by decide) wd_1313 ((congrFun xo_12 73).trans rfl)) ⟨_, rfl, rfl⟩ ?_
        refine hA_const (k := 4) (zs_iconst (v := 4) em218_47 (by decide +kernel)) (by decide +kernel) (fun z47 hz47 => ?_)
        refine hA_iload (zs_iload_n em218_48) rfl ?_
        refine hA_mull (c := 4) (zs_imul em218_49) hz47 (by omega) (by omega) (fun z49 hz49 => ?_)
        refine hA_iload (zs_iload_n em218_50) rfl ?_
        refine hA_add (zs_iadd em218_51) (by omega) (by omega) (fun z51 hz51 => ?_)
        refine hA_const (k := 0) (zs_iconst (v := 0) em218_52 (by decide +kernel)) (by decide +kernel) (fun z52 hz52 => ?_)
        refine hA_iast (kd := 94) (len := 8) (zs_iast zInj0 em218_53) ⟨rfl, rfl, rfl⟩ (by omega) (by show _ < ((8 : Nat) : Int); omega) ?_
        refine hA_aload (zs_aload_n em218_54) rfl ?_
        refine hA_getf2 (r := 95) (zs_getf (T := TX12) (M := 70) (ci := 12) (j := 42) em218_55 rfl inX12 (by decide) wd_1314 ((congrFun xo_12 76).trans rfl)) ⟨_, rfl, rfl⟩ ?_
        refine hA_const (k := 4) (zs_iconst (v := 4) em218_58 (by decide +kernel)) (by decide +kernel) (fun z58 hz58 => ?_)
        refine hA_iload (zs_iload_n em218_59) rfl ?_
        refine hA_mull (c := 4) (zs_imul em218_60) hz58 (by omega) (by omega) (fun z60 hz60 => ?_)
        refine hA_iload (zs_iload_n em218_61) rfl ?_
        refine hA_add (zs_iadd em218_62) (by omega) (by omega) (fun z62 hz62 => ?_)
        refine hA_const (k := 0) (zs_iconst (v := 0) em218_63 (by decide +kernel)) (by decide +kernel) (fun z63 hz63 => ?_)
        refine hA_iast (kd := 95) (len := 8) (zs_iast zInj0 em218_64) ⟨rfl, rfl, rfl⟩ (by omega) (by show _ < ((8 : Nat) : Int); omega) ?_
        refine hA_iinc (c := 1) (zs_iinc (k := 1) em218_65 (by decide +kernel)) (by decide +kernel) rfl ⟨Nat.le_of_ble_eq_true rfl, rfl⟩ (by omega) (by omega) (fun z65 hz65 => ?_)
        show zAt _ _ _ _ _ _ _ _ _ _ [some (.inr (.inl (some 75))), some (.inl a), some (.inl z65)] _ _ _
        refine hA_goto (zs_goto em218_68 (t := 38) (by decide)) ?_
        exact ih _ (by omega) _ z65 (by omega) (by omega) (by rw [show z65.toInt = k.toInt + 1 by omega]; exact plP_s hP hp0 hp1 hk (by omega) (by omega) (by omega) (by omega) (by omega)) rfl
  refine hmet (L := [some (.inr (.inl (some 75))), some (.inl a), none]) (by decide) (Nat.le_of_ble_eq_true rfl) hc rfl ?_
  refine hA_aload (zs_aload_n em218_0) rfl ?_
  refine hA_getf2 (r := 84) (zs_getf (T := TX12) (M := 70) (ci := 12) (j := 3) em218_1 rfl inX12 (by decide) wd_1303 ((congrFun xo_12 43).trans rfl)) ⟨_, rfl, rfl⟩ ?_
  refine hA_iload (zs_iload_n em218_4) rfl ?_
  refine hA_const (k := 0) (zs_iconst (v := 0) em218_5 (by decide +kernel)) (by decide +kernel) (fun z5 hz5 => ?_)
  refine hA_iast (kd := 84) (len := 2) (zs_iast zInj0 em218_6) ⟨rfl, rfl, rfl⟩ (by omega) (by show _ < ((2 : Nat) : Int); omega) ?_
  refine hA_aload (zs_aload_n em218_7) rfl ?_
  refine hA_getf2 (r := 86) (zs_getf (T := TX12) (M := 70) (ci := 12) (j := 4) em218_8 rfl inX12 (by decide) wd_1305 ((congrFun xo_12 49).trans rfl)) ⟨_, rfl, rfl⟩ ?_
  refine hA_iload (zs_iload_n em218_11) rfl ?_
  refine hA_const (k := 0) (zs_iconst (v := 0) em218_12 (by decide +kernel)) (by decide +kernel) (fun z12 hz12 => ?_)
  refine hA_iast (kd := 86) (len := 2) (zs_iast zInj0 em218_13) ⟨rfl, rfl, rfl⟩ (by omega) (by show _ < ((2 : Nat) : Int); omega) ?_
  refine hA_aload (zs_aload_n em218_14) rfl ?_
  refine hA_getf2 (r := 91) (zs_getf (T := TX12) (M := 70) (ci := 12) (j := 40) em218_15 rfl inX12 (by decide) wd_1310 ((congrFun xo_12 64).trans rfl)) ⟨_, rfl, rfl⟩ ?_
  refine hA_iload (zs_iload_n em218_18) rfl ?_
  refine hA_const (k := 20) (zs_bipush (v := 20) em218_19 (by decide +kernel)) (by decide +kernel) (fun z19 hz19 => ?_)
  refine hA_iastH (kd := 91) (len := 2) (zs_iast zInj0 em218_21) ⟨rfl, rfl, rfl⟩ (by omega) (by show _ < ((2 : Nat) : Int); omega) (eno rfl) ?_
  refine hA_aload (zs_aload_n em218_22) rfl ?_
  refine hA_getf2 (r := 92) (zs_getf (T := TX12) (M := 70) (ci := 12) (j := 9) em218_23 rfl inX12 (by decide) wd_1311 ((congrFun xo_12 67).trans rfl)) ⟨_, rfl, rfl⟩ ?_
  refine hA_iload (zs_iload_n em218_26) rfl ?_
  refine hA_const (k := 0) (zs_iconst (v := 0) em218_27 (by decide +kernel)) (by decide +kernel) (fun z27 hz27 => ?_)
  refine hA_iastH (kd := 92) (len := 2) (zs_iast zInj0 em218_28) ⟨rfl, rfl, rfl⟩ (by omega) (by show _ < ((2 : Nat) : Int); omega) (eno rfl) ?_
  refine hA_aload (zs_aload_n em218_29) rfl ?_
  refine hA_getf2 (r := 93) (zs_getf (T := TX12) (M := 70) (ci := 12) (j := 5) em218_30 rfl inX12 (by decide) wd_1312 ((congrFun xo_12 70).trans rfl)) ⟨_, rfl, rfl⟩ ?_
  refine hA_iload (zs_iload_n em218_33) rfl ?_
  refine hA_const (k := 0) (zs_iconst (v := 0) em218_34 (by decide +kernel)) (by decide +kernel) (fun z34 hz34 => ?_)
  refine hA_iastH (kd := 93) (len := 2) (zs_iast zInj0 em218_35) ⟨rfl, rfl, rfl⟩ (by omega) (by show _ < ((2 : Nat) : Int); omega) (eno rfl) ?_
  refine hA_const (k := 0) (zs_iconst (v := 0) em218_36 (by decide +kernel)) (by decide +kernel) (fun z36 hz36 => ?_)
  refine hA_istore (L' := [some (.inr (.inl (some 75))), some (.inl a), some (.inl z36)]) (zs_istore_n em218_37) ⟨Nat.le_of_ble_eq_true rfl, rfl⟩ rfl ?_
  exact loop _ _ z36 (by omega) (by omega) (by rw [show z36.toInt = 0 by omega]; exact plP_0 hp0 hp1 (by omega) (by omega)) rfl
