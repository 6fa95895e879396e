theorem em221_0 : decode prog_14_method_30_code 0 = .ok (.aload_n 0, 1) := by decide +kernel
theorem em221_1 : decode prog_14_method_30_code 1 = .ok (.getfield 203, 3) := by decide +kernel
theorem em221_4 : decode prog_14_method_30_code 4 = .ok (.istore_n 1, 1) := by decide +kernel
theorem em221_5 : decode prog_14_method_30_code 5 = .ok (.aload_n 0, 1) := by decide +kernel
theorem em221_6 : decode prog_14_method_30_code 6 = .ok (.iconst 1, 1) := by decide +kernel
theorem em221_7 : decode prog_14_method_30_code 7 = .ok (.invokevirtual 258, 3) := by decide +kernel
theorem em221_10 : decode prog_14_method_30_code 10 = .ok (.aload_n 0, 1) := by decide +kernel
theorem em221_11 : decode prog_14_method_30_code 11 = .ok (.iconst 0, 1) := by decide +kernel
theorem em221_12 : decode prog_14_method_30_code 12 = .ok (.putfield 284, 3) := by decide +kernel
theorem em221_15 : decode prog_14_method_30_code 15 = .ok (.aload_n 0, 1) := by decide +kernel
theorem em221_16 : decode prog_14_method_30_code 16 = .ok (.getfield 200, 3) := by decide +kernel
theorem em221_19 : decode prog_14_method_30_code 19 = .ok (.ifCond .le 4, 3) := by decide +kernel
theorem em221_22 : decode prog_14_method_30_code 22 = .ok (.return_, 1) := by decide +kernel
theorem em221_23 : decode prog_14_method_30_code 23 = .ok (.aload_n 0, 1) := by decide +kernel
theorem em221_24 : decode prog_14_method_30_code 24 = .ok (.aload_n 0, 1) := by decide +kernel
theorem em221_25 : decode prog_14_method_30_code 25 = .ok (.getfield 30, 3) := by decide +kernel
theorem em221_28 : decode prog_14_method_30_code 28 = .ok (.iload_n 1, 1) := by decide +kernel
theorem em221_29 : decode prog_14_method_30_code 29 = .ok (.laload, 1) := by decide +kernel
theorem em221_30 : decode prog_14_method_30_code 30 = .ok (.invokestatic 280, 3) := by decide +kernel
theorem em221_33 : decode prog_14_method_30_code 33 = .ok (.putfield 284, 3) := by decide +kernel
theorem em221_36 : decode prog_14_method_30_code 36 = .ok (.iconst 1, 1) := by decide +kernel
theorem em221_37 : decode prog_14_method_30_code 37 = .ok (.istore_n 2, 1) := by decide +kernel
theorem em221_38 : decode prog_14_method_30_code 38 = .ok (.iconst 0, 1) := by decide +kernel
theorem em221_39 : decode prog_14_method_30_code 39 = .ok (.istore_n 3, 1) := by decide +kernel
theorem em221_40 : decode prog_14_method_30_code 40 = .ok (.iload_n 3, 1) := by decide +kernel
theorem em221_41 : decode prog_14_method_30_code 41 = .ok (.aload_n 0, 1) := by decide +kernel
theorem em221_42 : decode prog_14_method_30_code 42 = .ok (.getfield 284, 3) := by decide +kernel
theorem em221_45 : decode prog_14_method_30_code 45 = .ok (.if_icmp .ge 38, 3) := by decide +kernel
theorem em221_48 : decode prog_14_method_30_code 48 = .ok (.aload_n 0, 1) := by decide +kernel
theorem em221_49 : decode prog_14_method_30_code 49 = .ok (.getfield 101, 3) := by decide +kernel
theorem em221_52 : decode prog_14_method_30_code 52 = .ok (.iload_n 3, 1) := by decide +kernel
theorem em221_53 : decode prog_14_method_30_code 53 = .ok (.aload_n 0, 1) := by decide +kernel
theorem em221_54 : decode prog_14_method_30_code 54 = .ok (.getfield 30, 3) := by decide +kernel
theorem em221_57 : decode prog_14_method_30_code 57 = .ok (.iload_n 1, 1) := by decide +kernel
theorem em221_58 : decode prog_14_method_30_code 58 = .ok (.laload, 1) := by decide +kernel
theorem em221_59 : decode prog_14_method_30_code 59 = .ok (.iload_n 3, 1) := by decide +kernel
theorem em221_60 : decode prog_14_method_30_code 60 = .ok (.invokestatic 287, 3) := by decide +kernel
theorem em221_63 : decode prog_14_method_30_code 63 = .ok (.iastore, 1) := by decide +kernel
theorem em221_64 : decode prog_14_method_30_code 64 = .ok (.aload_n 0, 1) := by decide +kernel
theorem em221_65 : decode prog_14_method_30_code 65 = .ok (.getfield 101, 3) := by decide +kernel
theorem em221_68 : decode prog_14_method_30_code 68 = .ok (.iload_n 3, 1) := by decide +kernel
theorem em221_69 : decode prog_14_method_30_code 69 = .ok (.iaload, 1) := by decide +kernel
theorem em221_70 : decode prog_14_method_30_code 70 = .ok (.bipush 7, 2) := by decide +kernel
theorem em221_72 : decode prog_14_method_30_code 72 = .ok (.if_icmp .le 5, 3) := by decide +kernel
theorem em221_75 : decode prog_14_method_30_code 75 = .ok (.iconst 0, 1) := by decide +kernel
theorem em221_76 : decode prog_14_method_30_code 76 = .ok (.istore_n 2, 1) := by decide +kernel
theorem em221_77 : decode prog_14_method_30_code 77 = .ok (.iinc 3 1, 3) := by decide +kernel
theorem em221_80 : decode prog_14_method_30_code 80 = .ok (.goto (-40), 3) := by decide +kernel
theorem em221_83 : decode prog_14_method_30_code 83 = .ok (.iload_n 2, 1) := by decide +kernel
theorem em221_84 : decode prog_14_method_30_code 84 = .ok (.ifCond .eq 4, 3) := by decide +kernel
theorem em221_87 : decode prog_14_method_30_code 87 = .ok (.return_, 1) := by decide +kernel
theorem em221_88 : decode prog_14_method_30_code 88 = .ok (.aload_n 0, 1) := by decide +kernel
theorem em221_89 : decode prog_14_method_30_code 89 = .ok (.bipush 6, 2) := by decide +kernel
theorem em221_91 : decode prog_14_method_30_code 91 = .ok (.iload_n 1, 1) := by decide +kernel
theorem em221_92 : decode prog_14_method_30_code 92 = .ok (.invokevirtual 277, 3) := by decide +kernel
theorem em221_95 : decode prog_14_method_30_code 95 = .ok (.aload_n 0, 1) := by decide +kernel
theorem em221_96 : decode prog_14_method_30_code 96 = .ok (.iconst 0, 1) := by decide +kernel
theorem em221_97 : decode prog_14_method_30_code 97 = .ok (.putfield 284, 3) := by decide +kernel
theorem em221_100 : decode prog_14_method_30_code 100 = .ok (.return_, 1) := by decide +kernel
def tkA (I IJ : zI) : Prop := ((∀ id, id < 4096 → id ≠ 12 → id ≠ 13 → id ≠ 19 → IJ id = I id) ∧ (∀ kd i, i < 4096 → kd ≠ 103 → IJ (zid kd i) = I (zid kd i))) ∧ zf I 13 = 0 ∧ zf IJ 13 = 0 ∧ (zf IJ 12 = zf I 12 + 1 ∧ zf IJ 12 ≤ 400)
def tkP (I IJ : zI) (n : Nat) (k sv : Int) : Prop := tkA I IJ ∧ n ≤ 8 ∧ zf IJ 19 = (n : Int) ∧ (0 ≤ k ∧ k ≤ (n : Int)) ∧ (0 ≤ sv ∧ sv ≤ 1) ∧ ∀ i : Nat, (i : Int) < k → 0 ≤ zv IJ 103 (i : Int) ∧ zv IJ 103 (i : Int) ≤ 25 ∧ (sv = 1 → zv IJ 103 (i : Int) ≤ 7)
theorem tkA_fld {I IJ : zI} {v : Int32} (h : tkA I IJ) : tkA I (zupd IJ 19 v) := by
  obtain ⟨⟨a1, a2⟩, a3, a4, a5⟩ := h
  refine ⟨⟨fun id h p q r => (zupd_fr r).trans (a1 id h p q r), fun kd i hi hk => (zupd_fr (by unfold zid; omega)).trans (a2 kd i hi hk)⟩, a3, ?_, ?_⟩
  · rw [zf_ne (by decide)]; exact a4
  · rw [zf_ne (by decide)]; exact a5
theorem tkP_s {I IJ : zI} {n : Nat} {k sv sv' : Int} {i x : Int32} (h : tkP I IJ n k sv) (hi : i.toInt = k) (hk : k < (n : Int)) (hx : 0 ≤ x.toInt ∧ x.toInt ≤ 25) (hs : (0 ≤ sv' ∧ sv' ≤ 1) ∧ (sv' = 1 → sv = 1 ∧ x.toInt ≤ 7)) : tkP I (zupd IJ (zid 103 i.toInt.toNat) x) n (k + 1) sv' := by
  obtain ⟨⟨⟨a1, a2⟩, a3, a4, a5⟩, b1, b2, b3, b4, b5⟩ := h
  refine ⟨⟨⟨fun id h p q r => (zupd_hi2 h).trans (a1 id h p q r), fun kd j hj hk' => (zupd_fr (by unfold zid; omega)).trans (a2 kd j hj hk')⟩, a3, ?_, ?_⟩, b1, ?_, by omega, hs.1, fun j hj => ?_⟩
  · rw [zf_arr _ _ _ _ _ (by decide)]; exact a4
  · rw [zf_arr _ _ _ _ _ (by decide)]; exact a5
  · rw [zf_arr _ _ _ _ _ (by decide)]; exact b2
  · by_cases e : (j : Int) = k
    · rw [show (j : Int) = i.toInt by omega, zv_at]
      exact ⟨hx.1, hx.2, fun q => (hs.2 q).2⟩
    · rw [zv_ne _ _ _ _ _ _ (by omega) (by omega) (Or.inr ⟨by omega, by omega, by omega⟩)]
      have := b5 j (by omega)
      exact ⟨this.1, this.2.1, fun q => this.2.2 (hs.2 q).1⟩
theorem T_zwx {v : Int64} {T : Nat → Int64} {j : Nat} {k : Nat} (hk : k = 81) (h : k = 81 → v = T j ∧ zword 8 v.toInt) : v = T j ∧ zword 8 v.toInt := h hk
def tkK (I : zI) (tk : Int32) : zK := fun pc L S IJ B => pc = 83 ∧ S = [] ∧ B = (0, 0) ∧ ∃ (n : Nat) (sv kv : Int32), L = [some (.inr (.inl (some 75))), some (.inl tk), some (.inl sv), some (.inl kv)] ∧ tkP I IJ n (n : Int) sv.toInt
set_option maxRecDepth 10000 in
set_option maxHeartbeats 4000000 in
theorem tk_23 {d : Nat} {I IJ0 : zI} {tk : Int32} {T : Nat → Int64} (hd : 4 ≤ d) (h0 : 0 ≤ tk.toInt) (h1 : tk.toInt ≤ 400) (hA : tkA I IJ0) : zAt (gT T) PZ zbd preT zpost (d, (zbd 253).1, (zbd 253).2) prog_14_method_30_code "CapitalCaseModel" (tkK I tk) 23 [some (.inr (.inl (some 75))), some (.inl tk), none, none] [] IJ0 (0, 0) := by
  refine gA_aload (zs_aload_n em221_23) rfl ?_
  refine gA_aload (zs_aload_n em221_24) rfl ?_
  refine gA_getf2 (r := 81) (zs_getf (T := TX12) (M := 70) (ci := 12) (j := 22) em221_25 rfl inX12 (by decide) wd_1289 ((congrFun xo_12 30).trans rfl)) ⟨_, rfl, rfl⟩ ?_
  refine gA_iload (zs_iload_n em221_28) rfl ?_
  refine gA_lald (kd := 81) (len := 403) (zs_lald em221_29) ⟨rfl, rfl⟩ (by omega) (by show _ < ((403 : Nat) : Int); omega) (fun z29 hz29 => ?_)
  obtain ⟨eT29, wT29⟩ := T_zwx rfl hz29
  refine gA_call (as := [.inr (.inr z29)]) (rest := [.inr (.inl (some 75))]) (B' := (0, 0)) (zs_invS em221_30 zl_254 wd_1571 wd_1572 ((congrFun xo_12 280).trans rfl) xm_222) rfl (Nat.le_of_ble_eq_true rfl) rfl ⟨Nat.zero_le _, Nat.zero_le _⟩ (preT_of (by decide) rfl (show hpr_254 d [.inr (.inr z29)] IJ0 from ⟨by show 1 ≤ d; omega, z29, rfl, zwx_of wT29⟩)) (fun r30 I30 hp30 => ?_)
  replace hp30 : hpo_254 _ _ _ _ := hpost_of rfl hp30
  replace hp30 := hp30 z29 rfl
  obtain ⟨y30, rfl, rfl, c0, hc0, hw0, hy30⟩ := hp30
  rw [eT29] at hw0
  refine gA_puti0 (id := 19) (zs_puti zInjT (T := TX12) (M := 70) (ty := tyX12) (ci := 12) (j := 53) (kd := 0) em221_33 rfl inX12 tyX12_ok nmX12 (by decide) wd_1325 (Or.inl ⟨rfl, rfl⟩) rfl ((congrFun xo_12 284).trans rfl)) ⟨_, rfl, rfl⟩ (fun h => by cases h) ?_
  refine gA_const (k := 1) (zs_iconst (v := 1) em221_36 (by decide +kernel)) (by decide +kernel) (fun z36 hz36 => ?_)
  refine gA_istore (L' := [some (.inr (.inl (some 75))), some (.inl tk), some (.inl z36), none]) (zs_istore_n em221_37) ⟨Nat.le_of_ble_eq_true rfl, rfl⟩ rfl ?_
  refine gA_const (k := 0) (zs_iconst (v := 0) em221_38 (by decide +kernel)) (by decide +kernel) (fun z38 hz38 => ?_)
  refine gA_istore (L' := [some (.inr (.inl (some 75))), some (.inl tk), some (.inl z36), some (.inl z38)]) (zs_istore_n em221_39) ⟨Nat.le_of_ble_eq_true rfl, rfl⟩ rfl ?_
  have loop : ∀ (n : Nat) (IJ : zI) (sv k : Int32) (hP : tkP I IJ c0 k.toInt sv.toInt), ((c0 : Int) - k.toInt).toNat = n → zAt (gT T) PZ zbd preT zpost (d, (zbd 253).1, (zbd 253).2) prog_14_method_30_code "CapitalCaseModel" (tkK I tk) 40 [some (.inr (.inl (some 75))), some (.inl tk), some (.inl sv), some (.inl k)] [] IJ (0, 0) := by
    intro n
    induction n using Nat.strongRecOn with
    | ind n ih =>
      intro IJ sv k hP hn
      obtain ⟨hp1, hp2⟩ := hP.2.2.2.1
      have hp3 := hP.2.2.1
      have hp4 := hP.2.2.2.2.1
      have hp5 := hP.2.1
      refine gA_iload (zs_iload_n em221_40) rfl ?_
      refine gA_aload (zs_aload_n em221_41) rfl ?_
      refine gA_getf0 (id := 19) (zs_getf (T := TX12) (M := 70) (ci := 12) (j := 53) em221_42 rfl inX12 (by decide) wd_1325 ((congrFun xo_12 284).trans rfl)) ⟨_, rfl, rfl⟩ (fun z42 hz42 => ?_)
      refine gA_icmp (zs_icmpge em221_45 (t := 83) (by decide)) (fun (c45 : z42.toInt ≤ k.toInt) => ?_) (fun (c45 : ¬ z42.toInt ≤ k.toInt) => ?_)
      · exact zAt_in ⟨rfl, rfl, rfl, c0, sv, k, rfl, by rw [show (c0 : Int) = k.toInt by omega]; exact hP⟩
      · refine gA_aload (zs_aload_n em221_48) rfl ?_
        refine gA_getf2 (r := 103) (zs_getf (T := TX12) (M := 70) (ci := 12) (j := 52) em221_49 rfl inX12 (by decide) wd_1324 ((congrFun xo_12 101).trans rfl)) ⟨_, rfl, rfl⟩ ?_
        refine gA_iload (zs_iload_n em221_52) rfl ?_
        refine gA_aload (zs_aload_n em221_53) rfl ?_
        refine gA_getf2 (r := 81) (zs_getf (T := TX12) (M := 70) (ci := 12) (j := 22) em221_54 rfl inX12 (by decide) wd_1289 ((congrFun xo_12 30).trans rfl)) ⟨_, rfl, rfl⟩ ?_
        refine gA_iload (zs_iload_n em221_57) rfl ?_
        refine gA_lald (kd := 81) (len := 403) (zs_lald em221_58) ⟨rfl, rfl⟩ (by omega) (by show _ < ((403 : Nat) : Int); omega) (fun z58 hz58 => ?_)
        obtain ⟨eT58, wT58⟩ := T_zwx rfl hz58
        refine gA_iload (zs_iload_n em221_59) rfl ?_
        refine gA_call (as := [.inr (.inr z58), .inl k]) (rest := [.inl k, .inr (.inl (some 103))]) (B' := (0, 0)) (zs_invS em221_60 zl_255 wd_1574 wd_1575 ((congrFun xo_12 287).trans rfl) xm_223) rfl (Nat.le_of_ble_eq_true rfl) rfl ⟨Nat.zero_le _, Nat.zero_le _⟩ (preT_of (by decide) rfl (show hpr_255 d [.inr (.inr z58), .inl k] IJ from ⟨by show 2 ≤ d; omega, z58, k, rfl, ⟨c0, hP.2.1, by rw [eT58]; exact hw0, by omega, by omega⟩⟩)) (fun r60 I60 hp60 => ?_)
        replace hp60 : hpo_255 _ _ _ _ := hpost_of rfl hp60
        replace hp60 := hp60 z58 k rfl
        obtain ⟨y60, rfl, rfl, hy60a, hy60b⟩ := hp60
        refine gA_iast (kd := 103) (len := 8) (zs_iast zInjT em221_63) ⟨rfl, rfl, rfl⟩ (by omega) (by show _ < ((8 : Nat) : Int); omega) ?_
        
        refine gA_aload (zs_aload_n em221_64) rfl ?_
        refine gA_getf2 (r := 103) (zs_getf (T := TX12) (M := 70) (ci := 12) (j := 52) em221_65 rfl inX12 (by decide) wd_1324 ((congrFun xo_12 101).trans rfl)) ⟨_, rfl, rfl⟩ ?_
        refine gA_iload (zs_iload_n em221_68) rfl ?_
        refine gA_iald (kd := 103) (len := 8) (zs_iald em221_69) ⟨rfl, rfl, rfl⟩ (by omega) (by show _ < ((8 : Nat) : Int); omega) (fun z69 hz69 => ?_)
        rw [zv_at] at hz69
        refine gA_const (k := 7) (zs_bipush (v := 7) em221_70 (by decide +kernel)) (by decide +kernel) (fun z70 hz70 => ?_)
        refine gA_icmp (zs_icmple em221_72 (t := 77) (by decide)) (fun (c72 : z69.toInt ≤ z70.toInt) => ?_) (fun (c72 : ¬ z69.toInt ≤ z70.toInt) => ?_)
        · refine gA_iinc (c := 1) (zs_iinc (k := 1) em221_77 (by decide +kernel)) (by decide +kernel) rfl ⟨Nat.le_of_ble_eq_true rfl, rfl⟩ (by omega) (by omega) (fun z77 hz77 => ?_)
          show zAt _ _ _ _ _ _ _ _ _ _ [some (.inr (.inl (some 75))), some (.inl tk), some (.inl sv), some (.inl z77)] _ _ _
          refine gA_goto (zs_goto em221_80 (t := 40) (by decide)) ?_
          exact ih _ (by omega) _ sv z77 (by rw [show z77.toInt = k.toInt + 1 by omega]; exact tkP_s hP rfl (by omega) ⟨hy60a, hy60b⟩ ⟨⟨by omega, by omega⟩, fun q => ⟨by omega, by omega⟩⟩) rfl
        · refine gA_const (k := 0) (zs_iconst (v := 0) em221_75 (by decide +kernel)) (by decide +kernel) (fun z75 hz75 => ?_)
          refine gA_istore (L' := [some (.inr (.inl (some 75))), some (.inl tk), some (.inl z75), some (.inl k)]) (zs_istore_n em221_76) ⟨Nat.le_of_ble_eq_true rfl, rfl⟩ rfl ?_
          refine gA_iinc (c := 1) (zs_iinc (k := 1) em221_77 (by decide +kernel)) (by decide +kernel) rfl ⟨Nat.le_of_ble_eq_true rfl, rfl⟩ (by omega) (by omega) (fun z77' hz77' => ?_)
          show zAt _ _ _ _ _ _ _ _ _ _ [some (.inr (.inl (some 75))), some (.inl tk), some (.inl z75), some (.inl z77')] _ _ _
          refine gA_goto (zs_goto em221_80 (t := 40) (by decide)) ?_
          exact ih _ (by omega) _ z75 z77' (by rw [show z77'.toInt = k.toInt + 1 by omega]; exact tkP_s hP rfl (by omega) ⟨hy60a, hy60b⟩ ⟨⟨by omega, by omega⟩, fun q => ⟨by omega, by omega⟩⟩) rfl
  exact loop _ _ z36 z38 ⟨tkA_fld hA, hc0, by rw [zf_same]; omega, by omega, by omega, fun i hi => by omega⟩ rfl
set_option maxRecDepth 10000 in
set_option maxHeartbeats 4000000 in
theorem tk_83 {d : Nat} {I IJ : zI} {n : Nat} {tk sv kv : Int32} (hd : 5 ≤ d + 1) (h0 : 0 ≤ tk.toInt) (h1 : tk.toInt ≤ 400) (h12 : 0 ≤ zf I 12) (hP : tkP I IJ n (n : Int) sv.toInt) : zAt zG0 PZ zbd zpre zpost (d, (zbd 253).1, (zbd 253).2) prog_14_method_30_code "CapitalCaseModel" (zRet prog_14_method_30_code none (zbd 253) (hpost 253 [.inr (.inl (some 75))] I)) 83 [some (.inr (.inl (some 75))), some (.inl tk), some (.inl sv), some (.inl kv)] [] IJ (0, 0) := by
  have hq1 := hP.1.2.2.1
  have hq2 := hP.2.2.2.2.1
  refine hA_iload (zs_iload_n em221_83) rfl ?_
  refine hA_if (zs_ifeq em221_84 (t := 88) (by decide)) (fun (c84 : sv.toInt = 0) => ?_) (fun (c84 : ¬ sv.toInt = 0) => ?_)
  · refine hA_aload (zs_aload_n em221_88) rfl ?_
    refine hA_const (k := 6) (zs_bipush (v := 6) em221_89 (by decide +kernel)) (by decide +kernel) (fun z89 hz89 => ?_)
    refine hA_iload (zs_iload_n em221_91) rfl ?_
    refine hA_callV (as := [.inl z89, .inl tk]) (rest := []) (B' := (0, 0)) (zs_invV (T := TX12) em221_92 zl_231 rfl wd_1563 wd_1565 wd_60 ((congrFun xo_12 277).trans rfl) xm_204) rfl ⟨_, rfl⟩ (Nat.le_of_ble_eq_true rfl) rfl ⟨Nat.zero_le _, Nat.zero_le _⟩ (zpre_of zh_231 ⟨(by show 1 ≤ d; omega), ⟨_, _, rfl, rfl, ⟨_, _, rfl, ⟨_, rfl, show (1 : Int) ≤ z89.toInt by omega, show z89.toInt ≤ (6 : Int) by omega⟩, ⟨_, _, rfl, ⟨_, rfl, show (0 : Int) ≤ tk.toInt by omega, show tk.toInt ≤ (400 : Int) by omega⟩, rfl⟩⟩⟩, (hF_cons (lo := 0) (hi := 2147483647) ⟨by omega, by exact an_hi _⟩ hF_nil), fun h => by cases h⟩) (fun r92 I92 hp92 => ?_)
    replace hp92 := zpost_of zh_231 hp92
    obtain ⟨rfl, rfl⟩ := zq_231 hp92
    refine hA_aload (zs_aload_n em221_95) rfl ?_
    refine hA_const (k := 0) (zs_iconst (v := 0) em221_96 (by decide +kernel)) (by decide +kernel) (fun z96 hz96 => ?_)
    refine hA_puti0 (id := 19) (zs_puti zInj0 (T := TX12) (M := 70) (ty := tyX12) (ci := 12) (j := 53) (kd := 0) em221_97 rfl inX12 tyX12_ok nmX12 (by decide) wd_1325 (Or.inl ⟨rfl, rfl⟩) rfl ((congrFun xo_12 284).trans rfl)) ⟨_, rfl, rfl⟩ (fun h => by cases h) ?_
    refine hA_return ⟨rfl, em221_100⟩ ⟨Nat.le_refl _, Nat.le_refl _⟩ ?_
    intro he
    cases he
    obtain ⟨⟨a1, a2⟩, a3, a4, a5⟩ := tkA_fld (v := z96) hP.1
    exact ⟨rfl, a1, a2, by omega, by omega, by omega, by omega, by rw [zf_same]; omega, fun i hi => by rw [zf_same] at hi; omega⟩
  · refine hA_return ⟨rfl, em221_87⟩ ⟨Nat.le_refl _, Nat.le_refl _⟩ ?_
    intro he
    cases he
    obtain ⟨⟨⟨a1, a2⟩, a3, a4, a5⟩, b1, b2, b3, b4, b5⟩ := hP
    exact ⟨rfl, a1, a2, by omega, by omega, by omega, by omega, by omega, fun i hi => ⟨(b5 i (by omega)).1, (b5 i (by omega)).2.2 (by omega)⟩⟩
set_option maxRecDepth 10000 in
set_option maxHeartbeats 4000000 in
theorem hM_253 : zOKx 253 := by
  intro d hc as I q h hq
  have h : hpr_253 (d + 1) as I := h
  obtain ⟨hd, rfl, hpre⟩ := h
  cases (show some _ = some q from hq)
  obtain ⟨⟨h12a, h12b⟩, h13a, hInv⟩ := hpre
  refine hmet (L := [some (.inr (.inl (some 75))), none, none, none]) (by decide) (Nat.le_of_ble_eq_true rfl) hc rfl ?_
  refine hA_aload (zs_aload_n em221_0) rfl ?_
  refine hA_getf0 (id := 12) (zs_getf (T := TX12) (M := 70) (ci := 12) (j := 25) em221_1 rfl inX12 (by decide) wd_1292 ((congrFun xo_12 203).trans rfl)) ⟨_, rfl, rfl⟩ (fun z1 hz1 => ?_)
  refine hA_istore (L' := [some (.inr (.inl (some 75))), some (.inl z1), none, none]) (zs_istore_n em221_4) ⟨Nat.le_of_ble_eq_true rfl, rfl⟩ rfl ?_
  refine hA_aload (zs_aload_n em221_5) rfl ?_
  refine hA_const (k := 1) (zs_iconst (v := 1) em221_6 (by decide +kernel)) (by decide +kernel) (fun z6 hz6 => ?_)
  refine hA_callV (as := [.inl z6]) (rest := []) (B' := (0, 0)) (zs_invV (T := TX12) em221_7 zl_196 rfl wd_1559 wd_1561 wd_59 ((congrFun xo_12 258).trans rfl) xm_169) rfl ⟨_, rfl⟩ (Nat.le_of_ble_eq_true rfl) rfl ⟨Nat.zero_le _, Nat.zero_le _⟩ (zpre_of zh_196 ⟨(by show 3 ≤ d; omega), ⟨_, _, rfl, rfl, ⟨_, _, rfl, ⟨_, rfl, show (0 : Int) ≤ z6.toInt by omega, show z6.toInt ≤ (40 : Int) by omega⟩, rfl⟩⟩, (hF_cons (lo := 0) (hi := 400) ⟨by omega, by omega⟩ (hF_cons (lo := 0) (hi := 2147483647) ⟨by omega, by exact an_hi _⟩ hF_nil)), fun _ => hInv⟩) (fun r7 I7 hp7 => ?_)
  replace hp7 := zpost_of zh_196 hp7
  rcases zq_196 hp7 with ⟨v7_12, v7_13, rfl, rfl, hv7_12e, hv7_12l, hv7_12h, hv7_13e, hv7_13l, hv7_13h, hInv7⟩ | ⟨v7_13', rfl, rfl, hv7_13'e, hv7_13'l, hv7_13'h, hInv7⟩ | ⟨v7_13'', rfl, rfl, hv7_13''l, hv7_13''h, hInv7⟩
  · refine hA_aload (zs_aload_n em221_10) rfl ?_
    refine hA_const (k := 0) (zs_iconst (v := 0) em221_11 (by decide +kernel)) (by decide +kernel) (fun z11 hz11 => ?_)
    refine hA_puti0 (id := 19) (zs_puti zInj0 (T := TX12) (M := 70) (ty := tyX12) (ci := 12) (j := 53) (kd := 0) em221_12 rfl inX12 tyX12_ok nmX12 (by decide) wd_1325 (Or.inl ⟨rfl, rfl⟩) rfl ((congrFun xo_12 284).trans rfl)) ⟨_, rfl, rfl⟩ (fun h => by cases h) ?_
    refine hA_aload (zs_aload_n em221_15) rfl ?_
    refine hA_getf0 (id := 13) (zs_getf (T := TX12) (M := 70) (ci := 12) (j := 27) em221_16 rfl inX12 (by decide) wd_1294 ((congrFun xo_12 200).trans rfl)) ⟨_, rfl, rfl⟩ (fun z16 hz16 => ?_)
    rw [zf_ne (by decide), zf_same] at hz16
    refine hA_if (zs_ifle em221_19 (t := 23) (by decide)) (fun (c19 : z16.toInt ≤ 0) => ?_) (fun (c19 : ¬ z16.toInt ≤ 0) => ?_)
    · refine zAt_T (pre' := preT) (K' := tkK I z1) (fun T => callsT T d) (fun T => tk_23 (by omega) (by omega) (by omega) ⟨⟨fun id hl h12 h13 h19 => ((zupd_fr h19).trans ((zupd_fr h13).trans ((zupd_fr h12).trans rfl))), fun kd i hi hk => ((zupd_fr (by unfold zid; omega)).trans ((zupd_fr (by unfold zid; omega)).trans ((zupd_fr (by unfold zid; omega)).trans rfl)))⟩, by omega, by rw [zf_ne (by decide), zf_same]; omega, by rw [zf_ne (by decide), zf_ne (by decide), zf_same]; omega, by rw [zf_ne (by decide), zf_ne (by decide), zf_same]; omega⟩) ?_
      intro pc' L' S' I' B' ⟨e1, e2, e3, n, sv, kv, e4, hP⟩
      subst e1 e2 e3 e4
      exact tk_83 hd (by omega) (by omega) (by omega) hP
    · refine hA_return ⟨rfl, em221_22⟩ ⟨Nat.le_refl _, Nat.le_refl _⟩ ?_
      intro he
      cases he
      exact ⟨rfl, (fun id hl h12 h13 h19 => ((zupd_fr h19).trans ((zupd_fr h13).trans ((zupd_fr h12).trans rfl)))), (fun kd i hi hk => ((zupd_fr (by unfold zid; omega)).trans ((zupd_fr (by unfold zid; omega)).trans ((zupd_fr (by unfold zid; omega)).trans rfl)))), by rw [zf_ne (by decide), zf_same]; omega, ⟨by rw [zf_ne (by decide), zf_ne (by decide), zf_same]; omega, by rw [zf_ne (by decide), zf_ne (by decide), zf_same]; omega⟩, (fun h => by rw [zf_ne (by decide), zf_same]; omega), (fun h => by rw [zf_ne (by decide), zf_same] at h; exfalso; omega), ⟨by rw [zf_same]; omega, by rw [zf_same]; omega⟩, (fun i hi => by rw [zf_same] at hi; omega)⟩
  · refine hA_aload (zs_aload_n em221_10) rfl ?_
    refine hA_const (k := 0) (zs_iconst (v := 0) em221_11 (by decide +kernel)) (by decide +kernel) (fun z11' hz11' => ?_)
    refine hA_puti0 (id := 19) (zs_puti zInj0 (T := TX12) (M := 70) (ty := tyX12) (ci := 12) (j := 53) (kd := 0) em221_12 rfl inX12 tyX12_ok nmX12 (by decide) wd_1325 (Or.inl ⟨rfl, rfl⟩) rfl ((congrFun xo_12 284).trans rfl)) ⟨_, rfl, rfl⟩ (fun h => by cases h) ?_
    refine hA_aload (zs_aload_n em221_15) rfl ?_
    refine hA_getf0 (id := 13) (zs_getf (T := TX12) (M := 70) (ci := 12) (j := 27) em221_16 rfl inX12 (by decide) wd_1294 ((congrFun xo_12 200).trans rfl)) ⟨_, rfl, rfl⟩ (fun z16' hz16' => ?_)
    rw [zf_ne (by decide), zf_same] at hz16'
    refine hA_if (zs_ifle em221_19 (t := 23) (by decide)) (fun (c19' : z16'.toInt ≤ 0) => ?_) (fun (c19' : ¬ z16'.toInt ≤ 0) => ?_)
    · refine zAt_T (pre' := preT) (K' := tkK I z1) (fun T => callsT T d) (fun T => tk_23 (by omega) (by omega) (by omega) ⟨⟨fun id hl h12 h13 h19 => ((zupd_fr h19).trans ((zupd_fr h13).trans rfl)), fun kd i hi hk => ((zupd_fr (by unfold zid; omega)).trans ((zupd_fr (by unfold zid; omega)).trans rfl))⟩, by omega, by rw [zf_ne (by decide), zf_same]; omega, by rw [zf_ne (by decide), zf_ne (by decide)]; omega, by rw [zf_ne (by decide), zf_ne (by decide)]; omega⟩) ?_
      intro pc' L' S' I' B' ⟨e1, e2, e3, n, sv, kv, e4, hP⟩
      subst e1 e2 e3 e4
      exact tk_83 hd (by omega) (by omega) (by omega) hP
    · refine hA_return ⟨rfl, em221_22⟩ ⟨Nat.le_refl _, Nat.le_refl _⟩ ?_
      intro he
      cases he
      exact ⟨rfl, (fun id hl h12 h13 h19 => ((zupd_fr h19).trans ((zupd_fr h13).trans rfl))), (fun kd i hi hk => ((zupd_fr (by unfold zid; omega)).trans ((zupd_fr (by unfold zid; omega)).trans rfl))), by rw [zf_ne (by decide), zf_same]; omega, ⟨by rw [zf_ne (by decide), zf_ne (by decide)]; omega, by rw [zf_ne (by decide), zf_ne (by decide)]; omega⟩, (fun h => by rw [zf_ne (by decide), zf_same]; omega), (fun h => by rw [zf_ne (by decide), zf_same] at h; exfalso; omega), ⟨by rw [zf_same]; omega, by rw [zf_same]; omega⟩, (fun i hi => by rw [zf_same] at hi; omega)⟩
  · refine hA_aload (zs_aload_n em221_10) rfl ?_
    refine hA_const (k := 0) (zs_iconst (v := 0) em221_11 (by decide +kernel)) (by decide +kernel) (fun z11'' hz11'' => ?_)
    refine hA_puti0 (id := 19) (zs_puti zInj0 (T := TX12) (M := 70) (ty := tyX12) (ci := 12) (j := 53) (kd := 0) em221_12 rfl inX12 tyX12_ok nmX12 (by decide) wd_1325 (Or.inl ⟨rfl, rfl⟩) rfl ((congrFun xo_12 284).trans rfl)) ⟨_, rfl, rfl⟩ (fun h => by cases h) ?_
    refine hA_aload (zs_aload_n em221_15) rfl ?_
    refine hA_getf0 (id := 13) (zs_getf (T := TX12) (M := 70) (ci := 12) (j := 27) em221_16 rfl inX12 (by decide) wd_1294 ((congrFun xo_12 200).trans rfl)) ⟨_, rfl, rfl⟩ (fun z16'' hz16'' => ?_)
    rw [zf_ne (by decide), zf_same] at hz16''
    refine hA_if (zs_ifle em221_19 (t := 23) (by decide)) (fun (c19'' : z16''.toInt ≤ 0) => ?_) (fun (c19'' : ¬ z16''.toInt ≤ 0) => ?_)
    · refine zAt_T (pre' := preT) (K' := tkK I z1) (fun T => callsT T d) (fun T => tk_23 (by omega) (by omega) (by omega) ⟨⟨fun id hl h12 h13 h19 => ((zupd_fr h19).trans ((zupd_fr h13).trans rfl)), fun kd i hi hk => ((zupd_fr (by unfold zid; omega)).trans ((zupd_fr (by unfold zid; omega)).trans rfl))⟩, by omega, by rw [zf_ne (by decide), zf_same]; omega, by rw [zf_ne (by decide), zf_ne (by decide)]; omega, by rw [zf_ne (by decide), zf_ne (by decide)]; omega⟩) ?_
      intro pc' L' S' I' B' ⟨e1, e2, e3, n, sv, kv, e4, hP⟩
      subst e1 e2 e3 e4
      exact tk_83 hd (by omega) (by omega) (by omega) hP
    · refine hA_return ⟨rfl, em221_22⟩ ⟨Nat.le_refl _, Nat.le_refl _⟩ ?_
      intro he
      cases he
      exact ⟨rfl, (fun id hl h12 h13 h19 => ((zupd_fr h19).trans ((zupd_fr h13).trans rfl))), (fun kd i hi hk => ((zupd_fr (by unfold zid; omega)).trans ((zupd_fr (by unfold zid; omega)).trans rfl))), by rw [zf_ne (by decide), zf_same]; omega, ⟨by rw [zf_ne (by decide), zf_ne (by decide)]; omega, by rw [zf_ne (by decide), zf_ne (by decide)]; omega⟩, (fun h => by rw [zf_ne (by decide), zf_same]; omega), (fun h => by rw [zf_ne (by decide), zf_same] at h; exfalso; omega), ⟨by rw [zf_same]; omega, by rw [zf_same]; omega⟩, (fun i hi => by rw [zf_same] at hi; omega)⟩
