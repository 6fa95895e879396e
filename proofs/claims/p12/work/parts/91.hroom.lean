set_option maxRecDepth 10000 in
set_option maxHeartbeats 4000000 in
theorem hM_286 : zOKx 286 := by
  intro d hc as I q h hq
  have h : hpr_286 (d + 1) as I := h
  obtain ⟨hd, a, b, rfl, hpre⟩ := h
  cases (show some _ = some q from hq)
  obtain ⟨⟨h12a, h12b⟩, h13a⟩ := hpre
  refine hmet (L := [some (.inr (.inl (some 75))), some (.inl a), some (.inl b)]) (by decide) (Nat.le_of_ble_eq_true rfl) hc rfl ?_
  refine hA_iload (zs_iload_n em183_0) rfl ?_
  refine hA_iload (zs_iload_n em183_1) rfl ?_
  refine hA_icmp (zs_icmpne em183_2 (t := 10) (by decide)) (fun (c2 : ¬ a.toInt = b.toInt) => ?_) (fun (c2 : ¬ ¬ a.toInt = b.toInt) => ?_)
  · refine hA_aload (zs_aload_n em183_10) rfl ?_
    refine hA_getf0 (id := 13) (zs_getf (T := TX12) (M := 70) (ci := 12) (j := 27) em183_11 rfl inX12 (by decide) wd_1294 ((congrFun xo_12 200).trans rfl)) ⟨_, rfl, rfl⟩ (fun z11 hz11 => ?_)
    refine hA_if (zs_ifne em183_14 (t := 21) (by decide)) (fun (c14 : ¬ z11.toInt = 0) => ?_) (fun (c14 : ¬ ¬ z11.toInt = 0) => ?_)
    · refine hA_return ⟨rfl, em183_21⟩ ⟨Nat.le_refl _, Nat.le_refl _⟩ ?_
      intro a' b' he
      cases he
      exact ⟨rfl, ⟨fun _ _ _ => rfl, h13a, ⟨Int.le_refl _, h12b⟩, fun h => h, fun h => by exfalso; omega⟩, fun h => by exfalso; omega⟩
    · refine hA_aload (zs_aload_n em183_17) rfl ?_
      refine hA_callV (as := []) (rest := []) (B' := (0, 0)) (zs_invV (T := TX12) em183_18 zl_151 rfl wd_1547 wd_1549 wd_56 ((congrFun xo_12 221).trans rfl) xm_144) rfl ⟨_, rfl⟩ (Nat.le_of_ble_eq_true rfl) rfl ⟨Nat.zero_le _, Nat.zero_le _⟩ (zpre_of zh_151 ⟨(by show 2 ≤ d; omega), ⟨_, _, rfl, rfl, rfl⟩, (hF_cons (lo := 0) (hi := 400) ⟨by omega, by omega⟩ (hF_cons (lo := 0) (hi := 2147483647) ⟨by omega, by exact an_hi _⟩ hF_nil)), fun h => by cases h⟩) (fun r18 I18 hp18 => ?_)
      obtain ⟨rfl, hN18⟩ := goes_q (by omega) (by omega) (zpost_of zh_151 hp18)
      have hN181 := hN18.2.1
      have hN182 := hN18.2.2.1
      have hN183 := hN18.2.2.2.1
      have hN184 := hN18.2.2.2.2
      refine hA_return ⟨rfl, em183_21⟩ ⟨Nat.le_refl _, Nat.le_refl _⟩ ?_
      intro a' b' he
      cases he
      exact ⟨rfl, hN18, fun h => by omega⟩
  · refine hA_aload (zs_aload_n em183_5) rfl ?_
    refine hA_const (k := 2) (zs_iconst (v := 2) em183_6 (by decide +kernel)) (by decide +kernel) (fun z6 hz6 => ?_)
    refine hA_callV (as := [.inl z6]) (rest := []) (B' := (0, 0)) (zs_invV (T := TX12) em183_7 zl_140 rfl wd_1543 wd_1545 wd_55 ((congrFun xo_12 215).trans rfl) xm_133) rfl ⟨_, rfl⟩ (Nat.le_of_ble_eq_true rfl) rfl ⟨Nat.zero_le _, Nat.zero_le _⟩ (zpre_of zh_140 ⟨(by show 1 ≤ d; omega), ⟨_, _, rfl, rfl, ⟨_, _, rfl, ⟨_, rfl, show (1 : Int) ≤ z6.toInt by omega, show z6.toInt ≤ (6 : Int) by omega⟩, rfl⟩⟩, (hF_cons (lo := 0) (hi := 400) ⟨by omega, by omega⟩ (hF_cons (lo := 0) (hi := 2147483647) ⟨by omega, by exact an_hi _⟩ hF_nil)), fun h => by cases h⟩) (fun r7 I7 hp7 => ?_)
    obtain ⟨rfl, hN7, hX7⟩ := fail_q (by omega) (zpost_of zh_140 hp7)
    have hN71 := hN7.2.1
    have hN72 := hN7.2.2.1
    have hN73 := hN7.2.2.2.1
    have hN74 := hN7.2.2.2.2
    refine hA_aload (zs_aload_n em183_10) rfl ?_
    refine hA_getf0 (id := 13) (zs_getf (T := TX12) (M := 70) (ci := 12) (j := 27) em183_11 rfl inX12 (by decide) wd_1294 ((congrFun xo_12 200).trans rfl)) ⟨_, rfl, rfl⟩ (fun z11' hz11' => ?_)
    refine hA_if (zs_ifne em183_14 (t := 21) (by decide)) (fun (c14' : ¬ z11'.toInt = 0) => ?_) (fun (c14' : ¬ ¬ z11'.toInt = 0) => ?_)
    · refine hA_return ⟨rfl, em183_21⟩ ⟨Nat.le_refl _, Nat.le_refl _⟩ ?_
      intro a' b' he
      cases he
      exact ⟨rfl, hN7, fun h => absurd h hX7⟩
    · refine hA_aload (zs_aload_n em183_17) rfl ?_
      refine hA_callV (as := []) (rest := []) (B' := (0, 0)) (zs_invV (T := TX12) em183_18 zl_151 rfl wd_1547 wd_1549 wd_56 ((congrFun xo_12 221).trans rfl) xm_144) rfl ⟨_, rfl⟩ (Nat.le_of_ble_eq_true rfl) rfl ⟨Nat.zero_le _, Nat.zero_le _⟩ (zpre_of zh_151 ⟨(by show 2 ≤ d; omega), ⟨_, _, rfl, rfl, rfl⟩, (hF_cons (lo := 0) (hi := 400) ⟨by omega, by omega⟩ (hF_cons (lo := 0) (hi := 2147483647) ⟨by omega, by exact an_hi _⟩ hF_nil)), fun h => by cases h⟩) (fun r18 I18 hp18 => ?_)
      obtain ⟨rfl, hN18⟩ := goes_q (by omega) (by omega) (zpost_of zh_151 hp18)
      have hN181 := hN18.2.1
      have hN182 := hN18.2.2.1
      have hN183 := hN18.2.2.2.1
      have hN184 := hN18.2.2.2.2
      exfalso
      omega
theorem em192_0 : decode prog_14_method_23_code 0 = .ok (.aload_n 0, 1) := by decide +kernel
theorem em192_1 : decode prog_14_method_23_code 1 = .ok (.invokevirtual 221, 3) := by decide +kernel
theorem em192_4 : decode prog_14_method_23_code 4 = .ok (.aload_n 0, 1) := by decide +kernel
theorem em192_5 : decode prog_14_method_23_code 5 = .ok (.iload_n 1, 1) := by decide +kernel
theorem em192_6 : decode prog_14_method_23_code 6 = .ok (.iload_n 2, 1) := by decide +kernel
theorem em192_7 : decode prog_14_method_23_code 7 = .ok (.invokevirtual 254, 3) := by decide +kernel
theorem em192_10 : decode prog_14_method_23_code 10 = .ok (.istore_n 3, 1) := by decide +kernel
theorem em192_11 : decode prog_14_method_23_code 11 = .ok (.aload_n 0, 1) := by decide +kernel
theorem em192_12 : decode prog_14_method_23_code 12 = .ok (.iconst 4, 1) := by decide +kernel
theorem em192_13 : decode prog_14_method_23_code 13 = .ok (.invokevirtual 258, 3) := by decide +kernel
theorem em192_16 : decode prog_14_method_23_code 16 = .ok (.iload_n 3, 1) := by decide +kernel
theorem em192_17 : decode prog_14_method_23_code 17 = .ok (.ireturn, 1) := by decide +kernel
set_option maxRecDepth 10000 in
set_option maxHeartbeats 4000000 in
theorem hM_219 : zOKh 219 zc_219 := by
  intro d hc as I q h hq
  obtain ⟨hd, ⟨_, _, rfl, rfl, ⟨_, _, rfl, ⟨x1, rfl, hx1, hx1b⟩, ⟨_, _, rfl, ⟨x2, rfl, hx2, hx2b⟩, rfl⟩⟩⟩, hF, hI⟩ := h
  have hd : 5 ≤ d + 1 := hd
  have hx1 : ((-2147483648) : Int) ≤ x1.toInt := hx1
  have hx1b : x1.toInt ≤ (2147483647 : Int) := hx1b
  have hx2 : ((-2147483648) : Int) ≤ x2.toInt := hx2
  have hx2b : x2.toInt ≤ (2147483647 : Int) := hx2b
  have hf12 : (0 : Int) ≤ zf I 12 ∧ zf I 12 ≤ (400 : Int) := hF _ List.mem_cons_self
  have hf13 : (0 : Int) ≤ zf I 13 ∧ zf I 13 ≤ (2147483647 : Int) := hF _ (List.mem_cons_of_mem _ List.mem_cons_self)
  have hInv : zInv I := hI rfl
  cases (show some _ = some q from hq)
  refine hmet (L := [some (.inr (.inl (some 75))), some (.inl x1), some (.inl x2), none]) (by decide) (Nat.le_of_ble_eq_true rfl) hc rfl ?_
  refine hA_aload (zs_aload_n em192_0) rfl ?_
  refine hA_callV (as := []) (rest := []) (B' := (0, 0)) (zs_invV (T := TX12) em192_1 zl_151 rfl wd_1547 wd_1549 wd_56 ((congrFun xo_12 221).trans rfl) xm_144) rfl ⟨_, rfl⟩ (Nat.le_of_ble_eq_true rfl) rfl ⟨Nat.zero_le _, Nat.zero_le _⟩ (zpre_of zh_151 ⟨(by show 2 ≤ d; omega), ⟨_, _, rfl, rfl, rfl⟩, (hF_cons (lo := 0) (hi := 400) ⟨by omega, by omega⟩ (hF_cons (lo := 0) (hi := 2147483647) ⟨by omega, by exact an_hi _⟩ hF_nil)), fun h => by cases h⟩) (fun r1 I1 hp1 => ?_)
  obtain ⟨rfl, hN1⟩ := goes_q (by omega) (by omega) (zpost_of zh_151 hp1)
  have hN11 := hN1.2.1
  have hN12 := hN1.2.2.1
  have hN13 := hN1.2.2.2.1
  have hN14 := hN1.2.2.2.2
  refine hA_aload (zs_aload_n em192_4) rfl ?_
  refine hA_iload (zs_iload_n em192_5) rfl ?_
  refine hA_iload (zs_iload_n em192_6) rfl ?_
  refine hA_callV (as := [.inl x1, .inl x2]) (rest := []) (B' := (0, 0)) (zs_invV (T := TX12) em192_7 zl_131 rfl wd_1585 wd_1587 wd_64 ((congrFun xo_12 254).trans rfl) xm_124) rfl ⟨_, rfl⟩ (Nat.le_of_ble_eq_true rfl) rfl ⟨Nat.zero_le _, Nat.zero_le _⟩ (zpre_of zh_131 ⟨(by show 3 ≤ d; omega), ⟨_, _, rfl, rfl, ⟨_, _, rfl, ⟨_, rfl, an_lo _, an_hi _⟩, ⟨_, _, rfl, ⟨_, rfl, an_lo _, an_hi _⟩, rfl⟩⟩⟩, (hF_cons (lo := 0) (hi := 400) ⟨by omega, by omega⟩ (hF_cons (lo := 0) (hi := 2147483647) ⟨by omega, by exact an_hi _⟩ hF_nil)), fun _ => (nF_inv hN1 hInv)⟩) (fun r7 I7 hp7 => ?_)
  obtain ⟨x7, rfl, hN7, hInv7⟩ := bnd_q (by omega) (zpost_of zh_131 hp7)
  have hN71 := hN7.2.1
  have hN72 := hN7.2.2.1
  have hN73 := hN7.2.2.2.1
  have hN74 := hN7.2.2.2.2
  refine hA_istore (L' := [some (.inr (.inl (some 75))), some (.inl x1), some (.inl x2), some (.inl x7)]) (zs_istore_n em192_10) ⟨Nat.le_of_ble_eq_true rfl, rfl⟩ rfl ?_
  refine hA_aload (zs_aload_n em192_11) rfl ?_
  refine hA_const (k := 4) (zs_iconst (v := 4) em192_12 (by decide +kernel)) (by decide +kernel) (fun z12 hz12 => ?_)
  refine hA_callV (as := [.inl z12]) (rest := []) (B' := (0, 0)) (zs_invV (T := TX12) em192_13 zl_196 rfl wd_1559 wd_1561 wd_59 ((congrFun xo_12 258).trans rfl) xm_169) rfl ⟨_, rfl⟩ (Nat.le_of_ble_eq_true rfl) rfl ⟨Nat.zero_le _, Nat.zero_le _⟩ (zpre_of zh_196 ⟨(by show 3 ≤ d; omega), ⟨_, _, rfl, rfl, ⟨_, _, rfl, ⟨_, rfl, show (0 : Int) ≤ z12.toInt by omega, show z12.toInt ≤ (40 : Int) by omega⟩, rfl⟩⟩, (hF_cons (lo := 0) (hi := 400) ⟨by omega, by omega⟩ (hF_cons (lo := 0) (hi := 2147483647) ⟨by omega, by exact an_hi _⟩ hF_nil)), fun _ => hInv7⟩) (fun r13 I13 hp13 => ?_)
  obtain ⟨rfl, hN13, hInv13⟩ := must_q (by omega) (zpost_of zh_196 hp13)
  have hN131 := hN13.2.1
  have hN132 := hN13.2.2.1
  have hN133 := hN13.2.2.2.1
  have hN134 := hN13.2.2.2.2
  refine hA_iload (zs_iload_n em192_16) rfl ?_
  refine hA_ireturn ⟨rfl, em192_17⟩ ⟨Nat.le_refl _, Nat.le_refl _⟩ ?_
  by_cases h0 : zf I13 13 = 0
  · exact ⟨⟨_, List.mem_cons_self, ⟨_, rfl, an_lo _, an_hi _⟩, (hCh_cons (fun k hk => by rw [some_eq hk]; omega) ⟨by omega, by omega⟩ (hCh_cons (fun k hk => by rw [some_eq hk]; omega) ⟨by omega, by omega⟩ hCh_nil)), (fun id hl hn => (hN13.1 id (fun e => by subst e; exact hn _ List.mem_cons_self) (fun e => by subst e; exact hn _ (List.mem_cons_of_mem _ List.mem_cons_self))).trans ((hN7.1 id (fun e => by subst e; exact hn _ List.mem_cons_self) (fun e => by subst e; exact hn _ (List.mem_cons_of_mem _ List.mem_cons_self))).trans (hN1.1 id (fun e => by subst e; exact hn _ List.mem_cons_self) (fun e => by subst e; exact hn _ (List.mem_cons_of_mem _ List.mem_cons_self))))), (fun _ h => absurd h List.not_mem_nil)⟩, (fun _ => hInv13), (fun _ id hid => (hN13.1 id (by omega) (by omega)).trans ((hN7.1 id (by omega) (by omega)).trans (hN1.1 id (by omega) (by omega))))⟩
  · exact ⟨⟨_, (List.mem_cons_of_mem _ List.mem_cons_self), ⟨_, rfl, an_lo _, an_hi _⟩, (hCh_cons (fun k hk => none_no hk) ⟨by omega, by omega⟩ (hCh_cons (fun k hk => none_no hk) ⟨by omega, an_hi _⟩ hCh_nil)), (fun id hl hn => (hN13.1 id (fun e => by subst e; exact hn _ List.mem_cons_self) (fun e => by subst e; exact hn _ (List.mem_cons_of_mem _ List.mem_cons_self))).trans ((hN7.1 id (fun e => by subst e; exact hn _ List.mem_cons_self) (fun e => by subst e; exact hn _ (List.mem_cons_of_mem _ List.mem_cons_self))).trans (hN1.1 id (fun e => by subst e; exact hn _ List.mem_cons_self) (fun e => by subst e; exact hn _ (List.mem_cons_of_mem _ List.mem_cons_self))))), (fun _ h => absurd h List.not_mem_nil)⟩, (fun _ => hInv13), (fun _ id hid => (hN13.1 id (by omega) (by omega)).trans ((hN7.1 id (by omega) (by omega)).trans (hN1.1 id (by omega) (by omega))))⟩
