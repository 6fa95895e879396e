theorem xw0_none (k : Nat) : xwg xw0 k = none := by
  unfold xwg
  cases h1 : xget xw0.2.2 (k / 16) with
  | none => rfl
  | some r =>
    have hr : r = List.replicate 16 none := by
      rw [xget_eq] at h1
      have hm := List.mem_of_getElem? h1
      have hall : ∀ r ∈ xw0.2.2, r = List.replicate 16 none := by
        intro r hr
        simp [xw0] at hr
        rw [hr]
        rfl
      exact hall r hm
    subst hr
    simp only []
    cases h2 : xget (List.replicate 16 (none : Option xE)) (k % 16) with
    | none => rfl
    | some o =>
      rw [xget_eq, List.getElem?_replicate] at h2
      split at h2
      · exact (Option.some.inj h2).symm
      · cases h2
theorem xNT_in : ∀ q ∈ xNT, Cond.methodLinkNest q.1 q.2.1 q.2.2.1 q.2.2.2 ∈ lw_tbl := by decide +kernel
theorem mm_ao : Cond.arrayOver (.object "CapitalCase$Town") ∈ lw_tbl := List.mem_of_getElem? (i := 383) (by decide +kernel)
theorem mm_int : Cond.arrayClass .int ∈ lw_tbl := List.mem_of_getElem? (i := 253) (by decide +kernel)
theorem mm_byte : Cond.arrayClass .byte ∈ lw_tbl := List.mem_of_getElem? (i := 252) (by decide +kernel)
theorem mm_boolean : Cond.arrayClass .boolean ∈ lw_tbl := List.mem_of_getElem? (i := 415) (by decide +kernel)
theorem mm_long : Cond.arrayClass .long ∈ lw_tbl := List.mem_of_getElem? (i := 1492) (by decide +kernel)
theorem mm_i0 : Cond.instantiable RX0 3 ∈ lw_tbl := List.mem_of_getElem? (i := 377) (by decide +kernel)
theorem mm_i1 : Cond.instantiable RX1 3 ∈ lw_tbl := List.mem_of_getElem? (i := 417) (by decide +kernel)
theorem mm_i2 : Cond.instantiable RX2 10 ∈ lw_tbl := List.mem_of_getElem? (i := 255) (by decide +kernel)
theorem mm_i3 : Cond.instantiable RX3 12 ∈ lw_tbl := List.mem_of_getElem? (i := 446) (by decide +kernel)
theorem mm_i4 : Cond.instantiable RX4 2 ∈ lw_tbl := List.mem_of_getElem? (i := 433) (by decide +kernel)
theorem mm_i5 : Cond.instantiable RX5 4 ∈ lw_tbl := List.mem_of_getElem? (i := 396) (by decide +kernel)
theorem mm_i6 : Cond.instantiable RX6 15 ∈ lw_tbl := List.mem_of_getElem? (i := 142) (by decide +kernel)
theorem mm_i7 : Cond.instantiable RX7 3 ∈ lw_tbl := List.mem_of_getElem? (i := 263) (by decide +kernel)
theorem mm_i8 : Cond.instantiable RX8 10 ∈ lw_tbl := List.mem_of_getElem? (i := 315) (by decide +kernel)
theorem mm_i9 : Cond.instantiable RX9 3 ∈ lw_tbl := List.mem_of_getElem? (i := 536) (by decide +kernel)
theorem mm_i10 : Cond.instantiable RX10 9 ∈ lw_tbl := List.mem_of_getElem? (i := 496) (by decide +kernel)
theorem mm_i11 : Cond.instantiable RX11 16 ∈ lw_tbl := List.mem_of_getElem? (i := 134) (by decide +kernel)
theorem mm_i12 : Cond.instantiable RX12 70 ∈ lw_tbl := List.mem_of_getElem? (i := 1258) (by decide +kernel)
set_option maxRecDepth 100000 in
set_option maxHeartbeats 4000000 in
/-- THE LAW, from its entry -/
theorem whole_start {p : Program} {e : Env} {s : State} {m : MethodId} {below : List Frame} {meth : Method} {c : Code} (l : Launch) (hflags : l.flags = flags0) {b L : Nat} {xs : Nat → Int32} (hL : L ≤ 6) (C0 : lw_At p s m meth c b L xs) : W p l e room_1 s m #[Value.ref b] below meth c s.heap [] 0 0 (lw_Z below #[Value.ref b] s) (entryFrame m ([Value.ref b] : List Value).toArray 4) := by
  obtain ⟨hx, hb, hr, hml, hown, hts, hX, hbl, hlocks, hgv⟩ := id C0
  obtain ⟨c0, iS0, hKn0⟩ := u_known (C := RX0) (T := TX0) (N := 3) (n := 3) hts inX0 (hts _ mm_i0)
  obtain ⟨c1, iS1, hKn1⟩ := u_known (C := RX1) (T := TX1) (N := 3) (n := 3) hts inX1 (hts _ mm_i1)
  obtain ⟨c2, iS2, hKn2⟩ := u_known (C := RX2) (T := TX2) (N := 10) (n := 10) hts inX2 (hts _ mm_i2)
  obtain ⟨c3, iS3, hKn3⟩ := u_known (C := RX3) (T := TX3) (N := 12) (n := 12) hts inX3 (hts _ mm_i3)
  obtain ⟨c4, iS4, hKn4⟩ := u_known (C := RX4) (T := TX4) (N := 2) (n := 2) hts inX4 (hts _ mm_i4)
  obtain ⟨c5, iS5, hKn5⟩ := u_known (C := RX5) (T := TX5) (N := 4) (n := 4) hts inX5 (hts _ mm_i5)
  obtain ⟨c6, iS6, hKn6⟩ := u_known (C := RX6) (T := TX6) (N := 15) (n := 15) hts inX6 (hts _ mm_i6)
  obtain ⟨c7, iS7, hKn7⟩ := u_known (C := RX7) (T := TX7) (N := 3) (n := 3) hts inX7 (hts _ mm_i7)
  obtain ⟨c8, iS8, hKn8⟩ := u_known (C := RX8) (T := TX8) (N := 10) (n := 10) hts inX8 (hts _ mm_i8)
  obtain ⟨c9, iS9, hKn9⟩ := u_known (C := RX9) (T := TX9) (N := 3) (n := 3) hts inX9 (hts _ mm_i9)
  obtain ⟨c10, iS10, hKn10⟩ := u_known (C := RX10) (T := TX10) (N := 9) (n := 9) hts inX10 (hts _ mm_i10)
  obtain ⟨c11, iS11, hKn11⟩ := u_known (C := RX11) (T := TX11) (N := 16) (n := 16) hts inX11 (hts _ mm_i11)
  obtain ⟨c12, iS12, hKn12⟩ := u_known (C := RX12) (T := TX12) (N := 70) (n := 70) hts inX12 (hts _ mm_i12)
  obtain ⟨dC, dI, hKc⟩ : ∃ (dC : Nat → ClassId) (dI : Nat → Nat → Nat), ∀ (k : Nat) (q : vw_C), vwCl[k]? = some q → u_Kn s q.1 q.2.1 q.2.2 (dC k) (dI k) := by
    refine ⟨fun k => [c0, c1, c2, c3, c4, c5, c6, c7, c8, c9, c10, c11, c12].getD k c0, fun k => [iS0, iS1, iS2, iS3, iS4, iS5, iS6, iS7, iS8, iS9, iS10, iS11, iS12].getD k iS0, ?_⟩
    intro k q hq
    match k, hq with
    | 0, hq => cases hq; exact hKn0
    | 1, hq => cases hq; exact hKn1
    | 2, hq => cases hq; exact hKn2
    | 3, hq => cases hq; exact hKn3
    | 4, hq => cases hq; exact hKn4
    | 5, hq => cases hq; exact hKn5
    | 6, hq => cases hq; exact hKn6
    | 7, hq => cases hq; exact hKn7
    | 8, hq => cases hq; exact hKn8
    | 9, hq => cases hq; exact hKn9
    | 10, hq => cases hq; exact hKn10
    | 11, hq => cases hq; exact hKn11
    | 12, hq => cases hq; exact hKn12
    | k + 13, hq => simp [vwCl] at hq
  obtain ⟨a0, ka0, co0, f0, g0, k0⟩ := Cond.arrayClass_spec (hts _ mm_int)
  have hA0 : ArrOfT s a0 .int ∧ va_RA s a0 .int := ⟨fun n z => ⟨fun k h => (by cases h), ka0, g0, co0, k0⟩, f0⟩
  obtain ⟨a1, ka1, co1, f1, g1, k1⟩ := Cond.arrayClass_spec (hts _ mm_byte)
  have hA1 : ArrOfT s a1 .byte ∧ va_RA s a1 .byte := ⟨fun n z => ⟨fun k h => (by cases h), ka1, g1, co1, k1⟩, f1⟩
  obtain ⟨a2, ka2, co2, f2, g2, k2⟩ := Cond.arrayClass_spec (hts _ mm_boolean)
  have hA2 : ArrOfT s a2 .boolean ∧ va_RA s a2 .boolean := ⟨fun n z => ⟨fun k h => (by cases h), ka2, g2, co2, k2⟩, f2⟩
  obtain ⟨a3, ka3, co3, f3, g3, k3⟩ := Cond.arrayClass_spec (hts _ mm_long)
  have hA3 : ArrOfT s a3 .long ∧ va_RA s a3 .long := ⟨fun n z => ⟨fun k h => (by cases h), ka3, g3, co3, k3⟩, f3⟩
  obtain ⟨co4, a4, ka4, f4, -, g4, k4, n4⟩ := Cond.arrayOver_spec (hts _ mm_ao)
  have hA4 : ArrOfT s a4 (.object "CapitalCase$Town") ∧ va_RA s a4 (.object "CapitalCase$Town") := ⟨fun n z => ⟨fun k h => (by cases h), ka4, g4, co4, k4⟩, ka4, co4, g4, k4, f4, n4⟩
  obtain ⟨tys, htys⟩ : ∃ tys : List (ClassId × FieldType), tys = [(a0, .int), (a1, .byte), (a2, .boolean), (a3, .long), (a4, .object "CapitalCase$Town")] := ⟨_, rfl⟩
  have hK : va_K (dC, dI) vwCl tys s := by
    refine ⟨hKc, fun k q hq => ?_⟩
    subst htys
    match k, hq with
    | 0, hq => cases hq; exact hA0
    | 1, hq => cases hq; exact hA1
    | 2, hq => cases hq; exact hA2
    | 3, hq => cases hq; exact hA3
    | 4, hq => cases hq; exact hA4
    | k + 5, hq => simp at hq
  have hmap : tys.map Prod.snd = xTys := by subst htys; rfl
  have hxN : xN s := ⟨fun q hq => va_Nw.of rfl (hts _ (xNT_in q hq)), va_AO.of (hts _ mm_ao)⟩
  have hLw : xLw p s m meth c b L xs (dC, dI) tys := ⟨C0, hK, hmap, hxN, hL⟩
  rw [lg_entry_eq]
  have hus : xRS s.heap.size b [.inr (.inr 1)] [Value.ref b] := ⟨_, [], rfl, rfl, rfl⟩
  have hL0 := xRL_entry (n := 4) hus (by decide)
  refine (xrun_ok (TI_ok (fun _ _ _ => True)) xCa_ok 40 0 xL0 [] xw0 18 xL1 [] xw1 runA).2 p l e room_1 s m _ below meth c _ 4 (dC, dI) tys s.heap.size b 0 0 (xLw_ctx hLw) trivial (Nat.le_of_ble_eq_true rfl) (Nat.le_of_ble_eq_true rfl) (Nat.le_of_ble_eq_true rfl) (Nat.le_of_ble_eq_true rfl) _ [] s.heap [] 0 0 ⟨⟨[], ⟨rfl, (fun k e he => by rw [xw0_none] at he; cases he), (fun k q hq => by simp at hq)⟩, (fun k q hq => by simp at hq)⟩, rfl, va_S.rf, rfl, rfl, rfl⟩ hL0 rfl ?_
  intro ls st H locs cells slots hM hL1 hS
  cases hS
  have none6 : ∀ (j : Nat) (q : Nat × Nat), xget ([] : List (Nat × Nat)) j = some q → xRI q (xs j) := fun j q h => by rw [xget_eq] at h; simp at h
  rcases (show L = 0 ∨ L = 1 ∨ L = 2 ∨ L = 3 ∨ L = 4 ∨ L = 5 ∨ L = 6 by omega) with rfl | rfl | rfl | rfl | rfl | rfl | rfl
  · exact leaf_ok lfS_0 hLw none6 hM hL1
  · exact leaf_ok lfS_1 hLw none6 hM hL1
  · exact leaf_ok lfS_2 hLw none6 hM hL1
  · exact leaf_ok lfS_3 hLw none6 hM hL1
  · exact leaf_ok lfS_4 hLw none6 hM hL1
  · exact leaf_ok lfS_5 hLw none6 hM hL1
  · refine (xrun_ok (TL_ok 6 xs []) xCa_ok 100 18 xL1 [] xw1 27 xL1 [] xw1 runB).2 p l e room_1 s m _ below meth c _ 4 (dC, dI) tys s.heap.size b 0 0 (xLw_ctx hLw) (xLw_G hLw none6) (Nat.le_of_ble_eq_true rfl) (Nat.le_of_ble_eq_true rfl) (Nat.le_of_ble_eq_true rfl) (Nat.le_of_ble_eq_true rfl) ls [] H locs cells slots hM hL1 rfl ?_
    intro ls st H locs cells slots hM hL1 hS
    cases hS
    obtain ⟨u0, hu0, rfl⟩ := xRL_at (v := .inr (.inr 1)) hL1 (i := 0) rfl
    obtain ⟨u3, hu3, x3, rfl, hx3⟩ := xRL_at (v := .inl (2147483648, 2147483648)) hL1 (i := 3) rfl
    have e3 : x3 = 0 := xo_inj (by rw [xo_zero]; exact Nat.le_antisymm hx3.2 hx3.1)
    subst e3
    refine lv_aload_n hx hb dL_27 rfl hu0 ?_
    refine lv_iload_n hx hb dL_28 rfl hu3 ?_
    refine va_sld hx hb hX hbl (Nat.not_le.mpr hbl) hM.2.2.1 (i := 0) (by rw [vp_in_iff]; decide) dL_29 ?_
    refine lv_bipush (v := 63) hx hb dL_30 (by decide +kernel) ?_
    refine lv_iand hx hb dL_32 ?_
    obtain ⟨j, hj, ej⟩ := pk_andE (xs (Int32.toNatClampNeg 0)) (m := 63) 6 (by decide +kernel)
    rw [ej]
    have hj : j < 64 := hj
    rcases (show j = 0 ∨ j = 1 ∨ j = 2 ∨ j = 3 ∨ j = 4 ∨ j = 5 ∨ j = 6 ∨ j = 7 ∨ j = 8 ∨ j = 9 ∨ j = 10 ∨ j = 11 ∨ j = 12 ∨ j = 13 ∨ j = 14 ∨ j = 15 ∨ j = 16 ∨ j = 17 ∨ j = 18 ∨ j = 19 ∨ j = 20 ∨ j = 21 ∨ j = 22 ∨ j = 23 ∨ j = 24 ∨ j = 25 ∨ j = 26 ∨ j = 27 ∨ j = 28 ∨ j = 29 ∨ j = 30 ∨ j = 31 ∨ j = 32 ∨ j = 33 ∨ j = 34 ∨ 35 ≤ j by omega) with rfl | rfl | rfl | rfl | rfl | rfl | rfl | rfl | rfl | rfl | rfl | rfl | rfl | rfl | rfl | rfl | rfl | rfl | rfl | rfl | rfl | rfl | rfl | rfl | rfl | rfl | rfl | rfl | rfl | rfl | rfl | rfl | rfl | rfl | rfl | hj2
    · exact lv_tableIn (off := 155) (tgt := 188) hx hb dL_33 (by decide +kernel) (by decide +kernel) (by decide +kernel) (by decide) (case_0 hLw hM hL1)
    · exact lv_tableIn (off := 218) (tgt := 251) hx hb dL_33 (by decide +kernel) (by decide +kernel) (by decide +kernel) (by decide) (case_1 hLw hM hL1)
    · exact lv_tableIn (off := 241) (tgt := 274) hx hb dL_33 (by decide +kernel) (by decide +kernel) (by decide +kernel) (by decide) (case_2 hLw hM hL1)
    · exact lv_tableIn (off := 254) (tgt := 287) hx hb dL_33 (by decide +kernel) (by decide +kernel) (by decide +kernel) (by decide) (case_3 hLw hM hL1)
    · exact lv_tableIn (off := 267) (tgt := 300) hx hb dL_33 (by decide +kernel) (by decide +kernel) (by decide +kernel) (by decide) (case_4 hLw hM hL1)
    · exact lv_tableIn (off := 310) (tgt := 343) hx hb dL_33 (by decide +kernel) (by decide +kernel) (by decide +kernel) (by decide) (case_5 hLw hM hL1)
    · exact lv_tableIn (off := 343) (tgt := 376) hx hb dL_33 (by decide +kernel) (by decide +kernel) (by decide +kernel) (by decide) (case_6 hLw hM hL1)
    · exact lv_tableIn (off := 376) (tgt := 409) hx hb dL_33 (by decide +kernel) (by decide +kernel) (by decide +kernel) (by decide) (case_7 hLw hM hL1)
    · exact lv_tableIn (off := 429) (tgt := 462) hx hb dL_33 (by decide +kernel) (by decide +kernel) (by decide +kernel) (by decide) (case_8 hLw hM hL1)
    · exact lv_tableIn (off := 452) (tgt := 485) hx hb dL_33 (by decide +kernel) (by decide +kernel) (by decide +kernel) (by decide) (case_9 hLw hM hL1)
    · exact lv_tableIn (off := 475) (tgt := 508) hx hb dL_33 (by decide +kernel) (by decide +kernel) (by decide +kernel) (by decide) (case_10 hLw hM hL1)
    · exact lv_tableIn (off := 518) (tgt := 551) hx hb dL_33 (by decide +kernel) (by decide +kernel) (by decide +kernel) (by decide) (case_11 hLw hM hL1)
    · exact lv_tableIn (off := 561) (tgt := 594) hx hb dL_33 (by decide +kernel) (by decide +kernel) (by decide +kernel) (by decide) (case_12 hLw hM hL1)
    · exact lv_tableIn (off := 584) (tgt := 617) hx hb dL_33 (by decide +kernel) (by decide +kernel) (by decide +kernel) (by decide) (case_13 hLw hM hL1)
    · exact lv_tableIn (off := 597) (tgt := 630) hx hb dL_33 (by decide +kernel) (by decide +kernel) (by decide +kernel) (by decide) (case_14 hLw hM hL1)
    · exact lv_tableIn (off := 630) (tgt := 663) hx hb dL_33 (by decide +kernel) (by decide +kernel) (by decide +kernel) (by decide) (case_15 hLw hM hL1)
    · exact lv_tableIn (off := 653) (tgt := 686) hx hb dL_33 (by decide +kernel) (by decide +kernel) (by decide +kernel) (by decide) (case_16 hLw hM hL1)
    · exact lv_tableIn (off := 686) (tgt := 719) hx hb dL_33 (by decide +kernel) (by decide +kernel) (by decide +kernel) (by decide) (case_17 hLw hM hL1)
    · exact lv_tableIn (off := 709) (tgt := 742) hx hb dL_33 (by decide +kernel) (by decide +kernel) (by decide +kernel) (by decide) (case_18 hLw hM hL1)
    · exact lv_tableIn (off := 732) (tgt := 765) hx hb dL_33 (by decide +kernel) (by decide +kernel) (by decide +kernel) (by decide) (case_19 hLw hM hL1)
    · exact lv_tableIn (off := 765) (tgt := 798) hx hb dL_33 (by decide +kernel) (by decide +kernel) (by decide +kernel) (by decide) (case_20 hLw hM hL1)
    · exact lv_tableIn (off := 788) (tgt := 821) hx hb dL_33 (by decide +kernel) (by decide +kernel) (by decide +kernel) (by decide) (case_21 hLw hM hL1)
    · exact lv_tableIn (off := 811) (tgt := 844) hx hb dL_33 (by decide +kernel) (by decide +kernel) (by decide +kernel) (by decide) (case_22 hLw hM hL1)
    · exact lv_tableIn (off := 834) (tgt := 867) hx hb dL_33 (by decide +kernel) (by decide +kernel) (by decide +kernel) (by decide) (case_23 hLw hM hL1)
    · exact lv_tableIn (off := 847) (tgt := 880) hx hb dL_33 (by decide +kernel) (by decide +kernel) (by decide +kernel) (by decide) (case_24 hLw hM hL1)
    · exact lv_tableIn (off := 880) (tgt := 913) hx hb dL_33 (by decide +kernel) (by decide +kernel) (by decide +kernel) (by decide) (case_25 hLw hM hL1)
    · exact lv_tableIn (off := 933) (tgt := 966) hx hb dL_33 (by decide +kernel) (by decide +kernel) (by decide +kernel) (by decide) (case_26 hLw hM hL1)
    · exact lv_tableIn (off := 956) (tgt := 989) hx hb dL_33 (by decide +kernel) (by decide +kernel) (by decide +kernel) (by decide) (case_27 hLw hM hL1)
    · exact lv_tableIn (off := 1009) (tgt := 1042) hx hb dL_33 (by decide +kernel) (by decide +kernel) (by decide +kernel) (by decide) (case_28 hLw hM hL1)
    · exact lv_tableIn (off := 1068) (tgt := 1101) hx hb dL_33 (by decide +kernel) (by decide +kernel) (by decide +kernel) (by decide) (case_29 hLw hM hL1)
    · exact lv_tableIn (off := 1081) (tgt := 1114) hx hb dL_33 (by decide +kernel) (by decide +kernel) (by decide +kernel) (by decide) (case_30 hLw hM hL1)
    · exact lv_tableIn (off := 1114) (tgt := 1147) hx hb dL_33 (by decide +kernel) (by decide +kernel) (by decide +kernel) (by decide) (case_31 hLw hM hL1)
    · exact lv_tableIn (off := 1147) (tgt := 1180) hx hb dL_33 (by decide +kernel) (by decide +kernel) (by decide +kernel) (by decide) (case_32 hLw hM hL1)
    · exact lv_tableIn (off := 1170) (tgt := 1203) hx hb dL_33 (by decide +kernel) (by decide +kernel) (by decide +kernel) (by decide) (case_33 hLw hM hL1)
    · exact lv_tableIn (off := 1193) (tgt := 1226) hx hb dL_33 (by decide +kernel) (by decide +kernel) (by decide +kernel) (by decide) (case_34 hLw hM hL1)
    · exact lv_tableOut (tgt := 1249) hx hb dL_33 (Or.inr (by rw [nI_toInt (by omega)]; omega)) (by decide) (case_default hLw hM hL1)
