/-! ===== houses and verses told ===== -/
def hvF (I J : zI) : Prop := (∀ id, id < 4096 → id ≠ 12 → id ≠ 13 → id ≠ 15 → id ≠ 19 → J id = I id) ∧ (∀ kd i, i < 4096 → kd ≠ 103 → J (zid kd i) = I (zid kd i)) ∧ 0 ≤ zf J 13 ∧ (zf I 12 ≤ zf J 12 ∧ zf J 12 ≤ 400) ∧ (zf J 13 = 0 → zf I 13 = 0)
theorem hvF_n {I J : zI} (h : nF I J) : hvF I J := ⟨fun id _ p q _ _ => h.1 id p q, fun kd i _ _ => h.1 _ (by unfold zid; omega) (by unfold zid; omega), h.2.1, h.2.2.1, fun q => (h.2.2.2.2 q).1⟩
theorem hvF_tr {I J I' : zI} (h1 : hvF I J) (h2 : hvF J I') : hvF I I' := by
  obtain ⟨a1, a2, a3, a4, a5⟩ := h1
  obtain ⟨b1, b2, b3, b4, b5⟩ := h2
  exact ⟨fun id h p q r s => (b1 id h p q r s).trans (a1 id h p q r s), fun kd i h p => (b2 kd i h p).trans (a2 kd i h p), b3, by omega, fun q => a5 (b5 q)⟩
theorem hvF_z {I J : zI} (h : hvF I J) {f : Nat} (hf : f < 4096) (h12 : f ≠ 12) (h13 : f ≠ 13) (h15 : f ≠ 15) (h19 : f ≠ 19) : zf J f = zf I f := by unfold zf; rw [h.1 f hf h12 h13 h15 h19]
theorem hvF_i {I J : zI} (hI : zInv I) (h22 : 0 ≤ zf I 22 ∧ zf I 22 ≤ 1) (h : hvF I J) : zInv J := by
  refine zInv_side hI (h.1 22 (by decide) (by decide) (by decide) (by decide) (by decide)) (fun kd i hi _ _ q => h.2.1 kd i hi (by omega)) (fun k hk => ⟨h.2.1 94 _ (by omega) (by decide), h.2.1 95 _ (by omega) (by decide)⟩) (fun b p q kd r s => h.2.1 kd b (by omega) (by omega)) (fun c p q => ⟨h.2.1 101 c (by omega) (by decide), h.2.1 102 c (by omega) (by decide)⟩) ?_
  exact eE_k (fun kd i hi hk => h.2.1 kd i hi (by omega)) (eE_of hI)
theorem hvF_s2 {I J : zI} (h22 : 0 ≤ zf I 22 ∧ zf I 22 ≤ 1) (h : hvF I J) : sFr I J := ⟨fun id hl q => h.1 id hl (by omega) (by omega) (by omega) (by omega), fun kd i hi _ _ q => h.2.1 kd i hi (by omega), fun k hk => ⟨h.2.1 94 _ (by omega) (by decide), h.2.1 95 _ (by omega) (by decide)⟩, fun b p q kd r s => h.2.1 kd b (by omega) (by omega), fun c p q => ⟨h.2.1 101 c (by omega) (by decide), h.2.1 102 c (by omega) (by decide)⟩⟩
theorem hvF_p {I J : zI} {m : Int} (hS : pS I m) (h : hvF I J) (h15 : 0 ≤ zf J 15 ∧ zf J 15 ≤ 12) : pS J m := by
  obtain ⟨s1, s2, s3, s4, s5, s6, s7, s8⟩ := hS
  have e := fun f (h0 : f < 4096) (h1 : f ≠ 12) (h2 : f ≠ 13) (h3 : f ≠ 15) (h4 : f ≠ 19) => hvF_z h h0 h1 h2 h3 h4
  have e22 := e 22 (by decide) (by decide) (by decide) (by decide) (by decide)
  have e23 := e 23 (by decide) (by decide) (by decide) (by decide) (by decide)
  have e16 := e 16 (by decide) (by decide) (by decide) (by decide) (by decide)
  have e17 := e 17 (by decide) (by decide) (by decide) (by decide) (by decide)
  obtain ⟨-, -, a3, a4, -⟩ := id h
  exact ⟨hvF_i s1 s5 h, by omega, a3, by omega, by omega, by omega, by omega, h15⟩
theorem hv_end0 {I J : zI} (hS : pS I 100) (h : hvF I J) (h15 : 0 ≤ zf J 15 ∧ zf J 15 ≤ 12) (hf : ¬ zf J 13 = 0) : sFr I J ∧ pS J 110 ∧ (zf J 13 = 0 → zf I 12 + 1 ≤ zf J 12 ∧ pG J 0) := by
  have hp := hvF_p hS h h15
  exact ⟨hvF_s2 hS.2.2.2.2.1 h, pS_mo hp (by have := hp.2.2.2.2.2.2.1; omega), fun q => absurd q hf⟩
theorem hv_end1 {I J : zI} {kd : Nat} {i v : Int32} (hS : pS I 100) (hG : pG I 0) (h : hvF I J) (hk : kd = 84 ∨ kd = 86) (hi : i.toInt = zf I 23) (hv : v.toInt = zv J kd (zf I 23) + 1) (hv2 : (kd = 84 → v.toInt ≤ 5) ∧ (kd = 86 → v.toInt ≤ 7)) (h15 : zf J 15 = zf I 15 + 1) (h12 : zf I 12 + 1 ≤ zf J 12) : sFr I (zupd J (zid kd i.toInt.toNat) v) ∧ pS (zupd J (zid kd i.toInt.toNat) v) 110 ∧ (zf (zupd J (zid kd i.toInt.toNat) v) 13 = 0 → zf I 12 + 1 ≤ zf (zupd J (zid kd i.toInt.toNat) v) 12 ∧ pG (zupd J (zid kd i.toInt.toNat) v) 0) := by
  obtain ⟨s1, s2, s3, s4, s5, s6, s7, s8⟩ := id hS
  obtain ⟨g1, g2, g3, g4, g5⟩ := hG
  have hIJ := hvF_i s1 s5 h
  have eE0 := eE_of hIJ
  have e := fun f (h0 : f < 4096) (h1 : f ≠ 12) (h2 : f ≠ 13) (h3 : f ≠ 15) (h4 : f ≠ 19) => hvF_z h h0 h1 h2 h3 h4
  have e22 := e 22 (by decide) (by decide) (by decide) (by decide) (by decide)
  have e23 := e 23 (by decide) (by decide) (by decide) (by decide) (by decide)
  have e14 := e 14 (by decide) (by decide) (by decide) (by decide) (by decide)
  have e16 := e 16 (by decide) (by decide) (by decide) (by decide) (by decide)
  have e17 := e 17 (by decide) (by decide) (by decide) (by decide) (by decide)
  obtain ⟨-, f2, f3, f4, f5⟩ := id h
  have ez : ∀ f, f < 4096 → zf (zupd J (zid kd i.toInt.toNat) v) f = zf J f := fun f hf => zf_arr _ _ _ _ _ hf
  have en : ∀ kd' j : Nat, j < 4096 → (kd' ≠ kd ∨ ¬ (j : Int) = zf I 23) → zupd J (zid kd i.toInt.toNat) v (zid kd' j) = J (zid kd' j) := fun kd' j hj hh => zupd_fr (by unfold zid; omega)
  have v84 : ∀ k, (k = 84 ∨ k = 86) → zv J k (zf I 23) = zv I k (zf I 23) := fun k hk => by unfold zv; rw [f2 k _ (by omega) (by omega)]
  have q84 : 0 ≤ zv J 84 (zf I 23) ∧ zv J 84 (zf I 23) ≤ 5 := (eE0.1 (zf I 23).toNat (by omega)).1
  have q86 : 0 ≤ zv J 86 (zf I 23) ∧ zv J 86 (zf I 23) ≤ 7 := (eE0.1 (zf I 23).toNat (by omega)).2
  have hsf : sFr J (zupd J (zid kd i.toInt.toNat) v) := ⟨fun id hl _ => zupd_hi2 hl, fun kd' j hj p q _ => en kd' j hj (Or.inl (by omega)), fun k hk' => ⟨en 94 _ (by omega) (Or.inl (by omega)), en 95 _ (by omega) (Or.inl (by omega))⟩, fun b p q kd' _ _ => en kd' b (by omega) (Or.inl (by omega)), fun c p q => ⟨en 101 c (by omega) (Or.inl (by omega)), en 102 c (by omega) (Or.inl (by omega))⟩⟩
  have hvk : 0 ≤ v.toInt := by rcases hk with rfl | rfl <;> omega
  have hE : eE (zupd J (zid kd i.toInt.toNat) v) := by
    refine ⟨fun j hj => ⟨?_, ?_⟩, fun j hj => by rw [en 96 j (by omega) (Or.inl (by omega))]; exact eE0.2 j hj⟩
    · by_cases hq : kd = 84 ∧ (j : Int) = zf I 23
      · obtain ⟨rfl, hq⟩ := hq
        have : j = i.toInt.toNat := by omega
        subst this
        unfold zupd
        rw [if_pos rfl]
        exact ⟨hvk, hv2.1 rfl⟩
      · rw [en 84 j (by omega) (by omega)]
        exact (eE0.1 j hj).1
    · by_cases hq : kd = 86 ∧ (j : Int) = zf I 23
      · obtain ⟨rfl, hq⟩ := hq
        have : j = i.toInt.toNat := by omega
        subst this
        unfold zupd
        rw [if_pos rfl]
        exact ⟨hvk, hv2.2 rfl⟩
      · rw [en 86 j (by omega) (by omega)]
        exact (eE0.1 j hj).2
  have hI := sFr_inv hIJ hsf hE
  have h15b : zf I 15 ≤ 11 := by
    have a1 := v84 84 (Or.inl rfl)
    have a2 := v84 86 (Or.inr rfl)
    have b1 := hv2.1
    have b2 := hv2.2
    rcases hk with rfl | rfl <;> omega
  refine ⟨sFr_tr (hvF_s2 s5 h) hsf, ⟨hI, by rw [ez 12 (by decide)]; omega, by rw [ez 13 (by decide)]; omega, by rw [ez 23 (by decide), ez 22 (by decide)]; omega, by rw [ez 22 (by decide)]; omega, by rw [ez 23 (by decide), ez 17 (by decide)]; omega, by rw [ez 23 (by decide), ez 16 (by decide)]; omega, by rw [ez 15 (by decide)]; omega⟩, fun q => ?_⟩
  refine ⟨by rw [ez 12 (by decide)]; exact h12, by rw [ez 14 (by decide)]; omega, by rw [ez 17 (by decide), ez 23 (by decide), ez 12 (by decide)]; omega, ?_, ?_, by rw [ez 16 (by decide), ez 23 (by decide), ez 12 (by decide)]; omega⟩
  · rw [ez 15 (by decide), ez 23 (by decide), e23]
    have a1 := v84 84 (Or.inl rfl)
    have a2 := v84 86 (Or.inr rfl)
    have ei : zf I 23 = i.toInt := hi.symm
    rcases hk with rfl | rfl
    · have : zv (zupd J (zid 84 i.toInt.toNat) v) 84 (zf I 23) = v.toInt := by rw [ei, zv_at]
      rw [this, zv_nk (by decide) (by omega) (by omega)]
      omega
    · have : zv (zupd J (zid 86 i.toInt.toNat) v) 86 (zf I 23) = v.toInt := by rw [ei, zv_at]
      rw [this, zv_nk (by decide) (by omega) (by omega)]
      omega
  · refine sL_vs (by rw [ez 16 (by decide)]; exact e16) (by rw [ez 17 (by decide)]; exact e17) (by rw [ez 23 (by decide)]; exact e23) (fun kd' j hj p q => (en kd' j hj (Or.inl (by omega))).trans (f2 kd' j hj ?_)) (by omega) (by omega) g4
    omega
theorem hvF_tk {I I' : zI} (h1 : ∀ id, id < 4096 → id ≠ 12 → id ≠ 13 → id ≠ 19 → I' id = I id) (h2 : ∀ kd i, i < 4096 → kd ≠ 103 → I' (zid kd i) = I (zid kd i)) (h3 : 0 ≤ zf I' 13) (h4 : zf I 12 ≤ zf I' 12 ∧ zf I' 12 ≤ 400) (h5 : zf I' 13 = 0 → zf I 13 = 0 ∧ zf I' 12 = zf I 12 + 1) : hvF I I' := ⟨fun id h p q _ r => h1 id h p q r, h2, h3, h4, fun q => (h5 q).1⟩
theorem hvF_en {I I' : zI} (h1 : ∀ id, id ≠ 12 → id ≠ 13 → id ≠ 15 → I' id = I id) (h3 : 0 ≤ zf I' 13) (h4 : zf I 12 ≤ zf I' 12 ∧ zf I' 12 ≤ 400) (h5 : zf I' 13 = 0 → zf I 13 = 0 ∧ zf I' 12 = zf I 12 + 1) : hvF I I' := ⟨fun id h p q r _ => h1 id p q r, fun kd i _ _ => h1 _ (by unfold zid; omega) (by unfold zid; omega) (by unfold zid; omega), h3, h4, fun q => (h5 q).1⟩
theorem em224_0 : decode prog_14_method_31_code 0 = .ok (.bipush 40, 2) := by decide +kernel
theorem em224_2 : decode prog_14_method_31_code 2 = .ok (.aload_n 0, 1) := by decide +kernel
theorem em224_3 : decode prog_14_method_31_code 3 = .ok (.getfield 233, 3) := by decide +kernel
theorem em224_6 : decode prog_14_method_31_code 6 = .ok (.imul, 1) := by decide +kernel
theorem em224_7 : decode prog_14_method_31_code 7 = .ok (.bipush 8, 2) := by decide +kernel
theorem em224_9 : decode prog_14_method_31_code 9 = .ok (.aload_n 0, 1) := by decide +kernel
theorem em224_10 : decode prog_14_method_31_code 10 = .ok (.getfield 43, 3) := by decide +kernel
theorem em224_13 : decode prog_14_method_31_code 13 = .ok (.aload_n 0, 1) := by decide +kernel
theorem em224_14 : decode prog_14_method_31_code 14 = .ok (.getfield 233, 3) := by decide +kernel
theorem em224_17 : decode prog_14_method_31_code 17 = .ok (.iaload, 1) := by decide +kernel
theorem em224_18 : decode prog_14_method_31_code 18 = .ok (.imul, 1) := by decide +kernel
theorem em224_19 : decode prog_14_method_31_code 19 = .ok (.iadd, 1) := by decide +kernel
theorem em224_20 : decode prog_14_method_31_code 20 = .ok (.istore_n 1, 1) := by decide +kernel
theorem em224_21 : decode prog_14_method_31_code 21 = .ok (.aload_n 0, 1) := by decide +kernel
theorem em224_22 : decode prog_14_method_31_code 22 = .ok (.invokevirtual 291, 3) := by decide +kernel
theorem em224_25 : decode prog_14_method_31_code 25 = .ok (.istore_n 2, 1) := by decide +kernel
theorem em224_26 : decode prog_14_method_31_code 26 = .ok (.aload_n 0, 1) := by decide +kernel
theorem em224_27 : decode prog_14_method_31_code 27 = .ok (.invokevirtual 295, 3) := by decide +kernel
theorem em224_30 : decode prog_14_method_31_code 30 = .ok (.iconst 0, 1) := by decide +kernel
theorem em224_31 : decode prog_14_method_31_code 31 = .ok (.istore_n 3, 1) := by decide +kernel
theorem em224_32 : decode prog_14_method_31_code 32 = .ok (.iload_n 3, 1) := by decide +kernel
theorem em224_33 : decode prog_14_method_31_code 33 = .ok (.bipush 8, 2) := by decide +kernel
theorem em224_35 : decode prog_14_method_31_code 35 = .ok (.if_icmp .ge 18, 3) := by decide +kernel
theorem em224_38 : decode prog_14_method_31_code 38 = .ok (.aload_n 0, 1) := by decide +kernel
theorem em224_39 : decode prog_14_method_31_code 39 = .ok (.getfield 46, 3) := by decide +kernel
theorem em224_42 : decode prog_14_method_31_code 42 = .ok (.iload_n 1, 1) := by decide +kernel
theorem em224_43 : decode prog_14_method_31_code 43 = .ok (.iload_n 3, 1) := by decide +kernel
theorem em224_44 : decode prog_14_method_31_code 44 = .ok (.iadd, 1) := by decide +kernel
theorem em224_45 : decode prog_14_method_31_code 45 = .ok (.iconst 0, 1) := by decide +kernel
theorem em224_46 : decode prog_14_method_31_code 46 = .ok (.iastore, 1) := by decide +kernel
theorem em224_47 : decode prog_14_method_31_code 47 = .ok (.iinc 3 1, 3) := by decide +kernel
theorem em224_50 : decode prog_14_method_31_code 50 = .ok (.goto (-18), 3) := by decide +kernel
theorem em224_53 : decode prog_14_method_31_code 53 = .ok (.iconst 0, 1) := by decide +kernel
theorem em224_54 : decode prog_14_method_31_code 54 = .ok (.istore_n 3, 1) := by decide +kernel
theorem em224_55 : decode prog_14_method_31_code 55 = .ok (.iload_n 3, 1) := by decide +kernel
theorem em224_56 : decode prog_14_method_31_code 56 = .ok (.aload_n 0, 1) := by decide +kernel
theorem em224_57 : decode prog_14_method_31_code 57 = .ok (.getfield 284, 3) := by decide +kernel
theorem em224_60 : decode prog_14_method_31_code 60 = .ok (.if_icmp .ge 26, 3) := by decide +kernel
theorem em224_63 : decode prog_14_method_31_code 63 = .ok (.aload_n 0, 1) := by decide +kernel
theorem em224_64 : decode prog_14_method_31_code 64 = .ok (.getfield 46, 3) := by decide +kernel
theorem em224_67 : decode prog_14_method_31_code 67 = .ok (.iload_n 1, 1) := by decide +kernel
theorem em224_68 : decode prog_14_method_31_code 68 = .ok (.aload_n 0, 1) := by decide +kernel
theorem em224_69 : decode prog_14_method_31_code 69 = .ok (.getfield 101, 3) := by decide +kernel
theorem em224_72 : decode prog_14_method_31_code 72 = .ok (.iload_n 3, 1) := by decide +kernel
theorem em224_73 : decode prog_14_method_31_code 73 = .ok (.iaload, 1) := by decide +kernel
theorem em224_74 : decode prog_14_method_31_code 74 = .ok (.iadd, 1) := by decide +kernel
theorem em224_75 : decode prog_14_method_31_code 75 = .ok (.dup2, 1) := by decide +kernel
theorem em224_76 : decode prog_14_method_31_code 76 = .ok (.iaload, 1) := by decide +kernel
theorem em224_77 : decode prog_14_method_31_code 77 = .ok (.iconst 1, 1) := by decide +kernel
theorem em224_78 : decode prog_14_method_31_code 78 = .ok (.iadd, 1) := by decide +kernel
theorem em224_79 : decode prog_14_method_31_code 79 = .ok (.iastore, 1) := by decide +kernel
theorem em224_80 : decode prog_14_method_31_code 80 = .ok (.iinc 3 1, 3) := by decide +kernel
theorem em224_83 : decode prog_14_method_31_code 83 = .ok (.goto (-28), 3) := by decide +kernel
theorem em224_86 : decode prog_14_method_31_code 86 = .ok (.aload_n 0, 1) := by decide +kernel
theorem em224_87 : decode prog_14_method_31_code 87 = .ok (.iload_n 2, 1) := by decide +kernel
theorem em224_88 : decode prog_14_method_31_code 88 = .ok (.invokevirtual 298, 3) := by decide +kernel
theorem em224_91 : decode prog_14_method_31_code 91 = .ok (.aload_n 0, 1) := by decide +kernel
theorem em224_92 : decode prog_14_method_31_code 92 = .ok (.getfield 200, 3) := by decide +kernel
theorem em224_95 : decode prog_14_method_31_code 95 = .ok (.ifCond .ne 16, 3) := by decide +kernel
theorem em224_98 : decode prog_14_method_31_code 98 = .ok (.aload_n 0, 1) := by decide +kernel
theorem em224_99 : decode prog_14_method_31_code 99 = .ok (.getfield 43, 3) := by decide +kernel
theorem em224_102 : decode prog_14_method_31_code 102 = .ok (.aload_n 0, 1) := by decide +kernel
theorem em224_103 : decode prog_14_method_31_code 103 = .ok (.getfield 233, 3) := by decide +kernel
theorem em224_106 : decode prog_14_method_31_code 106 = .ok (.dup2, 1) := by decide +kernel
theorem em224_107 : decode prog_14_method_31_code 107 = .ok (.iaload, 1) := by decide +kernel
theorem em224_108 : decode prog_14_method_31_code 108 = .ok (.iconst 1, 1) := by decide +kernel
theorem em224_109 : decode prog_14_method_31_code 109 = .ok (.iadd, 1) := by decide +kernel
theorem em224_110 : decode prog_14_method_31_code 110 = .ok (.iastore, 1) := by decide +kernel
theorem em224_111 : decode prog_14_method_31_code 111 = .ok (.return_, 1) := by decide +kernel
set_option maxRecDepth 10000 in
set_option maxHeartbeats 4000000 in
theorem th_86 {d : Nat} {I I27 : zI} {k tk l : Int32} (hd : 8 ≤ d + 1) (hS : pS I 100) (hG : pG I 0) (hlim : zv I 84 (zf I 23) ≤ 4) (hV2 : hvF I I27) (t3 : 0 ≤ zf I27 13) (t4 : 0 ≤ zf I27 12 ∧ zf I27 12 ≤ 400) (t5 : zf I27 13 = 0 → zf I 12 + 1 ≤ zf I27 12) (e15 : zf I27 15 = zf I 15) (htk : 0 ≤ tk.toInt ∧ tk.toInt ≤ 400) (hk : 0 ≤ k.toInt ∧ k.toInt ≤ 72) (t6 : 0 ≤ zf I27 19 ∧ zf I27 19 ≤ 8) (t8 : ∀ i : Nat, (i : Int) < zf I27 19 → 0 ≤ zv I27 103 (i : Int) ∧ zv I27 103 (i : Int) ≤ 7) : zAt zG0 PZ zbd zpre zpost (d, (zbd 256).1, (zbd 256).2) prog_14_method_31_code "CapitalCaseModel" (zRet prog_14_method_31_code none (zbd 256) (hpost 256 [.inr (.inl (some 75))] I)) 86 [some (.inr (.inl (some 75))), some (.inl k), some (.inl tk), some (.inl l)] [] I27 (0, 0) := by
  obtain ⟨-, -, -, h23, ⟨h22a, h22b⟩, -, -, h15a, h15b⟩ := id hS
  have g15 := hG.2.2.1
  have qE := (eE_of hS.1).1 (zf I 23).toNat (by omega)
  have q84 : 0 ≤ zv I 84 (zf I 23) ∧ zv I 84 (zf I 23) ≤ 5 := qE.1
  have q86 : 0 ≤ zv I 86 (zf I 23) ∧ zv I 86 (zf I 23) ≤ 7 := qE.2
  clear qE
  have hInvE := hvF_i hS.1 ⟨h22a, h22b⟩ hV2
  refine hA_aload (zs_aload_n em224_86) rfl ?_
  refine hA_iload (zs_iload_n em224_87) rfl ?_
  refine hA_callV (as := [.inl tk]) (rest := []) (B' := (0, 0)) (zs_invV (T := TX12) em224_88 zl_252 rfl wd_1577 wd_1579 wd_62 ((congrFun xo_12 298).trans rfl) xm_220) rfl ⟨_, rfl⟩ (Nat.le_of_ble_eq_true rfl) rfl ⟨Nat.zero_le _, Nat.zero_le _⟩ (hpre_of rfl (show hpr_252 d [.inr (.inl (some 75)), .inl tk] I27 from ⟨by show 5 ≤ d; omega, tk, rfl, ⟨⟨by omega, by omega⟩, by omega, ⟨by omega, fun h => by omega⟩, ⟨by omega, by omega⟩, hInvE⟩⟩)) (fun r88 I88 hp88 => ?_)
  replace hp88 : hpo_252 _ _ _ _ := hpost_of rfl hp88
  replace hp88 := hp88 tk rfl
  obtain ⟨rfl, -, u1, u3, u4, -, u5, u6, u7⟩ := hp88
  have hV3 := hvF_tr hV2 (hvF_en u1 u3 u4 u5)
  have e23b : zf I88 23 = zf I 23 := hvF_z hV3 (by decide) (by decide) (by decide) (by decide) (by decide)
  refine hA_aload (zs_aload_n em224_91) rfl ?_
  refine hA_getf0 (id := 13) (zs_getf (T := TX12) (M := 70) (ci := 12) (j := 27) em224_92 rfl inX12 (by decide) wd_1294 ((congrFun xo_12 200).trans rfl)) ⟨_, rfl, rfl⟩ (fun z92 hz92 => ?_)
  refine hA_if (zs_ifne em224_95 (t := 111) (by decide)) (fun (c95 : ¬ z92.toInt = 0) => ?_) (fun (c95 : ¬ ¬ z92.toInt = 0) => ?_)
  · refine hA_return ⟨rfl, em224_111⟩ ⟨Nat.le_refl _, Nat.le_refl _⟩ ?_
    intro he
    cases he
    exact ⟨rfl, hv_end0 hS hV3 ⟨by have h1 := u6; have h2 := u7; omega, by have h1 := u6; have h2 := u7; omega⟩ (by omega)⟩
  · refine hA_aload (zs_aload_n em224_98) rfl ?_
    refine hA_getf2 (r := 84) (zs_getf (T := TX12) (M := 70) (ci := 12) (j := 3) em224_99 rfl inX12 (by decide) wd_1303 ((congrFun xo_12 43).trans rfl)) ⟨_, rfl, rfl⟩ ?_
    refine hA_aload (zs_aload_n em224_102) rfl ?_
    refine hA_getf0 (id := 23) (zs_getf (T := TX12) (M := 70) (ci := 12) (j := 32) em224_103 rfl inX12 (by decide) wd_1300 ((congrFun xo_12 233).trans rfl)) ⟨_, rfl, rfl⟩ (fun z103 hz103 => ?_)
    refine hA_dup2 (zs_dup2 em224_106) rfl rfl ?_
    refine hA_iald (kd := 84) (len := 2) (zs_iald em224_107) ⟨rfl, rfl, rfl⟩ (by omega) (by show _ < ((2 : Nat) : Int); omega) (fun z107 hz107 => ?_)
    rw [hz103] at hz107
    refine hA_const (k := 1) (zs_iconst (v := 1) em224_108 (by decide +kernel)) (by decide +kernel) (fun z108 hz108 => ?_)
    rw [e23b] at hz107
    have hq84 : zv I88 84 (zf I 23) = zv I 84 (zf I 23) := by unfold zv; rw [hV3.2.1 84 _ (by omega) (by decide)]
    refine hA_add (zs_iadd em224_109) (by omega) (by omega) (fun z109 hz109 => ?_)
    refine hA_iast (kd := 84) (len := 2) (zs_iast zInj0 em224_110) ⟨rfl, rfl, rfl⟩ (by omega) (by show _ < ((2 : Nat) : Int); omega) ?_
    refine hA_return ⟨rfl, em224_111⟩ ⟨Nat.le_refl _, Nat.le_refl _⟩ ?_
    intro he
    cases he
    exact ⟨rfl, hv_end1 (kd := 84) hS hG hV3 (by decide) (by omega) (by omega) ⟨fun h => by first | omega | exact absurd h (by decide), fun h => by first | omega | exact absurd h (by decide)⟩ (by have h1 := u6 (by omega); omega) (by omega)⟩
set_option maxRecDepth 10000 in
set_option maxHeartbeats 4000000 in
theorem th_55 {d : Nat} {I I27 : zI} {k tk l : Int32} (hd : 8 ≤ d + 1) (hS : pS I 100) (hG : pG I 0) (hlim : zv I 84 (zf I 23) ≤ 4) (hV2 : hvF I I27) (t3 : 0 ≤ zf I27 13) (t4 : 0 ≤ zf I27 12 ∧ zf I27 12 ≤ 400) (t5 : zf I27 13 = 0 → zf I 12 + 1 ≤ zf I27 12) (e15 : zf I27 15 = zf I 15) (htk : 0 ≤ tk.toInt ∧ tk.toInt ≤ 400) (hk : 0 ≤ k.toInt ∧ k.toInt ≤ 72) (t6 : 0 ≤ zf I27 19 ∧ zf I27 19 ≤ 8) (t8 : ∀ i : Nat, (i : Int) < zf I27 19 → 0 ≤ zv I27 103 (i : Int) ∧ zv I27 103 (i : Int) ≤ 7) (hl : 0 ≤ l.toInt) : zAt zG0 PZ zbd zpre zpost (d, (zbd 256).1, (zbd 256).2) prog_14_method_31_code "CapitalCaseModel" (zRet prog_14_method_31_code none (zbd 256) (hpost 256 [.inr (.inl (some 75))] I)) 55 [some (.inr (.inl (some 75))), some (.inl k), some (.inl tk), some (.inl l)] [] I27 (0, 0) := by
  have loop : ∀ (n : Nat) (l : Int32) (hl : 0 ≤ l.toInt), (9 - l.toInt).toNat = n → zAt zG0 PZ zbd zpre zpost (d, (zbd 256).1, (zbd 256).2) prog_14_method_31_code "CapitalCaseModel" (zRet prog_14_method_31_code none (zbd 256) (hpost 256 [.inr (.inl (some 75))] I)) 55 [some (.inr (.inl (some 75))), some (.inl k), some (.inl tk), some (.inl l)] [] I27 (0, 0) := by
    intro n
    induction n using Nat.strongRecOn with
    | ind n ih =>
      intro l hl hn
      refine hA_iload (zs_iload_n em224_55) rfl ?_
      refine hA_aload (zs_aload_n em224_56) rfl ?_
      refine hA_getf0 (id := 19) (zs_getf (T := TX12) (M := 70) (ci := 12) (j := 53) em224_57 rfl inX12 (by decide) wd_1325 ((congrFun xo_12 284).trans rfl)) ⟨_, rfl, rfl⟩ (fun z57 hz57 => ?_)
      refine hA_icmp (zs_icmpge em224_60 (t := 86) (by decide)) (fun (c60 : z57.toInt ≤ l.toInt) => ?_) (fun (c60 : ¬ z57.toInt ≤ l.toInt) => ?_)
      · exact th_86 hd hS hG hlim hV2 t3 t4 t5 e15 htk hk t6 t8
      · refine hA_aload (zs_aload_n em224_63) rfl ?_
        refine hA_getf2 (r := 85) (zs_getf (T := TX12) (M := 70) (ci := 12) (j := 35) em224_64 rfl inX12 (by decide) wd_1304 ((congrFun xo_12 46).trans rfl)) ⟨_, rfl, rfl⟩ ?_
        refine hA_iload (zs_iload_n em224_67) rfl ?_
        refine hA_aload (zs_aload_n em224_68) rfl ?_
        refine hA_getf2 (r := 103) (zs_getf (T := TX12) (M := 70) (ci := 12) (j := 52) em224_69 rfl inX12 (by decide) wd_1324 ((congrFun xo_12 101).trans rfl)) ⟨_, rfl, rfl⟩ ?_
        refine hA_iload (zs_iload_n em224_72) rfl ?_
        refine hA_iald (kd := 103) (len := 8) (zs_iald em224_73) ⟨rfl, rfl, rfl⟩ (by omega) (by show _ < ((8 : Nat) : Int); omega) (fun z73 hz73 => ?_)
        have ht8 := t8 l.toInt.toNat (by omega)
        rw [show ((l.toInt.toNat : Nat) : Int) = l.toInt by omega] at ht8
        refine hA_add (zs_iadd em224_74) (by omega) (by omega) (fun z74 hz74 => ?_)
        refine hA_dup2 (zs_dup2 em224_75) rfl rfl ?_
        refine hA_ialdH (kd := 85) (len := 80) (zs_iald em224_76) ⟨rfl, rfl, rfl⟩ (by omega) (by show _ < ((80 : Nat) : Int); omega) (fun z76 hz76 => ?_)
        refine hA_const (k := 1) (zs_iconst (v := 1) em224_77 (by decide +kernel)) (by decide +kernel) (fun z77 hz77 => ?_)
        refine hA_bin (zs_iadd em224_78) (fun z78 => ?_)
        refine hA_iastH (kd := 85) (len := 80) (zs_iast zInj0 em224_79) ⟨rfl, rfl, rfl⟩ (by omega) (by show _ < ((80 : Nat) : Int); omega) (eno rfl) ?_
        refine hA_iinc (c := 1) (zs_iinc (k := 1) em224_80 (by decide +kernel)) (by decide +kernel) rfl ⟨Nat.le_of_ble_eq_true rfl, rfl⟩ (by omega) (by omega) (fun z80 hz80 => ?_)
        show zAt _ _ _ _ _ _ _ _ _ _ [some (.inr (.inl (some 75))), some (.inl k), some (.inl tk), some (.inl z80)] _ _ _
        refine hA_goto (zs_goto em224_83 (t := 55) (by decide)) ?_
        exact ih _ (by omega) z80 (by omega) rfl
  exact loop _ l hl rfl
set_option maxRecDepth 10000 in
set_option maxHeartbeats 4000000 in
theorem th_32 {d : Nat} {I I27 : zI} {k tk l : Int32} (hd : 8 ≤ d + 1) (hS : pS I 100) (hG : pG I 0) (hlim : zv I 84 (zf I 23) ≤ 4) (hV2 : hvF I I27) (t3 : 0 ≤ zf I27 13) (t4 : 0 ≤ zf I27 12 ∧ zf I27 12 ≤ 400) (t5 : zf I27 13 = 0 → zf I 12 + 1 ≤ zf I27 12) (e15 : zf I27 15 = zf I 15) (htk : 0 ≤ tk.toInt ∧ tk.toInt ≤ 400) (hk : 0 ≤ k.toInt ∧ k.toInt ≤ 72) (t6 : 0 ≤ zf I27 19 ∧ zf I27 19 ≤ 8) (t8 : ∀ i : Nat, (i : Int) < zf I27 19 → 0 ≤ zv I27 103 (i : Int) ∧ zv I27 103 (i : Int) ≤ 7) (hl : 0 ≤ l.toInt) : zAt zG0 PZ zbd zpre zpost (d, (zbd 256).1, (zbd 256).2) prog_14_method_31_code "CapitalCaseModel" (zRet prog_14_method_31_code none (zbd 256) (hpost 256 [.inr (.inl (some 75))] I)) 32 [some (.inr (.inl (some 75))), some (.inl k), some (.inl tk), some (.inl l)] [] I27 (0, 0) := by
  have loop : ∀ (n : Nat) (l : Int32) (hl : 0 ≤ l.toInt), (8 - l.toInt).toNat = n → zAt zG0 PZ zbd zpre zpost (d, (zbd 256).1, (zbd 256).2) prog_14_method_31_code "CapitalCaseModel" (zRet prog_14_method_31_code none (zbd 256) (hpost 256 [.inr (.inl (some 75))] I)) 32 [some (.inr (.inl (some 75))), some (.inl k), some (.inl tk), some (.inl l)] [] I27 (0, 0) := by
    intro n
    induction n using Nat.strongRecOn with
    | ind n ih =>
      intro l hl hn
      refine hA_iload (zs_iload_n em224_32) rfl ?_
      refine hA_const (k := 8) (zs_bipush (v := 8) em224_33 (by decide +kernel)) (by decide +kernel) (fun z33 hz33 => ?_)
      refine hA_icmp (zs_icmpge em224_35 (t := 53) (by decide)) (fun (c35 : z33.toInt ≤ l.toInt) => ?_) (fun (c35 : ¬ z33.toInt ≤ l.toInt) => ?_)
      · refine hA_const (k := 0) (zs_iconst (v := 0) em224_53 (by decide +kernel)) (by decide +kernel) (fun z53 hz53 => ?_)
        refine hA_istore (L' := [some (.inr (.inl (some 75))), some (.inl k), some (.inl tk), some (.inl z53)]) (zs_istore_n em224_54) ⟨Nat.le_of_ble_eq_true rfl, rfl⟩ rfl ?_
        exact th_55 hd hS hG hlim hV2 t3 t4 t5 e15 htk hk t6 t8 (by omega)
      · refine hA_aload (zs_aload_n em224_38) rfl ?_
        refine hA_getf2 (r := 85) (zs_getf (T := TX12) (M := 70) (ci := 12) (j := 35) em224_39 rfl inX12 (by decide) wd_1304 ((congrFun xo_12 46).trans rfl)) ⟨_, rfl, rfl⟩ ?_
        refine hA_iload (zs_iload_n em224_42) rfl ?_
        refine hA_iload (zs_iload_n em224_43) rfl ?_
        refine hA_add (zs_iadd em224_44) (by omega) (by omega) (fun z44 hz44 => ?_)
        refine hA_const (k := 0) (zs_iconst (v := 0) em224_45 (by decide +kernel)) (by decide +kernel) (fun z45 hz45 => ?_)
        refine hA_iastH (kd := 85) (len := 80) (zs_iast zInj0 em224_46) ⟨rfl, rfl, rfl⟩ (by omega) (by show _ < ((80 : Nat) : Int); omega) (eno rfl) ?_
        refine hA_iinc (c := 1) (zs_iinc (k := 1) em224_47 (by decide +kernel)) (by decide +kernel) rfl ⟨Nat.le_of_ble_eq_true rfl, rfl⟩ (by omega) (by omega) (fun z47 hz47 => ?_)
        show zAt _ _ _ _ _ _ _ _ _ _ [some (.inr (.inl (some 75))), some (.inl k), some (.inl tk), some (.inl z47)] _ _ _
        refine hA_goto (zs_goto em224_50 (t := 32) (by decide)) ?_
        exact ih _ (by omega) z47 (by omega) rfl
  exact loop _ l hl rfl
set_option maxRecDepth 10000 in
set_option maxHeartbeats 4000000 in
theorem hM_256 : zOKx 256 := by
  intro d hc as I q h hq
  have h : hpr_256 (d + 1) as I := h
  obtain ⟨hd, rfl, hpre⟩ := h
  cases (show some _ = some q from hq)
  obtain ⟨hS, h13, hG, hlim⟩ := hpre
  obtain ⟨-, ⟨h12a, h12b⟩, h13a, h23, ⟨h22a, h22b⟩, ⟨h17a, h17b⟩, ⟨h16a, h16b⟩, h15a, h15b⟩ := id hS
  have g15 := hG.2.2.1
  have qE := (eE_of hS.1).1 (zf I 23).toNat (by omega)
  have q84 : 0 ≤ zv I 84 (zf I 23) ∧ zv I 84 (zf I 23) ≤ 5 := qE.1
  have q86 : 0 ≤ zv I 86 (zf I 23) ∧ zv I 86 (zf I 23) ≤ 7 := qE.2
  clear qE
  refine hmet (L := [some (.inr (.inl (some 75))), none, none, none]) (by decide) (Nat.le_of_ble_eq_true rfl) hc rfl ?_
  refine hA_const (k := 40) (zs_bipush (v := 40) em224_0 (by decide +kernel)) (by decide +kernel) (fun z0 hz0 => ?_)
  refine hA_aload (zs_aload_n em224_2) rfl ?_
  refine hA_getf0 (id := 23) (zs_getf (T := TX12) (M := 70) (ci := 12) (j := 32) em224_3 rfl inX12 (by decide) wd_1300 ((congrFun xo_12 233).trans rfl)) ⟨_, rfl, rfl⟩ (fun z3 hz3 => ?_)
  refine hA_mull (c := 40) (zs_imul em224_6) hz0 (by omega) (by omega) (fun z6 hz6 => ?_)
  refine hA_const (k := 8) (zs_bipush (v := 8) em224_7 (by decide +kernel)) (by decide +kernel) (fun z7 hz7 => ?_)
  refine hA_aload (zs_aload_n em224_9) rfl ?_
  refine hA_getf2 (r := 84) (zs_getf (T := TX12) (M := 70) (ci := 12) (j := 3) em224_10 rfl inX12 (by decide) wd_1303 ((congrFun xo_12 43).trans rfl)) ⟨_, rfl, rfl⟩ ?_
  refine hA_aload (zs_aload_n em224_13) rfl ?_
  refine hA_getf0 (id := 23) (zs_getf (T := TX12) (M := 70) (ci := 12) (j := 32) em224_14 rfl inX12 (by decide) wd_1300 ((congrFun xo_12 233).trans rfl)) ⟨_, rfl, rfl⟩ (fun z14 hz14 => ?_)
  refine hA_iald (kd := 84) (len := 2) (zs_iald em224_17) ⟨rfl, rfl, rfl⟩ (by omega) (by show _ < ((2 : Nat) : Int); omega) (fun z17 hz17 => ?_)
  rw [hz14] at hz17
  refine hA_mull (c := 8) (zs_imul em224_18) hz7 (by omega) (by omega) (fun z18 hz18 => ?_)
  refine hA_add (zs_iadd em224_19) (by omega) (by omega) (fun z19 hz19 => ?_)
  refine hA_istore (L' := [some (.inr (.inl (some 75))), some (.inl z19), none, none]) (zs_istore_n em224_20) ⟨Nat.le_of_ble_eq_true rfl, rfl⟩ rfl ?_
  refine hA_aload (zs_aload_n em224_21) rfl ?_
  refine hA_callV (as := []) (rest := []) (B' := (0, 0)) (zs_invV (T := TX12) em224_22 zl_281 rfl wd_1555 wd_1557 wd_58 ((congrFun xo_12 291).trans rfl) xm_170) rfl ⟨_, rfl⟩ (Nat.le_of_ble_eq_true rfl) rfl ⟨Nat.zero_le _, Nat.zero_le _⟩ (hpre_of rfl (show hpr_281 d [.inr (.inl (some 75))] I from ⟨by show 5 ≤ d; omega, rfl, ⟨⟨h12a, h12b⟩, h13a, ⟨h15a, h15b⟩, hS.1⟩⟩)) (fun r22 I22 hp22 => ?_)
  replace hp22 : hpo_281 _ _ _ _ := hpost_of rfl hp22
  replace hp22 := hp22 rfl
  obtain ⟨x22, rfl, hx22, hInv22, hNx⟩ := hp22
  have hN1 : nF I I22 := hNx
  have hV1 := hvF_n hN1
  have n12 := hN1.2.2.1
  have n13 := hN1.2.1
  have nz := hN1.2.2.2.2
  clear hNx
  refine hA_istore (L' := [some (.inr (.inl (some 75))), some (.inl z19), some (.inl x22), none]) (zs_istore_n em224_25) ⟨Nat.le_of_ble_eq_true rfl, rfl⟩ rfl ?_
  refine hA_aload (zs_aload_n em224_26) rfl ?_
  refine hA_callV (as := []) (rest := []) (B' := (0, 0)) (zs_invV (T := TX12) em224_27 zl_253 rfl wd_1567 wd_1569 wd_61 ((congrFun xo_12 295).trans rfl) xm_221) rfl ⟨_, rfl⟩ (Nat.le_of_ble_eq_true rfl) rfl ⟨Nat.zero_le _, Nat.zero_le _⟩ (hpre_of rfl (show hpr_253 d [.inr (.inl (some 75))] I22 from ⟨by show 5 ≤ d; omega, rfl, ⟨⟨by omega, by omega⟩, by omega, hInv22⟩⟩)) (fun r27 I27 hp27 => ?_)
  replace hp27 : hpo_253 _ _ _ _ := hpost_of rfl hp27
  replace hp27 := hp27 rfl
  obtain ⟨rfl, t1, t2, t3, t4, -, t5, ⟨t6, t7⟩, t8⟩ := hp27
  have hV2 := hvF_tr hV1 (hvF_tk t1 t2 t3 t4 t5)
  have e15 : zf I27 15 = zf I 15 := by unfold zf; rw [t1 15 (by decide) (by decide) (by decide) (by decide), hN1.1 15 (by decide) (by decide)]
  refine hA_const (k := 0) (zs_iconst (v := 0) em224_30 (by decide +kernel)) (by decide +kernel) (fun z30 hz30 => ?_)
  refine hA_istore (L' := [some (.inr (.inl (some 75))), some (.inl z19), some (.inl x22), some (.inl z30)]) (zs_istore_n em224_31) ⟨Nat.le_of_ble_eq_true rfl, rfl⟩ rfl ?_
  exact th_32 hd hS hG hlim hV2 t3 ⟨by omega, t4.2⟩ (fun h => by have h1 := t5 h; have h2 := nz h1.1; omega) e15 ⟨by omega, by omega⟩ ⟨by omega, by omega⟩ ⟨t6, t7⟩ t8 (by omega)
theorem em225_0 : decode prog_14_method_32_code 0 = .ok (.bipush 7, 2) := by decide +kernel
theorem em225_2 : decode prog_14_method_32_code 2 = .ok (.aload_n 0, 1) := by decide +kernel
theorem em225_3 : decode prog_14_method_32_code 3 = .ok (.getfield 233, 3) := by decide +kernel
theorem em225_6 : decode prog_14_method_32_code 6 = .ok (.imul, 1) := by decide +kernel
theorem em225_7 : decode prog_14_method_32_code 7 = .ok (.aload_n 0, 1) := by decide +kernel
theorem em225_8 : decode prog_14_method_32_code 8 = .ok (.getfield 49, 3) := by decide +kernel
theorem em225_11 : decode prog_14_method_32_code 11 = .ok (.aload_n 0, 1) := by decide +kernel
theorem em225_12 : decode prog_14_method_32_code 12 = .ok (.getfield 233, 3) := by decide +kernel
theorem em225_15 : decode prog_14_method_32_code 15 = .ok (.iaload, 1) := by decide +kernel
theorem em225_16 : decode prog_14_method_32_code 16 = .ok (.iadd, 1) := by decide +kernel
theorem em225_17 : decode prog_14_method_32_code 17 = .ok (.istore_n 1, 1) := by decide +kernel
theorem em225_18 : decode prog_14_method_32_code 18 = .ok (.aload_n 0, 1) := by decide +kernel
theorem em225_19 : decode prog_14_method_32_code 19 = .ok (.invokevirtual 291, 3) := by decide +kernel
theorem em225_22 : decode prog_14_method_32_code 22 = .ok (.istore_n 2, 1) := by decide +kernel
theorem em225_23 : decode prog_14_method_32_code 23 = .ok (.aload_n 0, 1) := by decide +kernel
theorem em225_24 : decode prog_14_method_32_code 24 = .ok (.invokevirtual 295, 3) := by decide +kernel
theorem em225_27 : decode prog_14_method_32_code 27 = .ok (.aload_n 0, 1) := by decide +kernel
theorem em225_28 : decode prog_14_method_32_code 28 = .ok (.getfield 52, 3) := by decide +kernel
theorem em225_31 : decode prog_14_method_32_code 31 = .ok (.iload_n 1, 1) := by decide +kernel
theorem em225_32 : decode prog_14_method_32_code 32 = .ok (.aload_n 0, 1) := by decide +kernel
theorem em225_33 : decode prog_14_method_32_code 33 = .ok (.getfield 284, 3) := by decide +kernel
theorem em225_36 : decode prog_14_method_32_code 36 = .ok (.iastore, 1) := by decide +kernel
theorem em225_37 : decode prog_14_method_32_code 37 = .ok (.iconst 0, 1) := by decide +kernel
theorem em225_38 : decode prog_14_method_32_code 38 = .ok (.istore_n 3, 1) := by decide +kernel
theorem em225_39 : decode prog_14_method_32_code 39 = .ok (.iload_n 3, 1) := by decide +kernel
theorem em225_40 : decode prog_14_method_32_code 40 = .ok (.aload_n 0, 1) := by decide +kernel
theorem em225_41 : decode prog_14_method_32_code 41 = .ok (.getfield 284, 3) := by decide +kernel
theorem em225_44 : decode prog_14_method_32_code 44 = .ok (.if_icmp .ge 26, 3) := by decide +kernel
theorem em225_47 : decode prog_14_method_32_code 47 = .ok (.aload_n 0, 1) := by decide +kernel
theorem em225_48 : decode prog_14_method_32_code 48 = .ok (.getfield 55, 3) := by decide +kernel
theorem em225_51 : decode prog_14_method_32_code 51 = .ok (.bipush 8, 2) := by decide +kernel
theorem em225_53 : decode prog_14_method_32_code 53 = .ok (.iload_n 1, 1) := by decide +kernel
theorem em225_54 : decode prog_14_method_32_code 54 = .ok (.imul, 1) := by decide +kernel
theorem em225_55 : decode prog_14_method_32_code 55 = .ok (.iload_n 3, 1) := by decide +kernel
theorem em225_56 : decode prog_14_method_32_code 56 = .ok (.iadd, 1) := by decide +kernel
theorem em225_57 : decode prog_14_method_32_code 57 = .ok (.aload_n 0, 1) := by decide +kernel
theorem em225_58 : decode prog_14_method_32_code 58 = .ok (.getfield 101, 3) := by decide +kernel
theorem em225_61 : decode prog_14_method_32_code 61 = .ok (.iload_n 3, 1) := by decide +kernel
theorem em225_62 : decode prog_14_method_32_code 62 = .ok (.iaload, 1) := by decide +kernel
theorem em225_63 : decode prog_14_method_32_code 63 = .ok (.iastore, 1) := by decide +kernel
theorem em225_64 : decode prog_14_method_32_code 64 = .ok (.iinc 3 1, 3) := by decide +kernel
theorem em225_67 : decode prog_14_method_32_code 67 = .ok (.goto (-28), 3) := by decide +kernel
theorem em225_70 : decode prog_14_method_32_code 70 = .ok (.aload_n 0, 1) := by decide +kernel
theorem em225_71 : decode prog_14_method_32_code 71 = .ok (.getfield 58, 3) := by decide +kernel
theorem em225_74 : decode prog_14_method_32_code 74 = .ok (.iload_n 1, 1) := by decide +kernel
theorem em225_75 : decode prog_14_method_32_code 75 = .ok (.aload_n 0, 1) := by decide +kernel
theorem em225_76 : decode prog_14_method_32_code 76 = .ok (.iconst 0, 1) := by decide +kernel
theorem em225_77 : decode prog_14_method_32_code 77 = .ok (.bipush 99, 2) := by decide +kernel
theorem em225_79 : decode prog_14_method_32_code 79 = .ok (.invokevirtual 254, 3) := by decide +kernel
theorem em225_82 : decode prog_14_method_32_code 82 = .ok (.iastore, 1) := by decide +kernel
theorem em225_83 : decode prog_14_method_32_code 83 = .ok (.aload_n 0, 1) := by decide +kernel
theorem em225_84 : decode prog_14_method_32_code 84 = .ok (.getfield 61, 3) := by decide +kernel
theorem em225_87 : decode prog_14_method_32_code 87 = .ok (.iload_n 1, 1) := by decide +kernel
theorem em225_88 : decode prog_14_method_32_code 88 = .ok (.aload_n 0, 1) := by decide +kernel
theorem em225_89 : decode prog_14_method_32_code 89 = .ok (.iconst 0, 1) := by decide +kernel
theorem em225_90 : decode prog_14_method_32_code 90 = .ok (.bipush 99, 2) := by decide +kernel
theorem em225_92 : decode prog_14_method_32_code 92 = .ok (.invokevirtual 254, 3) := by decide +kernel
theorem em225_95 : decode prog_14_method_32_code 95 = .ok (.iastore, 1) := by decide +kernel
theorem em225_96 : decode prog_14_method_32_code 96 = .ok (.aload_n 0, 1) := by decide +kernel
theorem em225_97 : decode prog_14_method_32_code 97 = .ok (.iload_n 2, 1) := by decide +kernel
theorem em225_98 : decode prog_14_method_32_code 98 = .ok (.invokevirtual 298, 3) := by decide +kernel
theorem em225_101 : decode prog_14_method_32_code 101 = .ok (.aload_n 0, 1) := by decide +kernel
theorem em225_102 : decode prog_14_method_32_code 102 = .ok (.getfield 200, 3) := by decide +kernel
theorem em225_105 : decode prog_14_method_32_code 105 = .ok (.ifCond .ne 16, 3) := by decide +kernel
theorem em225_108 : decode prog_14_method_32_code 108 = .ok (.aload_n 0, 1) := by decide +kernel
theorem em225_109 : decode prog_14_method_32_code 109 = .ok (.getfield 49, 3) := by decide +kernel
theorem em225_112 : decode prog_14_method_32_code 112 = .ok (.aload_n 0, 1) := by decide +kernel
theorem em225_113 : decode prog_14_method_32_code 113 = .ok (.getfield 233, 3) := by decide +kernel
theorem em225_116 : decode prog_14_method_32_code 116 = .ok (.dup2, 1) := by decide +kernel
theorem em225_117 : decode prog_14_method_32_code 117 = .ok (.iaload, 1) := by decide +kernel
theorem em225_118 : decode prog_14_method_32_code 118 = .ok (.iconst 1, 1) := by decide +kernel
theorem em225_119 : decode prog_14_method_32_code 119 = .ok (.iadd, 1) := by decide +kernel
theorem em225_120 : decode prog_14_method_32_code 120 = .ok (.iastore, 1) := by decide +kernel
theorem em225_121 : decode prog_14_method_32_code 121 = .ok (.return_, 1) := by decide +kernel
set_option maxRecDepth 10000 in
set_option maxHeartbeats 4000000 in
theorem tv_70 {d : Nat} {I I24 : zI} {k tk l : Int32} (hd : 8 ≤ d + 1) (hS : pS I 100) (hG : pG I 0) (hlim : zv I 86 (zf I 23) ≤ 6) (hV2 : hvF I I24) (t3 : 0 ≤ zf I24 13) (t4 : 0 ≤ zf I24 12 ∧ zf I24 12 ≤ 400) (t5 : zf I24 13 = 0 → zf I 12 + 1 ≤ zf I24 12) (e15 : zf I24 15 = zf I 15) (htk : 0 ≤ tk.toInt ∧ tk.toInt ≤ 400) (hk : 0 ≤ k.toInt ∧ k.toInt ≤ 13) (t6 : 0 ≤ zf I24 19 ∧ zf I24 19 ≤ 8) (t8 : ∀ i : Nat, (i : Int) < zf I24 19 → 0 ≤ zv I24 103 (i : Int) ∧ zv I24 103 (i : Int) ≤ 7) : zAt zG0 PZ zbd zpre zpost (d, (zbd 257).1, (zbd 257).2) prog_14_method_32_code "CapitalCaseModel" (zRet prog_14_method_32_code none (zbd 257) (hpost 257 [.inr (.inl (some 75))] I)) 70 [some (.inr (.inl (some 75))), some (.inl k), some (.inl tk), some (.inl l)] [] I24 (0, 0) := by
  obtain ⟨-, -, -, h23, ⟨h22a, h22b⟩, -, -, h15a, h15b⟩ := id hS
  have g15 := hG.2.2.1
  have qE := (eE_of hS.1).1 (zf I 23).toNat (by omega)
  have q84 : 0 ≤ zv I 84 (zf I 23) ∧ zv I 84 (zf I 23) ≤ 5 := qE.1
  have q86 : 0 ≤ zv I 86 (zf I 23) ∧ zv I 86 (zf I 23) ≤ 7 := qE.2
  clear qE
  have hInvE0 := hvF_i hS.1 ⟨h22a, h22b⟩ hV2
  refine hA_aload (zs_aload_n em225_70) rfl ?_
  refine hA_getf2 (r := 89) (zs_getf (T := TX12) (M := 70) (ci := 12) (j := 38) em225_71 rfl inX12 (by decide) wd_1308 ((congrFun xo_12 58).trans rfl)) ⟨_, rfl, rfl⟩ ?_
  refine hA_iload (zs_iload_n em225_74) rfl ?_
  refine hA_aload (zs_aload_n em225_75) rfl ?_
  refine hA_const (k := 0) (zs_iconst (v := 0) em225_76 (by decide +kernel)) (by decide +kernel) (fun z76 hz76 => ?_)
  refine hA_const (k := 99) (zs_bipush (v := 99) em225_77 (by decide +kernel)) (by decide +kernel) (fun z77 hz77 => ?_)
  refine hA_callV (as := [.inl z76, .inl z77]) (rest := [.inl k, .inr (.inl (some 89))]) (B' := (0, 0)) (zs_invV (T := TX12) em225_79 zl_131 rfl wd_1585 wd_1587 wd_64 ((congrFun xo_12 254).trans rfl) xm_124) rfl ⟨_, rfl⟩ (Nat.le_of_ble_eq_true rfl) rfl ⟨Nat.zero_le _, Nat.zero_le _⟩ (zpre_of zh_131 ⟨(by show 3 ≤ d; omega), ⟨_, _, rfl, rfl, ⟨_, _, rfl, ⟨_, rfl, an_lo _, an_hi _⟩, ⟨_, _, rfl, ⟨_, rfl, an_lo _, an_hi _⟩, rfl⟩⟩⟩, (hF_cons (lo := 0) (hi := 400) ⟨by omega, by omega⟩ (hF_cons (lo := 0) (hi := 2147483647) ⟨by omega, by exact an_hi _⟩ hF_nil)), fun _ => hInvE0⟩) (fun r79 I79 hp79 => ?_)
  obtain ⟨x79, rfl, hN79, hInv79⟩ := bnd_q (by omega) (zpost_of zh_131 hp79)
  have hN791 := hN79.2.1
  have hN792 := hN79.2.2.1
  have hN793 := hN79.2.2.2.1
  have hN794 := hN79.2.2.2.2
  refine hA_iastH (kd := 89) (len := 14) (zs_iast zInj0 em225_82) ⟨rfl, rfl, rfl⟩ (by omega) (by show _ < ((14 : Nat) : Int); omega) (eno rfl) ?_
  refine hA_aload (zs_aload_n em225_83) rfl ?_
  refine hA_getf2 (r := 90) (zs_getf (T := TX12) (M := 70) (ci := 12) (j := 39) em225_84 rfl inX12 (by decide) wd_1309 ((congrFun xo_12 61).trans rfl)) ⟨_, rfl, rfl⟩ ?_
  refine hA_iload (zs_iload_n em225_87) rfl ?_
  refine hA_aload (zs_aload_n em225_88) rfl ?_
  refine hA_const (k := 0) (zs_iconst (v := 0) em225_89 (by decide +kernel)) (by decide +kernel) (fun z89 hz89 => ?_)
  refine hA_const (k := 99) (zs_bipush (v := 99) em225_90 (by decide +kernel)) (by decide +kernel) (fun z90 hz90 => ?_)
  refine hA_callV (as := [.inl z89, .inl z90]) (rest := [.inl k, .inr (.inl (some 90))]) (B' := (0, 0)) (zs_invV (T := TX12) em225_92 zl_131 rfl wd_1585 wd_1587 wd_64 ((congrFun xo_12 254).trans rfl) xm_124) rfl ⟨_, rfl⟩ (Nat.le_of_ble_eq_true rfl) rfl ⟨Nat.zero_le _, Nat.zero_le _⟩ (zpre_of zh_131 ⟨(by show 3 ≤ d; omega), ⟨_, _, rfl, rfl, ⟨_, _, rfl, ⟨_, rfl, an_lo _, an_hi _⟩, ⟨_, _, rfl, ⟨_, rfl, an_lo _, an_hi _⟩, rfl⟩⟩⟩, (hF_cons (lo := 0) (hi := 400) ⟨by omega, by omega⟩ (hF_cons (lo := 0) (hi := 2147483647) ⟨by omega, by exact an_hi _⟩ hF_nil)), fun _ => hInv79⟩) (fun r92 I92 hp92 => ?_)
  obtain ⟨x92, rfl, hN92, hInv92⟩ := bnd_q (by omega) (zpost_of zh_131 hp92)
  have hN921 := hN92.2.1
  have hN922 := hN92.2.2.1
  have hN923 := hN92.2.2.2.1
  have hN924 := hN92.2.2.2.2
  have hV4 := hvF_tr hV2 (hvF_tr (hvF_n hN79) (hvF_n hN92))
  have e15b : zf I92 15 = zf I 15 := by rw [zf_nF hN92 (by decide) (by decide), zf_nF hN79 (by decide) (by decide)]; exact e15
  have hInvE := hInv92
  refine hA_iastH (kd := 90) (len := 14) (zs_iast zInj0 em225_95) ⟨rfl, rfl, rfl⟩ (by omega) (by show _ < ((14 : Nat) : Int); omega) (eno rfl) ?_
  refine hA_aload (zs_aload_n em225_96) rfl ?_
  refine hA_iload (zs_iload_n em225_97) rfl ?_
  refine hA_callV (as := [.inl tk]) (rest := []) (B' := (0, 0)) (zs_invV (T := TX12) em225_98 zl_252 rfl wd_1577 wd_1579 wd_62 ((congrFun xo_12 298).trans rfl) xm_220) rfl ⟨_, rfl⟩ (Nat.le_of_ble_eq_true rfl) rfl ⟨Nat.zero_le _, Nat.zero_le _⟩ (hpre_of rfl (show hpr_252 d [.inr (.inl (some 75)), .inl tk] I92 from ⟨by show 5 ≤ d; omega, tk, rfl, ⟨⟨by omega, by omega⟩, by omega, ⟨by omega, fun h => by omega⟩, ⟨by omega, by omega⟩, hInvE⟩⟩)) (fun r98 I98 hp98 => ?_)
  replace hp98 : hpo_252 _ _ _ _ := hpost_of rfl hp98
  replace hp98 := hp98 tk rfl
  obtain ⟨rfl, -, u1, u3, u4, -, u5, u6, u7⟩ := hp98
  have hV3 := hvF_tr hV4 (hvF_en u1 u3 u4 u5)
  have e23b : zf I98 23 = zf I 23 := hvF_z hV3 (by decide) (by decide) (by decide) (by decide) (by decide)
  refine hA_aload (zs_aload_n em225_101) rfl ?_
  refine hA_getf0 (id := 13) (zs_getf (T := TX12) (M := 70) (ci := 12) (j := 27) em225_102 rfl inX12 (by decide) wd_1294 ((congrFun xo_12 200).trans rfl)) ⟨_, rfl, rfl⟩ (fun z102 hz102 => ?_)
  refine hA_if (zs_ifne em225_105 (t := 121) (by decide)) (fun (c105 : ¬ z102.toInt = 0) => ?_) (fun (c105 : ¬ ¬ z102.toInt = 0) => ?_)
  · refine hA_return ⟨rfl, em225_121⟩ ⟨Nat.le_refl _, Nat.le_refl _⟩ ?_
    intro he
    cases he
    exact ⟨rfl, hv_end0 hS hV3 ⟨by have h1 := u6; have h2 := u7; omega, by have h1 := u6; have h2 := u7; omega⟩ (by omega)⟩
  · refine hA_aload (zs_aload_n em225_108) rfl ?_
    refine hA_getf2 (r := 86) (zs_getf (T := TX12) (M := 70) (ci := 12) (j := 4) em225_109 rfl inX12 (by decide) wd_1305 ((congrFun xo_12 49).trans rfl)) ⟨_, rfl, rfl⟩ ?_
    refine hA_aload (zs_aload_n em225_112) rfl ?_
    refine hA_getf0 (id := 23) (zs_getf (T := TX12) (M := 70) (ci := 12) (j := 32) em225_113 rfl inX12 (by decide) wd_1300 ((congrFun xo_12 233).trans rfl)) ⟨_, rfl, rfl⟩ (fun z113 hz113 => ?_)
    refine hA_dup2 (zs_dup2 em225_116) rfl rfl ?_
    refine hA_iald (kd := 86) (len := 2) (zs_iald em225_117) ⟨rfl, rfl, rfl⟩ (by omega) (by show _ < ((2 : Nat) : Int); omega) (fun z117 hz117 => ?_)
    rw [hz113] at hz117
    refine hA_const (k := 1) (zs_iconst (v := 1) em225_118 (by decide +kernel)) (by decide +kernel) (fun z118 hz118 => ?_)
    rw [e23b] at hz117
    have hq86 : zv I98 86 (zf I 23) = zv I 86 (zf I 23) := by unfold zv; rw [hV3.2.1 86 _ (by omega) (by decide)]
    refine hA_add (zs_iadd em225_119) (by omega) (by omega) (fun z119 hz119 => ?_)
    refine hA_iast (kd := 86) (len := 2) (zs_iast zInj0 em225_120) ⟨rfl, rfl, rfl⟩ (by omega) (by show _ < ((2 : Nat) : Int); omega) ?_
    refine hA_return ⟨rfl, em225_121⟩ ⟨Nat.le_refl _, Nat.le_refl _⟩ ?_
    intro he
    cases he
    exact ⟨rfl, hv_end1 (kd := 86) hS hG hV3 (by decide) (by omega) (by omega) ⟨fun h => by first | omega | exact absurd h (by decide), fun h => by first | omega | exact absurd h (by decide)⟩ (by have h1 := u6 (by omega); omega) (by omega)⟩
set_option maxRecDepth 10000 in
set_option maxHeartbeats 4000000 in
theorem tv_39 {d : Nat} {I I24 : zI} {k tk l : Int32} (hd : 8 ≤ d + 1) (hS : pS I 100) (hG : pG I 0) (hlim : zv I 86 (zf I 23) ≤ 6) (hV2 : hvF I I24) (t3 : 0 ≤ zf I24 13) (t4 : 0 ≤ zf I24 12 ∧ zf I24 12 ≤ 400) (t5 : zf I24 13 = 0 → zf I 12 + 1 ≤ zf I24 12) (e15 : zf I24 15 = zf I 15) (htk : 0 ≤ tk.toInt ∧ tk.toInt ≤ 400) (hk : 0 ≤ k.toInt ∧ k.toInt ≤ 13) (t6 : 0 ≤ zf I24 19 ∧ zf I24 19 ≤ 8) (t8 : ∀ i : Nat, (i : Int) < zf I24 19 → 0 ≤ zv I24 103 (i : Int) ∧ zv I24 103 (i : Int) ≤ 7) (hl : 0 ≤ l.toInt) : zAt zG0 PZ zbd zpre zpost (d, (zbd 257).1, (zbd 257).2) prog_14_method_32_code "CapitalCaseModel" (zRet prog_14_method_32_code none (zbd 257) (hpost 257 [.inr (.inl (some 75))] I)) 39 [some (.inr (.inl (some 75))), some (.inl k), some (.inl tk), some (.inl l)] [] I24 (0, 0) := by
  have loop : ∀ (n : Nat) (l : Int32) (hl : 0 ≤ l.toInt), (9 - l.toInt).toNat = n → zAt zG0 PZ zbd zpre zpost (d, (zbd 257).1, (zbd 257).2) prog_14_method_32_code "CapitalCaseModel" (zRet prog_14_method_32_code none (zbd 257) (hpost 257 [.inr (.inl (some 75))] I)) 39 [some (.inr (.inl (some 75))), some (.inl k), some (.inl tk), some (.inl l)] [] I24 (0, 0) := by
    intro n
    induction n using Nat.strongRecOn with
    | ind n ih =>
      intro l hl hn
      refine hA_iload (zs_iload_n em225_39) rfl ?_
      refine hA_aload (zs_aload_n em225_40) rfl ?_
      refine hA_getf0 (id := 19) (zs_getf (T := TX12) (M := 70) (ci := 12) (j := 53) em225_41 rfl inX12 (by decide) wd_1325 ((congrFun xo_12 284).trans rfl)) ⟨_, rfl, rfl⟩ (fun z41 hz41 => ?_)
      refine hA_icmp (zs_icmpge em225_44 (t := 70) (by decide)) (fun (c44 : z41.toInt ≤ l.toInt) => ?_) (fun (c44 : ¬ z41.toInt ≤ l.toInt) => ?_)
      · exact tv_70 hd hS hG hlim hV2 t3 t4 t5 e15 htk hk t6 t8
      · refine hA_aload (zs_aload_n em225_47) rfl ?_
        refine hA_getf2 (r := 88) (zs_getf (T := TX12) (M := 70) (ci := 12) (j := 37) em225_48 rfl inX12 (by decide) wd_1307 ((congrFun xo_12 55).trans rfl)) ⟨_, rfl, rfl⟩ ?_
        refine hA_const (k := 8) (zs_bipush (v := 8) em225_51 (by decide +kernel)) (by decide +kernel) (fun z51 hz51 => ?_)
        refine hA_iload (zs_iload_n em225_53) rfl ?_
        refine hA_mull (c := 8) (zs_imul em225_54) hz51 (by omega) (by omega) (fun z54 hz54 => ?_)
        refine hA_iload (zs_iload_n em225_55) rfl ?_
        refine hA_add (zs_iadd em225_56) (by omega) (by omega) (fun z56 hz56 => ?_)
        refine hA_aload (zs_aload_n em225_57) rfl ?_
        refine hA_getf2 (r := 103) (zs_getf (T := TX12) (M := 70) (ci := 12) (j := 52) em225_58 rfl inX12 (by decide) wd_1324 ((congrFun xo_12 101).trans rfl)) ⟨_, rfl, rfl⟩ ?_
        refine hA_iload (zs_iload_n em225_61) rfl ?_
        refine hA_iald (kd := 103) (len := 8) (zs_iald em225_62) ⟨rfl, rfl, rfl⟩ (by omega) (by show _ < ((8 : Nat) : Int); omega) (fun z62 hz62 => ?_)
        have ht8 := t8 l.toInt.toNat (by omega)
        rw [show ((l.toInt.toNat : Nat) : Int) = l.toInt by omega] at ht8
        refine hA_iastH (kd := 88) (len := 112) (zs_iast zInj0 em225_63) ⟨rfl, rfl, rfl⟩ (by omega) (by show _ < ((112 : Nat) : Int); omega) (eal rfl (by show (0 : Int) ≤ _; omega) (by show _ ≤ (7 : Int); omega)) ?_
        refine hA_iinc (c := 1) (zs_iinc (k := 1) em225_64 (by decide +kernel)) (by decide +kernel) rfl ⟨Nat.le_of_ble_eq_true rfl, rfl⟩ (by omega) (by omega) (fun z64 hz64 => ?_)
        show zAt _ _ _ _ _ _ _ _ _ _ [some (.inr (.inl (some 75))), some (.inl k), some (.inl tk), some (.inl z64)] _ _ _
        refine hA_goto (zs_goto em225_67 (t := 39) (by decide)) ?_
        exact ih _ (by omega) z64 (by omega) rfl
  exact loop _ l hl rfl
set_option maxRecDepth 10000 in
set_option maxHeartbeats 4000000 in
theorem hM_257 : zOKx 257 := by
  intro d hc as I q h hq
  have h : hpr_257 (d + 1) as I := h
  obtain ⟨hd, rfl, hpre⟩ := h
  cases (show some _ = some q from hq)
  obtain ⟨hS, h13, hG, hlim⟩ := hpre
  obtain ⟨-, ⟨h12a, h12b⟩, h13a, h23, ⟨h22a, h22b⟩, ⟨h17a, h17b⟩, ⟨h16a, h16b⟩, h15a, h15b⟩ := id hS
  have g15 := hG.2.2.1
  have qE := (eE_of hS.1).1 (zf I 23).toNat (by omega)
  have q84 : 0 ≤ zv I 84 (zf I 23) ∧ zv I 84 (zf I 23) ≤ 5 := qE.1
  have q86 : 0 ≤ zv I 86 (zf I 23) ∧ zv I 86 (zf I 23) ≤ 7 := qE.2
  clear qE
  refine hmet (L := [some (.inr (.inl (some 75))), none, none, none]) (by decide) (Nat.le_of_ble_eq_true rfl) hc rfl ?_
  refine hA_const (k := 7) (zs_bipush (v := 7) em225_0 (by decide +kernel)) (by decide +kernel) (fun z0 hz0 => ?_)
  refine hA_aload (zs_aload_n em225_2) rfl ?_
  refine hA_getf0 (id := 23) (zs_getf (T := TX12) (M := 70) (ci := 12) (j := 32) em225_3 rfl inX12 (by decide) wd_1300 ((congrFun xo_12 233).trans rfl)) ⟨_, rfl, rfl⟩ (fun z3 hz3 => ?_)
  refine hA_mull (c := 7) (zs_imul em225_6) hz0 (by omega) (by omega) (fun z6 hz6 => ?_)
  refine hA_aload (zs_aload_n em225_7) rfl ?_
  refine hA_getf2 (r := 86) (zs_getf (T := TX12) (M := 70) (ci := 12) (j := 4) em225_8 rfl inX12 (by decide) wd_1305 ((congrFun xo_12 49).trans rfl)) ⟨_, rfl, rfl⟩ ?_
  refine hA_aload (zs_aload_n em225_11) rfl ?_
  refine hA_getf0 (id := 23) (zs_getf (T := TX12) (M := 70) (ci := 12) (j := 32) em225_12 rfl inX12 (by decide) wd_1300 ((congrFun xo_12 233).trans rfl)) ⟨_, rfl, rfl⟩ (fun z12 hz12 => ?_)
  refine hA_iald (kd := 86) (len := 2) (zs_iald em225_15) ⟨rfl, rfl, rfl⟩ (by omega) (by show _ < ((2 : Nat) : Int); omega) (fun z15 hz15 => ?_)
  rw [hz12] at hz15
  refine hA_add (zs_iadd em225_16) (by omega) (by omega) (fun z16 hz16 => ?_)
  refine hA_istore (L' := [some (.inr (.inl (some 75))), some (.inl z16), none, none]) (zs_istore_n em225_17) ⟨Nat.le_of_ble_eq_true rfl, rfl⟩ rfl ?_
  refine hA_aload (zs_aload_n em225_18) rfl ?_
  refine hA_callV (as := []) (rest := []) (B' := (0, 0)) (zs_invV (T := TX12) em225_19 zl_281 rfl wd_1555 wd_1557 wd_58 ((congrFun xo_12 291).trans rfl) xm_170) rfl ⟨_, rfl⟩ (Nat.le_of_ble_eq_true rfl) rfl ⟨Nat.zero_le _, Nat.zero_le _⟩ (hpre_of rfl (show hpr_281 d [.inr (.inl (some 75))] I from ⟨by show 5 ≤ d; omega, rfl, ⟨⟨h12a, h12b⟩, h13a, ⟨h15a, h15b⟩, hS.1⟩⟩)) (fun r19 I19 hp19 => ?_)
  replace hp19 : hpo_281 _ _ _ _ := hpost_of rfl hp19
  replace hp19 := hp19 rfl
  obtain ⟨x19, rfl, hx19, hInv19, hNx⟩ := hp19
  have hN1 : nF I I19 := hNx
  have hV1 := hvF_n hN1
  have n12 := hN1.2.2.1
  have n13 := hN1.2.1
  have nz := hN1.2.2.2.2
  clear hNx
  refine hA_istore (L' := [some (.inr (.inl (some 75))), some (.inl z16), some (.inl x19), none]) (zs_istore_n em225_22) ⟨Nat.le_of_ble_eq_true rfl, rfl⟩ rfl ?_
  refine hA_aload (zs_aload_n em225_23) rfl ?_
  refine hA_callV (as := []) (rest := []) (B' := (0, 0)) (zs_invV (T := TX12) em225_24 zl_253 rfl wd_1567 wd_1569 wd_61 ((congrFun xo_12 295).trans rfl) xm_221) rfl ⟨_, rfl⟩ (Nat.le_of_ble_eq_true rfl) rfl ⟨Nat.zero_le _, Nat.zero_le _⟩ (hpre_of rfl (show hpr_253 d [.inr (.inl (some 75))] I19 from ⟨by show 5 ≤ d; omega, rfl, ⟨⟨by omega, by omega⟩, by omega, hInv19⟩⟩)) (fun r24 I24 hp24 => ?_)
  replace hp24 : hpo_253 _ _ _ _ := hpost_of rfl hp24
  replace hp24 := hp24 rfl
  obtain ⟨rfl, t1, t2, t3, t4, -, t5, ⟨t6, t7⟩, t8⟩ := hp24
  have hV2 := hvF_tr hV1 (hvF_tk t1 t2 t3 t4 t5)
  have e15 : zf I24 15 = zf I 15 := by unfold zf; rw [t1 15 (by decide) (by decide) (by decide) (by decide), hN1.1 15 (by decide) (by decide)]
  refine hA_aload (zs_aload_n em225_27) rfl ?_
  refine hA_getf2 (r := 87) (zs_getf (T := TX12) (M := 70) (ci := 12) (j := 36) em225_28 rfl inX12 (by decide) wd_1306 ((congrFun xo_12 52).trans rfl)) ⟨_, rfl, rfl⟩ ?_
  refine hA_iload (zs_iload_n em225_31) rfl ?_
  refine hA_aload (zs_aload_n em225_32) rfl ?_
  refine hA_getf0 (id := 19) (zs_getf (T := TX12) (M := 70) (ci := 12) (j := 53) em225_33 rfl inX12 (by decide) wd_1325 ((congrFun xo_12 284).trans rfl)) ⟨_, rfl, rfl⟩ (fun z33 hz33 => ?_)
  refine hA_iastH (kd := 87) (len := 14) (zs_iast zInj0 em225_36) ⟨rfl, rfl, rfl⟩ (by omega) (by show _ < ((14 : Nat) : Int); omega) (eal rfl (by show (0 : Int) ≤ _; omega) (by show _ ≤ (8 : Int); omega)) ?_
  refine hA_const (k := 0) (zs_iconst (v := 0) em225_37 (by decide +kernel)) (by decide +kernel) (fun z37 hz37 => ?_)
  refine hA_istore (L' := [some (.inr (.inl (some 75))), some (.inl z16), some (.inl x19), some (.inl z37)]) (zs_istore_n em225_38) ⟨Nat.le_of_ble_eq_true rfl, rfl⟩ rfl ?_
  exact tv_39 hd hS hG hlim hV2 t3 ⟨by omega, t4.2⟩ (fun h => by have h1 := t5 h; have h2 := nz h1.1; omega) e15 ⟨by omega, by omega⟩ ⟨by omega, by omega⟩ ⟨t6, t7⟩ t8 (by omega)
