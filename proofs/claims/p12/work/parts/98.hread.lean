/-- the text is taken over: the bytes alone, in bounds -/
def rdT (I J : zI) : Prop := (∀ id, id < 4096 → id ≠ 24 → J id = I id) ∧ (0 ≤ zf J 24 ∧ zf J 24 ≤ 2000) ∧ (∀ kd i, i < 4096 → kd ≠ 77 → J (zid kd i) = I (zid kd i)) ∧ zInv J
theorem zInv_77 {I : zI} {i v : Int32} (hI : zInv I) (h0 : 0 ≤ i.toInt) (h1 : i.toInt < 2000) (hv : -128 ≤ v.toInt ∧ v.toInt ≤ 127) : zInv (zupd I (zid 77 i.toInt.toNat) v) := by
  have h22 : 0 ≤ zf I 22 ∧ zf I 22 ≤ 1 := hI.2.2.2.2.1
  have en : ∀ kd j : Nat, j < 4096 → kd ≠ 77 → zupd I (zid 77 i.toInt.toNat) v (zid kd j) = I (zid kd j) := fun kd j hj hk => zupd_fr (by unfold zid; omega)
  refine zInv_side2 hI (zupd_hi2 (by decide)) (fun kd j t len hk hd hj => ?_) (fun kd j hj h7 _ _ _ _ => en kd j hj h7) (fun k hk => ⟨en 94 _ (by omega) (by decide), en 95 _ (by omega) (by decide)⟩) (fun b p q kd r s => en kd b (by omega) (by omega)) (fun c p q => ⟨en 101 c (by omega) (by decide), en 102 c (by omega) (by decide)⟩) (eE_k (fun kd j hj hk => en kd j hj (by omega)) (eE_of hI))
  rcases hk with rfl | rfl
  · by_cases e : j = i.toInt.toNat
    · subst e
      unfold zupd
      rw [if_pos rfl]
      exact eal rfl hv.1 hv.2
    · have hl := zvs_len (kd := 77) rfl hd hj
      rw [zupd_fr (by unfold zid; omega)]
      exact hI.1 77 j t len rfl hd hj
  · rw [en 78 j (zvs_len rfl hd hj) (by decide)]
    exact hI.1 78 j t len rfl hd hj
theorem rdT_s {I J : zI} {i v : Int32} (h : rdT I J) (h0 : 0 ≤ i.toInt) (h1 : i.toInt < 2000) (hv : -128 ≤ v.toInt ∧ v.toInt ≤ 127) : rdT I (zupd J (zid 77 i.toInt.toNat) v) := by
  obtain ⟨a1, a2, a3, a4⟩ := h
  exact ⟨fun id hl q => (zupd_hi2 hl).trans (a1 id hl q), by rw [zf_arr _ _ _ _ _ (by decide)]; exact a2, fun kd j hj hk => (zupd_fr (by unfold zid; omega)).trans (a3 kd j hj hk), zInv_77 a4 h0 h1 hv⟩
theorem rdT_0 {I : zI} {v : Int32} (hI : zInv I) (hv : 0 ≤ v.toInt ∧ v.toInt ≤ 2000) : rdT I (zupd I 24 v) := ⟨fun id _ q => zupd_fr q, by rw [zf_same]; exact hv, fun kd j _ _ => zupd_fr (by unfold zid; omega), zextp _ 24 _ rfl (by decide) hI⟩
/-- plain keeps the invariant -/
theorem pl_inv {I J : zI} {a : Int} (hI : zInv I) (ha : a = 1 - zf I 22) (p1 : ∀ id, id < 4096 → J id = I id) (p2 : ∀ kd i, i < 4096 → kd ≠ 84 → kd ≠ 86 → kd ≠ 94 → kd ≠ 95 → J (zid kd i) = I (zid kd i)) (p3 : ∀ i : Nat, i < 4096 → ¬ (i : Int) = a → J (zid 84 i) = I (zid 84 i) ∧ J (zid 86 i) = I (zid 86 i)) (p4 : zv J 84 a = 0 ∧ zv J 86 a = 0) (p5 : ∀ i : Nat, i < 4096 → ((i : Int) < 4 * a ∨ 4 * a + 4 ≤ (i : Int)) → J (zid 94 i) = I (zid 94 i) ∧ J (zid 95 i) = I (zid 95 i)) : zInv J := by
  have h22 : 0 ≤ zf I 22 ∧ zf I 22 ≤ 1 := hI.2.2.2.2.1
  have eE0 := eE_of hI
  refine zInv_side hI (p1 22 (by decide)) (fun kd i hi h1 h2 h3 => p2 kd i hi h1 h2 (by omega) (by omega)) (fun k hk => p5 _ (by omega) ?_) (fun b p q kd r s => p2 kd b (by omega) (by omega) (by omega) (by omega) (by omega)) (fun c p q => ⟨p2 101 c (by omega) (by decide) (by decide) (by decide) (by decide), p2 102 c (by omega) (by decide) (by decide) (by decide) (by decide)⟩) ⟨fun i hi => ?_, fun i hi => by rw [p2 96 i (by omega) (by decide) (by decide) (by decide) (by decide)]; exact eE0.2 i hi⟩
  · rcases (show zf I 22 = 0 ∨ zf I 22 = 1 by omega) with e | e <;> omega
  · by_cases e : (i : Int) = a
    · have e2 : a.toNat = i := by omega
      obtain ⟨q1, q2⟩ := p4
      unfold zv at q1 q2
      rw [e2] at q1 q2
      omega
    · rw [(p3 i (by omega) e).1, (p3 i (by omega) e).2]
      exact eE0.1 i hi
/-- the beginning of the telling -/
theorem rd_start {J : zI} {b c : Int32} (hI : zInv J) (h12 : zf J 12 = 0) (h13 : zf J 13 = 0) (h14 : zf J 14 = 0) (h15 : zf J 15 = 0) (h23 : zf J 23 = 1 - zf J 22) (hb : b.toInt = 130 * zf J 23) (hc : c.toInt = 420 * zf J 23) (p4 : zv J 84 (zf J 23) = 0 ∧ zv J 86 (zf J 23) = 0) (p6 : ∀ k : Nat, k < 4 → zv J 94 (4 * zf J 23 + (k : Int)) = 0 ∧ zv J 95 (4 * zf J 23 + (k : Int)) = 0) : pS (zupd (zupd J 16 b) 17 c) 100 ∧ zf (zupd (zupd J 16 b) 17 c) 13 = 0 ∧ pG (zupd (zupd J 16 b) 17 c) 0 := by
  have h22 : 0 ≤ zf J 22 ∧ zf J 22 ≤ 1 := hI.2.2.2.2.1
  have e : ∀ f, f ≠ 16 → f ≠ 17 → zf (zupd (zupd J 16 b) 17 c) f = zf J f := fun f h1 h2 => by rw [zf_ne h2, zf_ne h1]
  have e16 : zf (zupd (zupd J 16 b) 17 c) 16 = b.toInt := by rw [zf_ne (by decide), zf_same]
  have e17 : zf (zupd (zupd J 16 b) 17 c) 17 = c.toInt := zf_same
  have e12 := e 12 (by decide) (by decide)
  have e13 := e 13 (by decide) (by decide)
  have e14 := e 14 (by decide) (by decide)
  have e15 := e 15 (by decide) (by decide)
  have e22 := e 22 (by decide) (by decide)
  have e23 := e 23 (by decide) (by decide)
  have ev : ∀ kd (i : Int), zv (zupd (zupd J 16 b) 17 c) kd i = zv J kd i := fun kd i => by rw [zv_fld _ _ _ _ _ (by decide), zv_fld _ _ _ _ _ (by decide)]
  refine ⟨⟨zextp _ 17 _ rfl (by decide) (zextp _ 16 _ rfl (by decide) hI), by omega, by omega, by omega, by omega, by omega, by omega, by omega⟩, by omega, by omega, by omega, ?_, ?_, by omega⟩
  · rw [e15, e23, ev, ev]
    omega
  · intro k hk
    rw [e23, ev, ev, (p6 k hk).1, (p6 k hk).2]
    exact ⟨Int.le_refl _, by omega, fun b' b1 b2 => by omega⟩
def rdF (I J : zI) : Prop := (∀ id, id < 4096 → id ≠ 10 → id ≠ 11 → id ≠ 12 → id ≠ 13 → id ≠ 14 → id ≠ 15 → id ≠ 16 → id ≠ 17 → id ≠ 18 → id ≠ 19 → id ≠ 23 → id ≠ 24 → J id = I id) ∧ zf J 10 = 0
theorem rdF_s {I J J' : zI} (h : rdF I J) (hs : sFr J J') : rdF I J' := by
  refine ⟨fun id hl h10 h11 h12 h13 h14 h15 h16 h17 h18 h19 h23 h24 => (hs.1 id hl (by omega)).trans (h.1 id hl h10 h11 h12 h13 h14 h15 h16 h17 h18 h19 h23 h24), ?_⟩
  rw [sFr_22 hs (by decide) (by decide)]
  exact h.2
def rdM (J : zI) : Nat := if zf J 13 = 0 then (402 - zf J 12).toNat else 0
theorem rdM_d {J J' : zI} (h : zf J 13 = 0) (hj : zf J 12 ≤ 400) (h2 : zf J' 13 = 0 → zf J 12 + 1 ≤ zf J' 12) : rdM J' < rdM J := by
  unfold rdM
  rw [if_pos h]
  split
  · have := h2 (by assumption); omega
  · omega
theorem em180_0 : decode prog_14_method_20_code 0 = .ok (.aload_n 0, 1) := by decide +kernel
theorem em180_1 : decode prog_14_method_20_code 1 = .ok (.aload_n 0, 1) := by decide +kernel
theorem em180_2 : decode prog_14_method_20_code 2 = .ok (.getfield 163, 3) := by decide +kernel
theorem em180_5 : decode prog_14_method_20_code 5 = .ok (.putfield 169, 3) := by decide +kernel
theorem em180_8 : decode prog_14_method_20_code 8 = .ok (.iconst 0, 1) := by decide +kernel
theorem em180_9 : decode prog_14_method_20_code 9 = .ok (.istore_n 1, 1) := by decide +kernel
theorem em180_10 : decode prog_14_method_20_code 10 = .ok (.iload_n 1, 1) := by decide +kernel
theorem em180_11 : decode prog_14_method_20_code 11 = .ok (.aload_n 0, 1) := by decide +kernel
theorem em180_12 : decode prog_14_method_20_code 12 = .ok (.getfield 169, 3) := by decide +kernel
theorem em180_15 : decode prog_14_method_20_code 15 = .ok (.if_icmp .ge 21, 3) := by decide +kernel
theorem em180_18 : decode prog_14_method_20_code 18 = .ok (.aload_n 0, 1) := by decide +kernel
theorem em180_19 : decode prog_14_method_20_code 19 = .ok (.getfield 17, 3) := by decide +kernel
theorem em180_22 : decode prog_14_method_20_code 22 = .ok (.iload_n 1, 1) := by decide +kernel
theorem em180_23 : decode prog_14_method_20_code 23 = .ok (.aload_n 0, 1) := by decide +kernel
theorem em180_24 : decode prog_14_method_20_code 24 = .ok (.getfield 13, 3) := by decide +kernel
theorem em180_27 : decode prog_14_method_20_code 27 = .ok (.iload_n 1, 1) := by decide +kernel
theorem em180_28 : decode prog_14_method_20_code 28 = .ok (.baload, 1) := by decide +kernel
theorem em180_29 : decode prog_14_method_20_code 29 = .ok (.bastore, 1) := by decide +kernel
theorem em180_30 : decode prog_14_method_20_code 30 = .ok (.iinc 1 1, 3) := by decide +kernel
theorem em180_33 : decode prog_14_method_20_code 33 = .ok (.goto (-23), 3) := by decide +kernel
theorem em180_36 : decode prog_14_method_20_code 36 = .ok (.aload_n 0, 1) := by decide +kernel
theorem em180_37 : decode prog_14_method_20_code 37 = .ok (.iconst 0, 1) := by decide +kernel
theorem em180_38 : decode prog_14_method_20_code 38 = .ok (.putfield 163, 3) := by decide +kernel
theorem em180_41 : decode prog_14_method_20_code 41 = .ok (.aload_n 0, 1) := by decide +kernel
theorem em180_42 : decode prog_14_method_20_code 42 = .ok (.invokevirtual 224, 3) := by decide +kernel
theorem em180_45 : decode prog_14_method_20_code 45 = .ok (.aload_n 0, 1) := by decide +kernel
theorem em180_46 : decode prog_14_method_20_code 46 = .ok (.iconst 0, 1) := by decide +kernel
theorem em180_47 : decode prog_14_method_20_code 47 = .ok (.putfield 203, 3) := by decide +kernel
theorem em180_50 : decode prog_14_method_20_code 50 = .ok (.aload_n 0, 1) := by decide +kernel
theorem em180_51 : decode prog_14_method_20_code 51 = .ok (.iconst 0, 1) := by decide +kernel
theorem em180_52 : decode prog_14_method_20_code 52 = .ok (.putfield 227, 3) := by decide +kernel
theorem em180_55 : decode prog_14_method_20_code 55 = .ok (.aload_n 0, 1) := by decide +kernel
theorem em180_56 : decode prog_14_method_20_code 56 = .ok (.iconst 0, 1) := by decide +kernel
theorem em180_57 : decode prog_14_method_20_code 57 = .ok (.putfield 200, 3) := by decide +kernel
theorem em180_60 : decode prog_14_method_20_code 60 = .ok (.aload_n 0, 1) := by decide +kernel
theorem em180_61 : decode prog_14_method_20_code 61 = .ok (.iconst 0, 1) := by decide +kernel
theorem em180_62 : decode prog_14_method_20_code 62 = .ok (.putfield 209, 3) := by decide +kernel
theorem em180_65 : decode prog_14_method_20_code 65 = .ok (.aload_n 0, 1) := by decide +kernel
theorem em180_66 : decode prog_14_method_20_code 66 = .ok (.iconst 1, 1) := by decide +kernel
theorem em180_67 : decode prog_14_method_20_code 67 = .ok (.aload_n 0, 1) := by decide +kernel
theorem em180_68 : decode prog_14_method_20_code 68 = .ok (.getfield 230, 3) := by decide +kernel
theorem em180_71 : decode prog_14_method_20_code 71 = .ok (.isub, 1) := by decide +kernel
theorem em180_72 : decode prog_14_method_20_code 72 = .ok (.putfield 233, 3) := by decide +kernel
theorem em180_75 : decode prog_14_method_20_code 75 = .ok (.aload_n 0, 1) := by decide +kernel
theorem em180_76 : decode prog_14_method_20_code 76 = .ok (.iconst 0, 1) := by decide +kernel
theorem em180_77 : decode prog_14_method_20_code 77 = .ok (.putfield 236, 3) := by decide +kernel
theorem em180_80 : decode prog_14_method_20_code 80 = .ok (.aload_n 0, 1) := by decide +kernel
theorem em180_81 : decode prog_14_method_20_code 81 = .ok (.aload_n 0, 1) := by decide +kernel
theorem em180_82 : decode prog_14_method_20_code 82 = .ok (.getfield 233, 3) := by decide +kernel
theorem em180_85 : decode prog_14_method_20_code 85 = .ok (.invokevirtual 149, 3) := by decide +kernel
theorem em180_88 : decode prog_14_method_20_code 88 = .ok (.aload_n 0, 1) := by decide +kernel
theorem em180_89 : decode prog_14_method_20_code 89 = .ok (.sipush 130, 3) := by decide +kernel
theorem em180_92 : decode prog_14_method_20_code 92 = .ok (.aload_n 0, 1) := by decide +kernel
theorem em180_93 : decode prog_14_method_20_code 93 = .ok (.getfield 233, 3) := by decide +kernel
theorem em180_96 : decode prog_14_method_20_code 96 = .ok (.imul, 1) := by decide +kernel
theorem em180_97 : decode prog_14_method_20_code 97 = .ok (.putfield 239, 3) := by decide +kernel
theorem em180_100 : decode prog_14_method_20_code 100 = .ok (.aload_n 0, 1) := by decide +kernel
theorem em180_101 : decode prog_14_method_20_code 101 = .ok (.sipush 420, 3) := by decide +kernel
theorem em180_104 : decode prog_14_method_20_code 104 = .ok (.aload_n 0, 1) := by decide +kernel
theorem em180_105 : decode prog_14_method_20_code 105 = .ok (.getfield 233, 3) := by decide +kernel
theorem em180_108 : decode prog_14_method_20_code 108 = .ok (.imul, 1) := by decide +kernel
theorem em180_109 : decode prog_14_method_20_code 109 = .ok (.putfield 242, 3) := by decide +kernel
theorem em180_112 : decode prog_14_method_20_code 112 = .ok (.aload_n 0, 1) := by decide +kernel
theorem em180_113 : decode prog_14_method_20_code 113 = .ok (.getfield 200, 3) := by decide +kernel
theorem em180_116 : decode prog_14_method_20_code 116 = .ok (.ifCond .ne 18, 3) := by decide +kernel
theorem em180_119 : decode prog_14_method_20_code 119 = .ok (.aload_n 0, 1) := by decide +kernel
theorem em180_120 : decode prog_14_method_20_code 120 = .ok (.iconst 0, 1) := by decide +kernel
theorem em180_121 : decode prog_14_method_20_code 121 = .ok (.invokevirtual 218, 3) := by decide +kernel
theorem em180_124 : decode prog_14_method_20_code 124 = .ok (.ifCond .ne 10, 3) := by decide +kernel
theorem em180_127 : decode prog_14_method_20_code 127 = .ok (.aload_n 0, 1) := by decide +kernel
theorem em180_128 : decode prog_14_method_20_code 128 = .ok (.invokevirtual 245, 3) := by decide +kernel
theorem em180_131 : decode prog_14_method_20_code 131 = .ok (.goto (-19), 3) := by decide +kernel
theorem em180_134 : decode prog_14_method_20_code 134 = .ok (.aload_n 0, 1) := by decide +kernel
theorem em180_135 : decode prog_14_method_20_code 135 = .ok (.aload_n 0, 1) := by decide +kernel
theorem em180_136 : decode prog_14_method_20_code 136 = .ok (.getfield 200, 3) := by decide +kernel
theorem em180_139 : decode prog_14_method_20_code 139 = .ok (.ifCond .le 10, 3) := by decide +kernel
theorem em180_142 : decode prog_14_method_20_code 142 = .ok (.aload_n 0, 1) := by decide +kernel
theorem em180_143 : decode prog_14_method_20_code 143 = .ok (.getfield 206, 3) := by decide +kernel
theorem em180_146 : decode prog_14_method_20_code 146 = .ok (.goto 18, 3) := by decide +kernel
theorem em180_149 : decode prog_14_method_20_code 149 = .ok (.aload_n 0, 1) := by decide +kernel
theorem em180_150 : decode prog_14_method_20_code 150 = .ok (.getfield 209, 3) := by decide +kernel
theorem em180_153 : decode prog_14_method_20_code 153 = .ok (.ifCond .le 10, 3) := by decide +kernel
theorem em180_156 : decode prog_14_method_20_code 156 = .ok (.aload_n 0, 1) := by decide +kernel
theorem em180_157 : decode prog_14_method_20_code 157 = .ok (.getfield 212, 3) := by decide +kernel
theorem em180_160 : decode prog_14_method_20_code 160 = .ok (.goto 4, 3) := by decide +kernel
theorem em180_163 : decode prog_14_method_20_code 163 = .ok (.iconst (-1), 1) := by decide +kernel
theorem em180_164 : decode prog_14_method_20_code 164 = .ok (.putfield 37, 3) := by decide +kernel
theorem em180_167 : decode prog_14_method_20_code 167 = .ok (.aload_n 0, 1) := by decide +kernel
theorem em180_168 : decode prog_14_method_20_code 168 = .ok (.getfield 200, 3) := by decide +kernel
theorem em180_171 : decode prog_14_method_20_code 171 = .ok (.ifCond .le 8, 3) := by decide +kernel
theorem em180_174 : decode prog_14_method_20_code 174 = .ok (.aload_n 0, 1) := by decide +kernel
theorem em180_175 : decode prog_14_method_20_code 175 = .ok (.getfield 200, 3) := by decide +kernel
theorem em180_178 : decode prog_14_method_20_code 178 = .ok (.ireturn, 1) := by decide +kernel
theorem em180_179 : decode prog_14_method_20_code 179 = .ok (.aload_n 0, 1) := by decide +kernel
theorem em180_180 : decode prog_14_method_20_code 180 = .ok (.getfield 209, 3) := by decide +kernel
theorem em180_183 : decode prog_14_method_20_code 183 = .ok (.ifCond .le 8, 3) := by decide +kernel
theorem em180_186 : decode prog_14_method_20_code 186 = .ok (.aload_n 0, 1) := by decide +kernel
theorem em180_187 : decode prog_14_method_20_code 187 = .ok (.getfield 209, 3) := by decide +kernel
theorem em180_190 : decode prog_14_method_20_code 190 = .ok (.ireturn, 1) := by decide +kernel
theorem em180_191 : decode prog_14_method_20_code 191 = .ok (.aload_n 0, 1) := by decide +kernel
theorem em180_192 : decode prog_14_method_20_code 192 = .ok (.aload_n 0, 1) := by decide +kernel
theorem em180_193 : decode prog_14_method_20_code 193 = .ok (.getfield 233, 3) := by decide +kernel
theorem em180_196 : decode prog_14_method_20_code 196 = .ok (.putfield 230, 3) := by decide +kernel
theorem em180_199 : decode prog_14_method_20_code 199 = .ok (.aload_n 0, 1) := by decide +kernel
theorem em180_200 : decode prog_14_method_20_code 200 = .ok (.invokevirtual 157, 3) := by decide +kernel
theorem em180_203 : decode prog_14_method_20_code 203 = .ok (.aload_n 0, 1) := by decide +kernel
theorem em180_204 : decode prog_14_method_20_code 204 = .ok (.invokevirtual 160, 3) := by decide +kernel
theorem em180_207 : decode prog_14_method_20_code 207 = .ok (.aload_n 0, 1) := by decide +kernel
theorem em180_208 : decode prog_14_method_20_code 208 = .ok (.iconst 0, 1) := by decide +kernel
theorem em180_209 : decode prog_14_method_20_code 209 = .ok (.putfield 248, 3) := by decide +kernel
theorem em180_212 : decode prog_14_method_20_code 212 = .ok (.aload_n 0, 1) := by decide +kernel
theorem em180_213 : decode prog_14_method_20_code 213 = .ok (.iconst 0, 1) := by decide +kernel
theorem em180_214 : decode prog_14_method_20_code 214 = .ok (.putfield 251, 3) := by decide +kernel
theorem em180_217 : decode prog_14_method_20_code 217 = .ok (.iconst 0, 1) := by decide +kernel
theorem em180_218 : decode prog_14_method_20_code 218 = .ok (.istore_n 1, 1) := by decide +kernel
theorem em180_219 : decode prog_14_method_20_code 219 = .ok (.iload_n 1, 1) := by decide +kernel
theorem em180_220 : decode prog_14_method_20_code 220 = .ok (.iconst 3, 1) := by decide +kernel
theorem em180_221 : decode prog_14_method_20_code 221 = .ok (.if_icmp .ge 16, 3) := by decide +kernel
theorem em180_224 : decode prog_14_method_20_code 224 = .ok (.aload_n 0, 1) := by decide +kernel
theorem em180_225 : decode prog_14_method_20_code 225 = .ok (.getfield 143, 3) := by decide +kernel
theorem em180_228 : decode prog_14_method_20_code 228 = .ok (.iload_n 1, 1) := by decide +kernel
theorem em180_229 : decode prog_14_method_20_code 229 = .ok (.iconst 0, 1) := by decide +kernel
theorem em180_230 : decode prog_14_method_20_code 230 = .ok (.bastore, 1) := by decide +kernel
theorem em180_231 : decode prog_14_method_20_code 231 = .ok (.iinc 1 1, 3) := by decide +kernel
theorem em180_234 : decode prog_14_method_20_code 234 = .ok (.goto (-15), 3) := by decide +kernel
theorem em180_237 : decode prog_14_method_20_code 237 = .ok (.iconst 0, 1) := by decide +kernel
theorem em180_238 : decode prog_14_method_20_code 238 = .ok (.ireturn, 1) := by decide +kernel
set_option maxRecDepth 10000 in
set_option maxHeartbeats 4000000 in
theorem rd_219 {d : Nat} {I IJ : zI} (hd : 60 ≤ d + 1) (hf20 : 0 ≤ zf I 20 ∧ zf I 20 ≤ 30) (hf21 : 0 ≤ zf I 21 ∧ zf I 21 ≤ 20) (hf22 : 0 ≤ zf I 22 ∧ zf I 22 ≤ 1) (hR : rdF I IJ) {va vb vc i : Int32} (hva : 0 ≤ va.toInt ∧ va.toInt ≤ 1) (hvb : vb.toInt = 0) (hvc : vc.toInt = 0) (hIv : zInv (zupd IJ 22 va)) (hi : 0 ≤ i.toInt) : zAt zG0 PZ zbd zpre zpost (d, (zbd 207).1, (zbd 207).2) prog_14_method_20_code "CapitalCaseModel" (zRet prog_14_method_20_code (some .int) (zbd 207) (fun r I' => aPost zInv zc_207 [.inr (.inl (some 75))] I r I')) 219 [some (.inr (.inl (some 75))), some (.inl i)] [] (zupd (zupd (zupd IJ 22 va) 20 vb) 21 vc) (0, 0) := by
  have e20 : zf IJ 20 = zf I 20 := by unfold zf; rw [hR.1 20 (by decide) (by decide) (by decide) (by decide) (by decide) (by decide) (by decide) (by decide) (by decide) (by decide) (by decide) (by decide) (by decide)]
  have e21 : zf IJ 21 = zf I 21 := by unfold zf; rw [hR.1 21 (by decide) (by decide) (by decide) (by decide) (by decide) (by decide) (by decide) (by decide) (by decide) (by decide) (by decide) (by decide) (by decide)]
  have e22 : zf IJ 22 = zf I 22 := by unfold zf; rw [hR.1 22 (by decide) (by decide) (by decide) (by decide) (by decide) (by decide) (by decide) (by decide) (by decide) (by decide) (by decide) (by decide) (by decide)]
  have e10 := hR.2
  have loop : ∀ (n : Nat) (i : Int32) (hi : 0 ≤ i.toInt), (4 - i.toInt).toNat = n → zAt zG0 PZ zbd zpre zpost (d, (zbd 207).1, (zbd 207).2) prog_14_method_20_code "CapitalCaseModel" (zRet prog_14_method_20_code (some .int) (zbd 207) (fun r I' => aPost zInv zc_207 [.inr (.inl (some 75))] I r I')) 219 [some (.inr (.inl (some 75))), some (.inl i)] [] (zupd (zupd (zupd IJ 22 va) 20 vb) 21 vc) (0, 0) := by
    intro n
    induction n using Nat.strongRecOn with
    | ind n ih =>
      intro i hi hn
      refine hA_iload (zs_iload_n em180_219) rfl ?_
      refine hA_const (k := 3) (zs_iconst (v := 3) em180_220 (by decide +kernel)) (by decide +kernel) (fun z220 hz220 => ?_)
      refine hA_icmp (zs_icmpge em180_221 (t := 237) (by decide)) (fun (c221 : z220.toInt ≤ i.toInt) => ?_) (fun (c221 : ¬ z220.toInt ≤ i.toInt) => ?_)
      · refine hA_const (k := 0) (zs_iconst (v := 0) em180_237 (by decide +kernel)) (by decide +kernel) (fun z237 hz237 => ?_)
        refine hA_ireturn ⟨rfl, em180_238⟩ ⟨Nat.le_refl _, Nat.le_refl _⟩ ?_
        exact ⟨⟨_, List.mem_cons_self, ⟨_, rfl, an_lo _, an_hi _⟩, (hCh_cons (fun k hk => none_no hk) ⟨by rw [zf_ne (by decide), zf_ne (by decide), zf_ne (by decide)]; omega, by rw [zf_ne (by decide), zf_ne (by decide), zf_ne (by decide)]; omega⟩ (hCh_cons (fun k hk => none_no hk) ⟨by rw [zf_ne (by decide), zf_same]; omega, by rw [zf_ne (by decide), zf_same]; omega⟩ (hCh_cons (fun k hk => none_no hk) ⟨by rw [zf_same]; omega, by rw [zf_same]; omega⟩ (hCh_cons (fun k hk => none_no hk) ⟨by rw [zf_ne (by decide), zf_ne (by decide), zf_same]; omega, by rw [zf_ne (by decide), zf_ne (by decide), zf_same]; omega⟩ (hCh_cons (fun k hk => none_no hk) ⟨an_lo _, an_hi _⟩ (hCh_cons (fun k hk => none_no hk) ⟨an_lo _, an_hi _⟩ (hCh_cons (fun k hk => none_no hk) ⟨an_lo _, an_hi _⟩ (hCh_cons (fun k hk => none_no hk) ⟨an_lo _, an_hi _⟩ (hCh_cons (fun k hk => none_no hk) ⟨an_lo _, an_hi _⟩ (hCh_cons (fun k hk => none_no hk) ⟨an_lo _, an_hi _⟩ (hCh_cons (fun k hk => none_no hk) ⟨an_lo _, an_hi _⟩ (hCh_cons (fun k hk => none_no hk) ⟨an_lo _, an_hi _⟩ (hCh_cons (fun k hk => none_no hk) ⟨an_lo _, an_hi _⟩ (hCh_cons (fun k hk => none_no hk) ⟨an_lo _, an_hi _⟩ (hCh_cons (fun k hk => none_no hk) ⟨an_lo _, an_hi _⟩ hCh_nil))))))))))))))), (fun id hl hn => ((zupd_fr (fun e => by subst e; exact hn _ (List.mem_cons_of_mem _ (List.mem_cons_of_mem _ List.mem_cons_self)))).trans (((zupd_fr (fun e => by subst e; exact hn _ (List.mem_cons_of_mem _ List.mem_cons_self))).trans (((zupd_fr (fun e => by subst e; exact hn _ (List.mem_cons_of_mem _ (List.mem_cons_of_mem _ (List.mem_cons_of_mem _ List.mem_cons_self))))).trans ((hR.1 id hl (fun e => by subst e; exact hn _ List.mem_cons_self) (fun e => by subst e; exact hn _ (List.mem_cons_of_mem _ (List.mem_cons_of_mem _ (List.mem_cons_of_mem _ (List.mem_cons_of_mem _ List.mem_cons_self))))) (fun e => by subst e; exact hn _ (List.mem_cons_of_mem _ (List.mem_cons_of_mem _ (List.mem_cons_of_mem _ (List.mem_cons_of_mem _ (List.mem_cons_of_mem _ List.mem_cons_self)))))) (fun e => by subst e; exact hn _ (List.mem_cons_of_mem _ (List.mem_cons_of_mem _ (List.mem_cons_of_mem _ (List.mem_cons_of_mem _ (List.mem_cons_of_mem _ (List.mem_cons_of_mem _ List.mem_cons_self))))))) (fun e => by subst e; exact hn _ (List.mem_cons_of_mem _ (List.mem_cons_of_mem _ (List.mem_cons_of_mem _ (List.mem_cons_of_mem _ (List.mem_cons_of_mem _ (List.mem_cons_of_mem _ (List.mem_cons_of_mem _ List.mem_cons_self)))))))) (fun e => by subst e; exact hn _ (List.mem_cons_of_mem _ (List.mem_cons_of_mem _ (List.mem_cons_of_mem _ (List.mem_cons_of_mem _ (List.mem_cons_of_mem _ (List.mem_cons_of_mem _ (List.mem_cons_of_mem _ (List.mem_cons_of_mem _ List.mem_cons_self))))))))) (fun e => by subst e; exact hn _ (List.mem_cons_of_mem _ (List.mem_cons_of_mem _ (List.mem_cons_of_mem _ (List.mem_cons_of_mem _ (List.mem_cons_of_mem _ (List.mem_cons_of_mem _ (List.mem_cons_of_mem _ (List.mem_cons_of_mem _ (List.mem_cons_of_mem _ List.mem_cons_self)))))))))) (fun e => by subst e; exact hn _ (List.mem_cons_of_mem _ (List.mem_cons_of_mem _ (List.mem_cons_of_mem _ (List.mem_cons_of_mem _ (List.mem_cons_of_mem _ (List.mem_cons_of_mem _ (List.mem_cons_of_mem _ (List.mem_cons_of_mem _ (List.mem_cons_of_mem _ (List.mem_cons_of_mem _ List.mem_cons_self))))))))))) (fun e => by subst e; exact hn _ (List.mem_cons_of_mem _ (List.mem_cons_of_mem _ (List.mem_cons_of_mem _ (List.mem_cons_of_mem _ (List.mem_cons_of_mem _ (List.mem_cons_of_mem _ (List.mem_cons_of_mem _ (List.mem_cons_of_mem _ (List.mem_cons_of_mem _ (List.mem_cons_of_mem _ (List.mem_cons_of_mem _ List.mem_cons_self)))))))))))) (fun e => by subst e; exact hn _ (List.mem_cons_of_mem _ (List.mem_cons_of_mem _ (List.mem_cons_of_mem _ (List.mem_cons_of_mem _ (List.mem_cons_of_mem _ (List.mem_cons_of_mem _ (List.mem_cons_of_mem _ (List.mem_cons_of_mem _ (List.mem_cons_of_mem _ (List.mem_cons_of_mem _ (List.mem_cons_of_mem _ (List.mem_cons_of_mem _ List.mem_cons_self))))))))))))) (fun e => by subst e; exact hn _ (List.mem_cons_of_mem _ (List.mem_cons_of_mem _ (List.mem_cons_of_mem _ (List.mem_cons_of_mem _ (List.mem_cons_of_mem _ (List.mem_cons_of_mem _ (List.mem_cons_of_mem _ (List.mem_cons_of_mem _ (List.mem_cons_of_mem _ (List.mem_cons_of_mem _ (List.mem_cons_of_mem _ (List.mem_cons_of_mem _ (List.mem_cons_of_mem _ List.mem_cons_self)))))))))))))) (fun e => by subst e; exact hn _ (List.mem_cons_of_mem _ (List.mem_cons_of_mem _ (List.mem_cons_of_mem _ (List.mem_cons_of_mem _ (List.mem_cons_of_mem _ (List.mem_cons_of_mem _ (List.mem_cons_of_mem _ (List.mem_cons_of_mem _ (List.mem_cons_of_mem _ (List.mem_cons_of_mem _ (List.mem_cons_of_mem _ (List.mem_cons_of_mem _ (List.mem_cons_of_mem _ (List.mem_cons_of_mem _ List.mem_cons_self))))))))))))))))))))))), (fun _ h => absurd h List.not_mem_nil)⟩, (fun _ => (zextp _ 21 _ rfl (by decide) (zextp _ 20 _ rfl (by decide) hIv))), (fun h => by cases h)⟩
      · refine hA_aload (zs_aload_n em180_224) rfl ?_
        refine hA_getf2 (r := 117) (zs_getf (T := TX12) (M := 70) (ci := 12) (j := 68) em180_225 rfl inX12 (by decide) wd_1349 ((congrFun xo_12 143).trans rfl)) ⟨_, rfl, rfl⟩ ?_
        refine hA_iload (zs_iload_n em180_228) rfl ?_
        refine hA_const (k := 0) (zs_iconst (v := 0) em180_229 (by decide +kernel)) (by decide +kernel) (fun z229 hz229 => ?_)
        refine hA_zastH (kd := 117) (len := 3) (zs_bast zInj0 em180_230) ⟨rfl, rfl, rfl⟩ (by omega) (by show _ < ((3 : Nat) : Int); omega) (by omega) (by omega) (eal rfl (by show (0 : Int) ≤ _; omega) (by show _ ≤ (1 : Int); omega)) ?_
        refine hA_iinc (c := 1) (zs_iinc (k := 1) em180_231 (by decide +kernel)) (by decide +kernel) rfl ⟨Nat.le_of_ble_eq_true rfl, rfl⟩ (by omega) (by omega) (fun z231 hz231 => ?_)
        show zAt _ _ _ _ _ _ _ _ _ _ [some (.inr (.inl (some 75))), some (.inl z231)] _ _ _
        refine hA_goto (zs_goto em180_234 (t := 219) (by decide)) ?_
        exact ih _ (by omega) z231 (by omega) rfl
  exact loop _ i hi rfl
set_option maxRecDepth 10000 in
set_option maxHeartbeats 4000000 in
theorem rd_134 {d : Nat} {I IJ : zI} (hd : 60 ≤ d + 1) (hf20 : 0 ≤ zf I 20 ∧ zf I 20 ≤ 30) (hf21 : 0 ≤ zf I 21 ∧ zf I 21 ≤ 20) (hf22 : 0 ≤ zf I 22 ∧ zf I 22 ≤ 1) (hR : rdF I IJ) {i : Int32} (hc : zCalls zG0 PZ zbd zpre zpost d) (hS : pS IJ 110) (hz : zf IJ 13 = 0 → pG IJ 0) : zAt zG0 PZ zbd zpre zpost (d, (zbd 207).1, (zbd 207).2) prog_14_method_20_code "CapitalCaseModel" (zRet prog_14_method_20_code (some .int) (zbd 207) (fun r I' => aPost zInv zc_207 [.inr (.inl (some 75))] I r I')) 134 [some (.inr (.inl (some 75))), some (.inl i)] [] IJ (0, 0) := by
  obtain ⟨-, ⟨h12a, h12b⟩, h13a, h23, ⟨h22a, h22b⟩, -, -, -⟩ := id hS
  have e20 : zf IJ 20 = zf I 20 := by unfold zf; rw [hR.1 20 (by decide) (by decide) (by decide) (by decide) (by decide) (by decide) (by decide) (by decide) (by decide) (by decide) (by decide) (by decide) (by decide)]
  have e21 : zf IJ 21 = zf I 21 := by unfold zf; rw [hR.1 21 (by decide) (by decide) (by decide) (by decide) (by decide) (by decide) (by decide) (by decide) (by decide) (by decide) (by decide) (by decide) (by decide)]
  have e22 : zf IJ 22 = zf I 22 := by unfold zf; rw [hR.1 22 (by decide) (by decide) (by decide) (by decide) (by decide) (by decide) (by decide) (by decide) (by decide) (by decide) (by decide) (by decide) (by decide)]
  have e10 := hR.2
  refine hA_aload (zs_aload_n em180_134) rfl ?_
  refine hA_aload (zs_aload_n em180_135) rfl ?_
  refine hA_getf0 (id := 13) (zs_getf (T := TX12) (M := 70) (ci := 12) (j := 27) em180_136 rfl inX12 (by decide) wd_1294 ((congrFun xo_12 200).trans rfl)) ⟨_, rfl, rfl⟩ (fun z136 hz136 => ?_)
  refine hA_if (zs_ifle em180_139 (t := 149) (by decide)) (fun (c139 : z136.toInt ≤ 0) => ?_) (fun (c139 : ¬ z136.toInt ≤ 0) => ?_)
  · refine hA_aload (zs_aload_n em180_149) rfl ?_
    refine hA_getf1 (q := ((-2147483648), 2147483647)) (zs_getf (T := TX12) (M := 70) (ci := 12) (j := 29) em180_150 rfl inX12 (by decide) wd_1296 ((congrFun xo_12 209).trans rfl)) ⟨_, rfl, rfl⟩ rfl (fun z150 (hz150 : ((-2147483648) : Int) ≤ z150.toInt) (hz150b : z150.toInt ≤ 2147483647) => ?_)
    refine hA_if (zs_ifle em180_153 (t := 163) (by decide)) (fun (c153 : z150.toInt ≤ 0) => ?_) (fun (c153 : ¬ z150.toInt ≤ 0) => ?_)
    · refine hA_const (k := (-1)) (zs_iconst (v := (-1)) em180_163 (by decide +kernel)) (by decide +kernel) (fun z163 hz163 => ?_)
      refine hA_puti1 (q := ((-2147483648), 2147483647)) (zs_puti zInj0 (T := TX12) (M := 70) (ty := tyX12) (ci := 12) (j := 31) (kd := 0) em180_164 rfl inX12 tyX12_ok nmX12 (by decide) wd_1298 (Or.inl ⟨rfl, rfl⟩) rfl ((congrFun xo_12 37).trans rfl)) ⟨_, rfl, rfl⟩ rfl (fun h => by cases h) (an_lo _) (an_hi _) ?_
      refine hA_aload (zs_aload_n em180_167) rfl ?_
      refine hA_getf0 (id := 13) (zs_getf (T := TX12) (M := 70) (ci := 12) (j := 27) em180_168 rfl inX12 (by decide) wd_1294 ((congrFun xo_12 200).trans rfl)) ⟨_, rfl, rfl⟩ (fun z168 hz168 => ?_)
      refine hA_if (zs_ifle em180_171 (t := 179) (by decide)) (fun (c171 : z168.toInt ≤ 0) => ?_) (fun (c171 : ¬ z168.toInt ≤ 0) => ?_)
      · refine hA_aload (zs_aload_n em180_179) rfl ?_
        refine hA_getf1 (q := ((-2147483648), 2147483647)) (zs_getf (T := TX12) (M := 70) (ci := 12) (j := 29) em180_180 rfl inX12 (by decide) wd_1296 ((congrFun xo_12 209).trans rfl)) ⟨_, rfl, rfl⟩ rfl (fun z180 (hz180 : ((-2147483648) : Int) ≤ z180.toInt) (hz180b : z180.toInt ≤ 2147483647) => ?_)
        refine hA_if (zs_ifle em180_183 (t := 191) (by decide)) (fun (c183 : z180.toInt ≤ 0) => ?_) (fun (c183 : ¬ z180.toInt ≤ 0) => ?_)
        · have hG := hz (by omega)
          refine hA_aload (zs_aload_n em180_191) rfl ?_
          refine hA_aload (zs_aload_n em180_192) rfl ?_
          refine hA_getf0 (id := 23) (zs_getf (T := TX12) (M := 70) (ci := 12) (j := 32) em180_193 rfl inX12 (by decide) wd_1300 ((congrFun xo_12 233).trans rfl)) ⟨_, rfl, rfl⟩ (fun z193 hz193 => ?_)
          refine hA_puti0 (id := 22) (zs_puti zInj0 (T := TX12) (M := 70) (ty := tyX12) (ci := 12) (j := 2) (kd := 0) em180_196 rfl inX12 tyX12_ok nmX12 (by decide) wd_1299 (Or.inl ⟨rfl, rfl⟩) rfl ((congrFun xo_12 230).trans rfl)) ⟨_, rfl, rfl⟩ (fun h => by cases h) ?_
          refine hA_aload (zs_aload_n em180_199) rfl ?_
          refine hA_callV (as := []) (rest := []) (B' := (0, 0)) (zs_invV (T := TX12) em180_200 zl_128 rfl wd_1274 wd_1276 wd_45 ((congrFun xo_12 157).trans rfl) xm_121) rfl ⟨_, rfl⟩ (Nat.le_of_ble_eq_true rfl) rfl ⟨Nat.zero_le _, Nat.zero_le _⟩ (zpre_of zh_128 ⟨(by show 1 ≤ d; omega), ⟨_, _, rfl, rfl, rfl⟩, (hF_cons (lo := 0) (hi := 1) ⟨by rw [zf_same]; omega, by rw [zf_same]; omega⟩ hF_nil), fun _ => (zInv_turn hS.1 (by omega) (by omega) hG.2.2.2.1)⟩) (fun r200 I200 hp200 => ?_)
          replace hp200 := zpost_of zh_128 hp200
          obtain ⟨rfl, rfl, hInv200⟩ := zq_128 hp200
          refine hA_aload (zs_aload_n em180_203) rfl ?_
          refine hA_callV (as := []) (rest := []) (B' := (0, 0)) (zs_invV (T := TX12) em180_204 zl_183 rfl wd_1278 wd_1280 wd_46 ((congrFun xo_12 160).trans rfl) xm_157) rfl ⟨_, rfl⟩ (Nat.le_of_ble_eq_true rfl) rfl ⟨Nat.zero_le _, Nat.zero_le _⟩ (zpre_of zh_183 ⟨(by show 1 ≤ d; omega), ⟨_, _, rfl, rfl, rfl⟩, hF_nil, fun h => by cases h⟩) (fun r204 I204 hp204 => ?_)
          replace hp204 := zpost_of zh_183 hp204
          obtain ⟨rfl, rfl⟩ := zq_183 hp204
          refine hA_aload (zs_aload_n em180_207) rfl ?_
          refine hA_const (k := 0) (zs_iconst (v := 0) em180_208 (by decide +kernel)) (by decide +kernel) (fun z208 hz208 => ?_)
          refine hA_puti0 (id := 20) (zs_puti zInj0 (T := TX12) (M := 70) (ty := tyX12) (ci := 12) (j := 10) (kd := 0) em180_209 rfl inX12 tyX12_ok nmX12 (by decide) wd_1340 (Or.inl ⟨rfl, rfl⟩) rfl ((congrFun xo_12 248).trans rfl)) ⟨_, rfl, rfl⟩ (fun h => by cases h) ?_
          refine hA_aload (zs_aload_n em180_212) rfl ?_
          refine hA_const (k := 0) (zs_iconst (v := 0) em180_213 (by decide +kernel)) (by decide +kernel) (fun z213 hz213 => ?_)
          refine hA_puti0 (id := 21) (zs_puti zInj0 (T := TX12) (M := 70) (ty := tyX12) (ci := 12) (j := 64) (kd := 0) em180_214 rfl inX12 tyX12_ok nmX12 (by decide) wd_1345 (Or.inl ⟨rfl, rfl⟩) rfl ((congrFun xo_12 251).trans rfl)) ⟨_, rfl, rfl⟩ (fun h => by cases h) ?_
          refine hA_const (k := 0) (zs_iconst (v := 0) em180_217 (by decide +kernel)) (by decide +kernel) (fun z217 hz217 => ?_)
          refine hA_istore (L' := [some (.inr (.inl (some 75))), some (.inl z217)]) (zs_istore_n em180_218) ⟨Nat.le_of_ble_eq_true rfl, rfl⟩ rfl ?_
          exact rd_219 hd hf20 hf21 hf22 hR (va := z193) ⟨by omega, by omega⟩ (by omega) (by omega) (zInv_turn hS.1 (by omega) (by omega) hG.2.2.2.1) (by omega)
        · refine hA_aload (zs_aload_n em180_186) rfl ?_
          refine hA_getf1 (q := ((-2147483648), 2147483647)) (zs_getf (T := TX12) (M := 70) (ci := 12) (j := 29) em180_187 rfl inX12 (by decide) wd_1296 ((congrFun xo_12 209).trans rfl)) ⟨_, rfl, rfl⟩ rfl (fun z187 (hz187 : ((-2147483648) : Int) ≤ z187.toInt) (hz187b : z187.toInt ≤ 2147483647) => ?_)
          refine hA_ireturn ⟨rfl, em180_190⟩ ⟨Nat.le_refl _, Nat.le_refl _⟩ ?_
          exact ⟨⟨_, List.mem_cons_self, ⟨_, rfl, an_lo _, an_hi _⟩, (hCh_cons (fun k hk => none_no hk) ⟨by omega, by omega⟩ (hCh_cons (fun k hk => none_no hk) ⟨by omega, by omega⟩ (hCh_cons (fun k hk => none_no hk) ⟨by omega, by omega⟩ (hCh_cons (fun k hk => none_no hk) ⟨by omega, by omega⟩ (hCh_cons (fun k hk => none_no hk) ⟨an_lo _, an_hi _⟩ (hCh_cons (fun k hk => none_no hk) ⟨an_lo _, an_hi _⟩ (hCh_cons (fun k hk => none_no hk) ⟨an_lo _, an_hi _⟩ (hCh_cons (fun k hk => none_no hk) ⟨an_lo _, an_hi _⟩ (hCh_cons (fun k hk => none_no hk) ⟨an_lo _, an_hi _⟩ (hCh_cons (fun k hk => none_no hk) ⟨an_lo _, an_hi _⟩ (hCh_cons (fun k hk => none_no hk) ⟨an_lo _, an_hi _⟩ (hCh_cons (fun k hk => none_no hk) ⟨an_lo _, an_hi _⟩ (hCh_cons (fun k hk => none_no hk) ⟨an_lo _, an_hi _⟩ (hCh_cons (fun k hk => none_no hk) ⟨an_lo _, an_hi _⟩ (hCh_cons (fun k hk => none_no hk) ⟨an_lo _, an_hi _⟩ hCh_nil))))))))))))))), (fun id hl hn => (hR.1 id hl (fun e => by subst e; exact hn _ List.mem_cons_self) (fun e => by subst e; exact hn _ (List.mem_cons_of_mem _ (List.mem_cons_of_mem _ (List.mem_cons_of_mem _ (List.mem_cons_of_mem _ List.mem_cons_self))))) (fun e => by subst e; exact hn _ (List.mem_cons_of_mem _ (List.mem_cons_of_mem _ (List.mem_cons_of_mem _ (List.mem_cons_of_mem _ (List.mem_cons_of_mem _ List.mem_cons_self)))))) (fun e => by subst e; exact hn _ (List.mem_cons_of_mem _ (List.mem_cons_of_mem _ (List.mem_cons_of_mem _ (List.mem_cons_of_mem _ (List.mem_cons_of_mem _ (List.mem_cons_of_mem _ List.mem_cons_self))))))) (fun e => by subst e; exact hn _ (List.mem_cons_of_mem _ (List.mem_cons_of_mem _ (List.mem_cons_of_mem _ (List.mem_cons_of_mem _ (List.mem_cons_of_mem _ (List.mem_cons_of_mem _ (List.mem_cons_of_mem _ List.mem_cons_self)))))))) (fun e => by subst e; exact hn _ (List.mem_cons_of_mem _ (List.mem_cons_of_mem _ (List.mem_cons_of_mem _ (List.mem_cons_of_mem _ (List.mem_cons_of_mem _ (List.mem_cons_of_mem _ (List.mem_cons_of_mem _ (List.mem_cons_of_mem _ List.mem_cons_self))))))))) (fun e => by subst e; exact hn _ (List.mem_cons_of_mem _ (List.mem_cons_of_mem _ (List.mem_cons_of_mem _ (List.mem_cons_of_mem _ (List.mem_cons_of_mem _ (List.mem_cons_of_mem _ (List.mem_cons_of_mem _ (List.mem_cons_of_mem _ (List.mem_cons_of_mem _ List.mem_cons_self)))))))))) (fun e => by subst e; exact hn _ (List.mem_cons_of_mem _ (List.mem_cons_of_mem _ (List.mem_cons_of_mem _ (List.mem_cons_of_mem _ (List.mem_cons_of_mem _ (List.mem_cons_of_mem _ (List.mem_cons_of_mem _ (List.mem_cons_of_mem _ (List.mem_cons_of_mem _ (List.mem_cons_of_mem _ List.mem_cons_self))))))))))) (fun e => by subst e; exact hn _ (List.mem_cons_of_mem _ (List.mem_cons_of_mem _ (List.mem_cons_of_mem _ (List.mem_cons_of_mem _ (List.mem_cons_of_mem _ (List.mem_cons_of_mem _ (List.mem_cons_of_mem _ (List.mem_cons_of_mem _ (List.mem_cons_of_mem _ (List.mem_cons_of_mem _ (List.mem_cons_of_mem _ List.mem_cons_self)))))))))))) (fun e => by subst e; exact hn _ (List.mem_cons_of_mem _ (List.mem_cons_of_mem _ (List.mem_cons_of_mem _ (List.mem_cons_of_mem _ (List.mem_cons_of_mem _ (List.mem_cons_of_mem _ (List.mem_cons_of_mem _ (List.mem_cons_of_mem _ (List.mem_cons_of_mem _ (List.mem_cons_of_mem _ (List.mem_cons_of_mem _ (List.mem_cons_of_mem _ List.mem_cons_self))))))))))))) (fun e => by subst e; exact hn _ (List.mem_cons_of_mem _ (List.mem_cons_of_mem _ (List.mem_cons_of_mem _ (List.mem_cons_of_mem _ (List.mem_cons_of_mem _ (List.mem_cons_of_mem _ (List.mem_cons_of_mem _ (List.mem_cons_of_mem _ (List.mem_cons_of_mem _ (List.mem_cons_of_mem _ (List.mem_cons_of_mem _ (List.mem_cons_of_mem _ (List.mem_cons_of_mem _ List.mem_cons_self)))))))))))))) (fun e => by subst e; exact hn _ (List.mem_cons_of_mem _ (List.mem_cons_of_mem _ (List.mem_cons_of_mem _ (List.mem_cons_of_mem _ (List.mem_cons_of_mem _ (List.mem_cons_of_mem _ (List.mem_cons_of_mem _ (List.mem_cons_of_mem _ (List.mem_cons_of_mem _ (List.mem_cons_of_mem _ (List.mem_cons_of_mem _ (List.mem_cons_of_mem _ (List.mem_cons_of_mem _ (List.mem_cons_of_mem _ List.mem_cons_self))))))))))))))))), (fun _ h => absurd h List.not_mem_nil)⟩, (fun _ => hS.1), (fun h => by cases h)⟩
      · refine hA_aload (zs_aload_n em180_174) rfl ?_
        refine hA_getf0 (id := 13) (zs_getf (T := TX12) (M := 70) (ci := 12) (j := 27) em180_175 rfl inX12 (by decide) wd_1294 ((congrFun xo_12 200).trans rfl)) ⟨_, rfl, rfl⟩ (fun z175 hz175 => ?_)
        refine hA_ireturn ⟨rfl, em180_178⟩ ⟨Nat.le_refl _, Nat.le_refl _⟩ ?_
        exact ⟨⟨_, List.mem_cons_self, ⟨_, rfl, an_lo _, an_hi _⟩, (hCh_cons (fun k hk => none_no hk) ⟨by omega, by omega⟩ (hCh_cons (fun k hk => none_no hk) ⟨by omega, by omega⟩ (hCh_cons (fun k hk => none_no hk) ⟨by omega, by omega⟩ (hCh_cons (fun k hk => none_no hk) ⟨by omega, by omega⟩ (hCh_cons (fun k hk => none_no hk) ⟨an_lo _, an_hi _⟩ (hCh_cons (fun k hk => none_no hk) ⟨an_lo _, an_hi _⟩ (hCh_cons (fun k hk => none_no hk) ⟨an_lo _, an_hi _⟩ (hCh_cons (fun k hk => none_no hk) ⟨an_lo _, an_hi _⟩ (hCh_cons (fun k hk => none_no hk) ⟨an_lo _, an_hi _⟩ (hCh_cons (fun k hk => none_no hk) ⟨an_lo _, an_hi _⟩ (hCh_cons (fun k hk => none_no hk) ⟨an_lo _, an_hi _⟩ (hCh_cons (fun k hk => none_no hk) ⟨an_lo _, an_hi _⟩ (hCh_cons (fun k hk => none_no hk) ⟨an_lo _, an_hi _⟩ (hCh_cons (fun k hk => none_no hk) ⟨an_lo _, an_hi _⟩ (hCh_cons (fun k hk => none_no hk) ⟨an_lo _, an_hi _⟩ hCh_nil))))))))))))))), (fun id hl hn => (hR.1 id hl (fun e => by subst e; exact hn _ List.mem_cons_self) (fun e => by subst e; exact hn _ (List.mem_cons_of_mem _ (List.mem_cons_of_mem _ (List.mem_cons_of_mem _ (List.mem_cons_of_mem _ List.mem_cons_self))))) (fun e => by subst e; exact hn _ (List.mem_cons_of_mem _ (List.mem_cons_of_mem _ (List.mem_cons_of_mem _ (List.mem_cons_of_mem _ (List.mem_cons_of_mem _ List.mem_cons_self)))))) (fun e => by subst e; exact hn _ (List.mem_cons_of_mem _ (List.mem_cons_of_mem _ (List.mem_cons_of_mem _ (List.mem_cons_of_mem _ (List.mem_cons_of_mem _ (List.mem_cons_of_mem _ List.mem_cons_self))))))) (fun e => by subst e; exact hn _ (List.mem_cons_of_mem _ (List.mem_cons_of_mem _ (List.mem_cons_of_mem _ (List.mem_cons_of_mem _ (List.mem_cons_of_mem _ (List.mem_cons_of_mem _ (List.mem_cons_of_mem _ List.mem_cons_self)))))))) (fun e => by subst e; exact hn _ (List.mem_cons_of_mem _ (List.mem_cons_of_mem _ (List.mem_cons_of_mem _ (List.mem_cons_of_mem _ (List.mem_cons_of_mem _ (List.mem_cons_of_mem _ (List.mem_cons_of_mem _ (List.mem_cons_of_mem _ List.mem_cons_self))))))))) (fun e => by subst e; exact hn _ (List.mem_cons_of_mem _ (List.mem_cons_of_mem _ (List.mem_cons_of_mem _ (List.mem_cons_of_mem _ (List.mem_cons_of_mem _ (List.mem_cons_of_mem _ (List.mem_cons_of_mem _ (List.mem_cons_of_mem _ (List.mem_cons_of_mem _ List.mem_cons_self)))))))))) (fun e => by subst e; exact hn _ (List.mem_cons_of_mem _ (List.mem_cons_of_mem _ (List.mem_cons_of_mem _ (List.mem_cons_of_mem _ (List.mem_cons_of_mem _ (List.mem_cons_of_mem _ (List.mem_cons_of_mem _ (List.mem_cons_of_mem _ (List.mem_cons_of_mem _ (List.mem_cons_of_mem _ List.mem_cons_self))))))))))) (fun e => by subst e; exact hn _ (List.mem_cons_of_mem _ (List.mem_cons_of_mem _ (List.mem_cons_of_mem _ (List.mem_cons_of_mem _ (List.mem_cons_of_mem _ (List.mem_cons_of_mem _ (List.mem_cons_of_mem _ (List.mem_cons_of_mem _ (List.mem_cons_of_mem _ (List.mem_cons_of_mem _ (List.mem_cons_of_mem _ List.mem_cons_self)))))))))))) (fun e => by subst e; exact hn _ (List.mem_cons_of_mem _ (List.mem_cons_of_mem _ (List.mem_cons_of_mem _ (List.mem_cons_of_mem _ (List.mem_cons_of_mem _ (List.mem_cons_of_mem _ (List.mem_cons_of_mem _ (List.mem_cons_of_mem _ (List.mem_cons_of_mem _ (List.mem_cons_of_mem _ (List.mem_cons_of_mem _ (List.mem_cons_of_mem _ List.mem_cons_self))))))))))))) (fun e => by subst e; exact hn _ (List.mem_cons_of_mem _ (List.mem_cons_of_mem _ (List.mem_cons_of_mem _ (List.mem_cons_of_mem _ (List.mem_cons_of_mem _ (List.mem_cons_of_mem _ (List.mem_cons_of_mem _ (List.mem_cons_of_mem _ (List.mem_cons_of_mem _ (List.mem_cons_of_mem _ (List.mem_cons_of_mem _ (List.mem_cons_of_mem _ (List.mem_cons_of_mem _ List.mem_cons_self)))))))))))))) (fun e => by subst e; exact hn _ (List.mem_cons_of_mem _ (List.mem_cons_of_mem _ (List.mem_cons_of_mem _ (List.mem_cons_of_mem _ (List.mem_cons_of_mem _ (List.mem_cons_of_mem _ (List.mem_cons_of_mem _ (List.mem_cons_of_mem _ (List.mem_cons_of_mem _ (List.mem_cons_of_mem _ (List.mem_cons_of_mem _ (List.mem_cons_of_mem _ (List.mem_cons_of_mem _ (List.mem_cons_of_mem _ List.mem_cons_self))))))))))))))))), (fun _ h => absurd h List.not_mem_nil)⟩, (fun _ => hS.1), (fun h => by cases h)⟩
    · refine hA_aload (zs_aload_n em180_156) rfl ?_
      refine hA_getf1 (q := ((-2147483648), 2147483647)) (zs_getf (T := TX12) (M := 70) (ci := 12) (j := 30) em180_157 rfl inX12 (by decide) wd_1297 ((congrFun xo_12 212).trans rfl)) ⟨_, rfl, rfl⟩ rfl (fun z157 (hz157 : ((-2147483648) : Int) ≤ z157.toInt) (hz157b : z157.toInt ≤ 2147483647) => ?_)
      refine hA_goto (zs_goto em180_160 (t := 164) (by decide)) ?_
      refine hA_puti1 (q := ((-2147483648), 2147483647)) (zs_puti zInj0 (T := TX12) (M := 70) (ty := tyX12) (ci := 12) (j := 31) (kd := 0) em180_164 rfl inX12 tyX12_ok nmX12 (by decide) wd_1298 (Or.inl ⟨rfl, rfl⟩) rfl ((congrFun xo_12 37).trans rfl)) ⟨_, rfl, rfl⟩ rfl (fun h => by cases h) (an_lo _) (an_hi _) ?_
      refine hA_aload (zs_aload_n em180_167) rfl ?_
      refine hA_getf0 (id := 13) (zs_getf (T := TX12) (M := 70) (ci := 12) (j := 27) em180_168 rfl inX12 (by decide) wd_1294 ((congrFun xo_12 200).trans rfl)) ⟨_, rfl, rfl⟩ (fun z168' hz168' => ?_)
      refine hA_if (zs_ifle em180_171 (t := 179) (by decide)) (fun (c171' : z168'.toInt ≤ 0) => ?_) (fun (c171' : ¬ z168'.toInt ≤ 0) => ?_)
      · refine hA_aload (zs_aload_n em180_179) rfl ?_
        refine hA_getf1 (q := ((-2147483648), 2147483647)) (zs_getf (T := TX12) (M := 70) (ci := 12) (j := 29) em180_180 rfl inX12 (by decide) wd_1296 ((congrFun xo_12 209).trans rfl)) ⟨_, rfl, rfl⟩ rfl (fun z180' (hz180' : ((-2147483648) : Int) ≤ z180'.toInt) (hz180'b : z180'.toInt ≤ 2147483647) => ?_)
        refine hA_if (zs_ifle em180_183 (t := 191) (by decide)) (fun (c183' : z180'.toInt ≤ 0) => ?_) (fun (c183' : ¬ z180'.toInt ≤ 0) => ?_)
        · have hG := hz (by omega)
          refine hA_aload (zs_aload_n em180_191) rfl ?_
          refine hA_aload (zs_aload_n em180_192) rfl ?_
          refine hA_getf0 (id := 23) (zs_getf (T := TX12) (M := 70) (ci := 12) (j := 32) em180_193 rfl inX12 (by decide) wd_1300 ((congrFun xo_12 233).trans rfl)) ⟨_, rfl, rfl⟩ (fun z193' hz193' => ?_)
          refine hA_puti0 (id := 22) (zs_puti zInj0 (T := TX12) (M := 70) (ty := tyX12) (ci := 12) (j := 2) (kd := 0) em180_196 rfl inX12 tyX12_ok nmX12 (by decide) wd_1299 (Or.inl ⟨rfl, rfl⟩) rfl ((congrFun xo_12 230).trans rfl)) ⟨_, rfl, rfl⟩ (fun h => by cases h) ?_
          refine hA_aload (zs_aload_n em180_199) rfl ?_
          refine hA_callV (as := []) (rest := []) (B' := (0, 0)) (zs_invV (T := TX12) em180_200 zl_128 rfl wd_1274 wd_1276 wd_45 ((congrFun xo_12 157).trans rfl) xm_121) rfl ⟨_, rfl⟩ (Nat.le_of_ble_eq_true rfl) rfl ⟨Nat.zero_le _, Nat.zero_le _⟩ (zpre_of zh_128 ⟨(by show 1 ≤ d; omega), ⟨_, _, rfl, rfl, rfl⟩, (hF_cons (lo := 0) (hi := 1) ⟨by rw [zf_same]; omega, by rw [zf_same]; omega⟩ hF_nil), fun _ => (zInv_turn hS.1 (by omega) (by omega) hG.2.2.2.1)⟩) (fun r200 I200 hp200 => ?_)
          replace hp200 := zpost_of zh_128 hp200
          obtain ⟨rfl, rfl, hInv200⟩ := zq_128 hp200
          refine hA_aload (zs_aload_n em180_203) rfl ?_
          refine hA_callV (as := []) (rest := []) (B' := (0, 0)) (zs_invV (T := TX12) em180_204 zl_183 rfl wd_1278 wd_1280 wd_46 ((congrFun xo_12 160).trans rfl) xm_157) rfl ⟨_, rfl⟩ (Nat.le_of_ble_eq_true rfl) rfl ⟨Nat.zero_le _, Nat.zero_le _⟩ (zpre_of zh_183 ⟨(by show 1 ≤ d; omega), ⟨_, _, rfl, rfl, rfl⟩, hF_nil, fun h => by cases h⟩) (fun r204 I204 hp204 => ?_)
          replace hp204 := zpost_of zh_183 hp204
          obtain ⟨rfl, rfl⟩ := zq_183 hp204
          refine hA_aload (zs_aload_n em180_207) rfl ?_
          refine hA_const (k := 0) (zs_iconst (v := 0) em180_208 (by decide +kernel)) (by decide +kernel) (fun z208' hz208' => ?_)
          refine hA_puti0 (id := 20) (zs_puti zInj0 (T := TX12) (M := 70) (ty := tyX12) (ci := 12) (j := 10) (kd := 0) em180_209 rfl inX12 tyX12_ok nmX12 (by decide) wd_1340 (Or.inl ⟨rfl, rfl⟩) rfl ((congrFun xo_12 248).trans rfl)) ⟨_, rfl, rfl⟩ (fun h => by cases h) ?_
          refine hA_aload (zs_aload_n em180_212) rfl ?_
          refine hA_const (k := 0) (zs_iconst (v := 0) em180_213 (by decide +kernel)) (by decide +kernel) (fun z213' hz213' => ?_)
          refine hA_puti0 (id := 21) (zs_puti zInj0 (T := TX12) (M := 70) (ty := tyX12) (ci := 12) (j := 64) (kd := 0) em180_214 rfl inX12 tyX12_ok nmX12 (by decide) wd_1345 (Or.inl ⟨rfl, rfl⟩) rfl ((congrFun xo_12 251).trans rfl)) ⟨_, rfl, rfl⟩ (fun h => by cases h) ?_
          refine hA_const (k := 0) (zs_iconst (v := 0) em180_217 (by decide +kernel)) (by decide +kernel) (fun z217' hz217' => ?_)
          refine hA_istore (L' := [some (.inr (.inl (some 75))), some (.inl z217')]) (zs_istore_n em180_218) ⟨Nat.le_of_ble_eq_true rfl, rfl⟩ rfl ?_
          exact rd_219 hd hf20 hf21 hf22 hR (va := z193') ⟨by omega, by omega⟩ (by omega) (by omega) (zInv_turn hS.1 (by omega) (by omega) hG.2.2.2.1) (by omega)
        · refine hA_aload (zs_aload_n em180_186) rfl ?_
          refine hA_getf1 (q := ((-2147483648), 2147483647)) (zs_getf (T := TX12) (M := 70) (ci := 12) (j := 29) em180_187 rfl inX12 (by decide) wd_1296 ((congrFun xo_12 209).trans rfl)) ⟨_, rfl, rfl⟩ rfl (fun z187' (hz187' : ((-2147483648) : Int) ≤ z187'.toInt) (hz187'b : z187'.toInt ≤ 2147483647) => ?_)
          refine hA_ireturn ⟨rfl, em180_190⟩ ⟨Nat.le_refl _, Nat.le_refl _⟩ ?_
          exact ⟨⟨_, List.mem_cons_self, ⟨_, rfl, an_lo _, an_hi _⟩, (hCh_cons (fun k hk => none_no hk) ⟨by omega, by omega⟩ (hCh_cons (fun k hk => none_no hk) ⟨by omega, by omega⟩ (hCh_cons (fun k hk => none_no hk) ⟨by omega, by omega⟩ (hCh_cons (fun k hk => none_no hk) ⟨by omega, by omega⟩ (hCh_cons (fun k hk => none_no hk) ⟨an_lo _, an_hi _⟩ (hCh_cons (fun k hk => none_no hk) ⟨an_lo _, an_hi _⟩ (hCh_cons (fun k hk => none_no hk) ⟨an_lo _, an_hi _⟩ (hCh_cons (fun k hk => none_no hk) ⟨an_lo _, an_hi _⟩ (hCh_cons (fun k hk => none_no hk) ⟨an_lo _, an_hi _⟩ (hCh_cons (fun k hk => none_no hk) ⟨an_lo _, an_hi _⟩ (hCh_cons (fun k hk => none_no hk) ⟨an_lo _, an_hi _⟩ (hCh_cons (fun k hk => none_no hk) ⟨an_lo _, an_hi _⟩ (hCh_cons (fun k hk => none_no hk) ⟨an_lo _, an_hi _⟩ (hCh_cons (fun k hk => none_no hk) ⟨an_lo _, an_hi _⟩ (hCh_cons (fun k hk => none_no hk) ⟨an_lo _, an_hi _⟩ hCh_nil))))))))))))))), (fun id hl hn => (hR.1 id hl (fun e => by subst e; exact hn _ List.mem_cons_self) (fun e => by subst e; exact hn _ (List.mem_cons_of_mem _ (List.mem_cons_of_mem _ (List.mem_cons_of_mem _ (List.mem_cons_of_mem _ List.mem_cons_self))))) (fun e => by subst e; exact hn _ (List.mem_cons_of_mem _ (List.mem_cons_of_mem _ (List.mem_cons_of_mem _ (List.mem_cons_of_mem _ (List.mem_cons_of_mem _ List.mem_cons_self)))))) (fun e => by subst e; exact hn _ (List.mem_cons_of_mem _ (List.mem_cons_of_mem _ (List.mem_cons_of_mem _ (List.mem_cons_of_mem _ (List.mem_cons_of_mem _ (List.mem_cons_of_mem _ List.mem_cons_self))))))) (fun e => by subst e; exact hn _ (List.mem_cons_of_mem _ (List.mem_cons_of_mem _ (List.mem_cons_of_mem _ (List.mem_cons_of_mem _ (List.mem_cons_of_mem _ (List.mem_cons_of_mem _ (List.mem_cons_of_mem _ List.mem_cons_self)))))))) (fun e => by subst e; exact hn _ (List.mem_cons_of_mem _ (List.mem_cons_of_mem _ (List.mem_cons_of_mem _ (List.mem_cons_of_mem _ (List.mem_cons_of_mem _ (List.mem_cons_of_mem _ (List.mem_cons_of_mem _ (List.mem_cons_of_mem _ List.mem_cons_self))))))))) (fun e => by subst e; exact hn _ (List.mem_cons_of_mem _ (List.mem_cons_of_mem _ (List.mem_cons_of_mem _ (List.mem_cons_of_mem _ (List.mem_cons_of_mem _ (List.mem_cons_of_mem _ (List.mem_cons_of_mem _ (List.mem_cons_of_mem _ (List.mem_cons_of_mem _ List.mem_cons_self)))))))))) (fun e => by subst e; exact hn _ (List.mem_cons_of_mem _ (List.mem_cons_of_mem _ (List.mem_cons_of_mem _ (List.mem_cons_of_mem _ (List.mem_cons_of_mem _ (List.mem_cons_of_mem _ (List.mem_cons_of_mem _ (List.mem_cons_of_mem _ (List.mem_cons_of_mem _ (List.mem_cons_of_mem _ List.mem_cons_self))))))))))) (fun e => by subst e; exact hn _ (List.mem_cons_of_mem _ (List.mem_cons_of_mem _ (List.mem_cons_of_mem _ (List.mem_cons_of_mem _ (List.mem_cons_of_mem _ (List.mem_cons_of_mem _ (List.mem_cons_of_mem _ (List.mem_cons_of_mem _ (List.mem_cons_of_mem _ (List.mem_cons_of_mem _ (List.mem_cons_of_mem _ List.mem_cons_self)))))))))))) (fun e => by subst e; exact hn _ (List.mem_cons_of_mem _ (List.mem_cons_of_mem _ (List.mem_cons_of_mem _ (List.mem_cons_of_mem _ (List.mem_cons_of_mem _ (List.mem_cons_of_mem _ (List.mem_cons_of_mem _ (List.mem_cons_of_mem _ (List.mem_cons_of_mem _ (List.mem_cons_of_mem _ (List.mem_cons_of_mem _ (List.mem_cons_of_mem _ List.mem_cons_self))))))))))))) (fun e => by subst e; exact hn _ (List.mem_cons_of_mem _ (List.mem_cons_of_mem _ (List.mem_cons_of_mem _ (List.mem_cons_of_mem _ (List.mem_cons_of_mem _ (List.mem_cons_of_mem _ (List.mem_cons_of_mem _ (List.mem_cons_of_mem _ (List.mem_cons_of_mem _ (List.mem_cons_of_mem _ (List.mem_cons_of_mem _ (List.mem_cons_of_mem _ (List.mem_cons_of_mem _ List.mem_cons_self)))))))))))))) (fun e => by subst e; exact hn _ (List.mem_cons_of_mem _ (List.mem_cons_of_mem _ (List.mem_cons_of_mem _ (List.mem_cons_of_mem _ (List.mem_cons_of_mem _ (List.mem_cons_of_mem _ (List.mem_cons_of_mem _ (List.mem_cons_of_mem _ (List.mem_cons_of_mem _ (List.mem_cons_of_mem _ (List.mem_cons_of_mem _ (List.mem_cons_of_mem _ (List.mem_cons_of_mem _ (List.mem_cons_of_mem _ List.mem_cons_self))))))))))))))))), (fun _ h => absurd h List.not_mem_nil)⟩, (fun _ => hS.1), (fun h => by cases h)⟩
      · refine hA_aload (zs_aload_n em180_174) rfl ?_
        refine hA_getf0 (id := 13) (zs_getf (T := TX12) (M := 70) (ci := 12) (j := 27) em180_175 rfl inX12 (by decide) wd_1294 ((congrFun xo_12 200).trans rfl)) ⟨_, rfl, rfl⟩ (fun z175' hz175' => ?_)
        refine hA_ireturn ⟨rfl, em180_178⟩ ⟨Nat.le_refl _, Nat.le_refl _⟩ ?_
        exact ⟨⟨_, List.mem_cons_self, ⟨_, rfl, an_lo _, an_hi _⟩, (hCh_cons (fun k hk => none_no hk) ⟨by omega, by omega⟩ (hCh_cons (fun k hk => none_no hk) ⟨by omega, by omega⟩ (hCh_cons (fun k hk => none_no hk) ⟨by omega, by omega⟩ (hCh_cons (fun k hk => none_no hk) ⟨by omega, by omega⟩ (hCh_cons (fun k hk => none_no hk) ⟨an_lo _, an_hi _⟩ (hCh_cons (fun k hk => none_no hk) ⟨an_lo _, an_hi _⟩ (hCh_cons (fun k hk => none_no hk) ⟨an_lo _, an_hi _⟩ (hCh_cons (fun k hk => none_no hk) ⟨an_lo _, an_hi _⟩ (hCh_cons (fun k hk => none_no hk) ⟨an_lo _, an_hi _⟩ (hCh_cons (fun k hk => none_no hk) ⟨an_lo _, an_hi _⟩ (hCh_cons (fun k hk => none_no hk) ⟨an_lo _, an_hi _⟩ (hCh_cons (fun k hk => none_no hk) ⟨an_lo _, an_hi _⟩ (hCh_cons (fun k hk => none_no hk) ⟨an_lo _, an_hi _⟩ (hCh_cons (fun k hk => none_no hk) ⟨an_lo _, an_hi _⟩ (hCh_cons (fun k hk => none_no hk) ⟨an_lo _, an_hi _⟩ hCh_nil))))))))))))))), (fun id hl hn => (hR.1 id hl (fun e => by subst e; exact hn _ List.mem_cons_self) (fun e => by subst e; exact hn _ (List.mem_cons_of_mem _ (List.mem_cons_of_mem _ (List.mem_cons_of_mem _ (List.mem_cons_of_mem _ List.mem_cons_self))))) (fun e => by subst e; exact hn _ (List.mem_cons_of_mem _ (List.mem_cons_of_mem _ (List.mem_cons_of_mem _ (List.mem_cons_of_mem _ (List.mem_cons_of_mem _ List.mem_cons_self)))))) (fun e => by subst e; exact hn _ (List.mem_cons_of_mem _ (List.mem_cons_of_mem _ (List.mem_cons_of_mem _ (List.mem_cons_of_mem _ (List.mem_cons_of_mem _ (List.mem_cons_of_mem _ List.mem_cons_self))))))) (fun e => by subst e; exact hn _ (List.mem_cons_of_mem _ (List.mem_cons_of_mem _ (List.mem_cons_of_mem _ (List.mem_cons_of_mem _ (List.mem_cons_of_mem _ (List.mem_cons_of_mem _ (List.mem_cons_of_mem _ List.mem_cons_self)))))))) (fun e => by subst e; exact hn _ (List.mem_cons_of_mem _ (List.mem_cons_of_mem _ (List.mem_cons_of_mem _ (List.mem_cons_of_mem _ (List.mem_cons_of_mem _ (List.mem_cons_of_mem _ (List.mem_cons_of_mem _ (List.mem_cons_of_mem _ List.mem_cons_self))))))))) (fun e => by subst e; exact hn _ (List.mem_cons_of_mem _ (List.mem_cons_of_mem _ (List.mem_cons_of_mem _ (List.mem_cons_of_mem _ (List.mem_cons_of_mem _ (List.mem_cons_of_mem _ (List.mem_cons_of_mem _ (List.mem_cons_of_mem _ (List.mem_cons_of_mem _ List.mem_cons_self)))))))))) (fun e => by subst e; exact hn _ (List.mem_cons_of_mem _ (List.mem_cons_of_mem _ (List.mem_cons_of_mem _ (List.mem_cons_of_mem _ (List.mem_cons_of_mem _ (List.mem_cons_of_mem _ (List.mem_cons_of_mem _ (List.mem_cons_of_mem _ (List.mem_cons_of_mem _ (List.mem_cons_of_mem _ List.mem_cons_self))))))))))) (fun e => by subst e; exact hn _ (List.mem_cons_of_mem _ (List.mem_cons_of_mem _ (List.mem_cons_of_mem _ (List.mem_cons_of_mem _ (List.mem_cons_of_mem _ (List.mem_cons_of_mem _ (List.mem_cons_of_mem _ (List.mem_cons_of_mem _ (List.mem_cons_of_mem _ (List.mem_cons_of_mem _ (List.mem_cons_of_mem _ List.mem_cons_self)))))))))))) (fun e => by subst e; exact hn _ (List.mem_cons_of_mem _ (List.mem_cons_of_mem _ (List.mem_cons_of_mem _ (List.mem_cons_of_mem _ (List.mem_cons_of_mem _ (List.mem_cons_of_mem _ (List.mem_cons_of_mem _ (List.mem_cons_of_mem _ (List.mem_cons_of_mem _ (List.mem_cons_of_mem _ (List.mem_cons_of_mem _ (List.mem_cons_of_mem _ List.mem_cons_self))))))))))))) (fun e => by subst e; exact hn _ (List.mem_cons_of_mem _ (List.mem_cons_of_mem _ (List.mem_cons_of_mem _ (List.mem_cons_of_mem _ (List.mem_cons_of_mem _ (List.mem_cons_of_mem _ (List.mem_cons_of_mem _ (List.mem_cons_of_mem _ (List.mem_cons_of_mem _ (List.mem_cons_of_mem _ (List.mem_cons_of_mem _ (List.mem_cons_of_mem _ (List.mem_cons_of_mem _ List.mem_cons_self)))))))))))))) (fun e => by subst e; exact hn _ (List.mem_cons_of_mem _ (List.mem_cons_of_mem _ (List.mem_cons_of_mem _ (List.mem_cons_of_mem _ (List.mem_cons_of_mem _ (List.mem_cons_of_mem _ (List.mem_cons_of_mem _ (List.mem_cons_of_mem _ (List.mem_cons_of_mem _ (List.mem_cons_of_mem _ (List.mem_cons_of_mem _ (List.mem_cons_of_mem _ (List.mem_cons_of_mem _ (List.mem_cons_of_mem _ List.mem_cons_self))))))))))))))))), (fun _ h => absurd h List.not_mem_nil)⟩, (fun _ => hS.1), (fun h => by cases h)⟩
  · refine hA_aload (zs_aload_n em180_142) rfl ?_
    refine hA_getf1 (q := ((-2147483648), 2147483647)) (zs_getf (T := TX12) (M := 70) (ci := 12) (j := 28) em180_143 rfl inX12 (by decide) wd_1295 ((congrFun xo_12 206).trans rfl)) ⟨_, rfl, rfl⟩ rfl (fun z143 (hz143 : ((-2147483648) : Int) ≤ z143.toInt) (hz143b : z143.toInt ≤ 2147483647) => ?_)
    refine hA_goto (zs_goto em180_146 (t := 164) (by decide)) ?_
    refine hA_puti1 (q := ((-2147483648), 2147483647)) (zs_puti zInj0 (T := TX12) (M := 70) (ty := tyX12) (ci := 12) (j := 31) (kd := 0) em180_164 rfl inX12 tyX12_ok nmX12 (by decide) wd_1298 (Or.inl ⟨rfl, rfl⟩) rfl ((congrFun xo_12 37).trans rfl)) ⟨_, rfl, rfl⟩ rfl (fun h => by cases h) (an_lo _) (an_hi _) ?_
    refine hA_aload (zs_aload_n em180_167) rfl ?_
    refine hA_getf0 (id := 13) (zs_getf (T := TX12) (M := 70) (ci := 12) (j := 27) em180_168 rfl inX12 (by decide) wd_1294 ((congrFun xo_12 200).trans rfl)) ⟨_, rfl, rfl⟩ (fun z168'' hz168'' => ?_)
    refine hA_if (zs_ifle em180_171 (t := 179) (by decide)) (fun (c171'' : z168''.toInt ≤ 0) => ?_) (fun (c171'' : ¬ z168''.toInt ≤ 0) => ?_)
    · refine hA_aload (zs_aload_n em180_179) rfl ?_
      refine hA_getf1 (q := ((-2147483648), 2147483647)) (zs_getf (T := TX12) (M := 70) (ci := 12) (j := 29) em180_180 rfl inX12 (by decide) wd_1296 ((congrFun xo_12 209).trans rfl)) ⟨_, rfl, rfl⟩ rfl (fun z180'' (hz180'' : ((-2147483648) : Int) ≤ z180''.toInt) (hz180''b : z180''.toInt ≤ 2147483647) => ?_)
      refine hA_if (zs_ifle em180_183 (t := 191) (by decide)) (fun (c183'' : z180''.toInt ≤ 0) => ?_) (fun (c183'' : ¬ z180''.toInt ≤ 0) => ?_)
      · have hG := hz (by omega)
        refine hA_aload (zs_aload_n em180_191) rfl ?_
        refine hA_aload (zs_aload_n em180_192) rfl ?_
        refine hA_getf0 (id := 23) (zs_getf (T := TX12) (M := 70) (ci := 12) (j := 32) em180_193 rfl inX12 (by decide) wd_1300 ((congrFun xo_12 233).trans rfl)) ⟨_, rfl, rfl⟩ (fun z193'' hz193'' => ?_)
        refine hA_puti0 (id := 22) (zs_puti zInj0 (T := TX12) (M := 70) (ty := tyX12) (ci := 12) (j := 2) (kd := 0) em180_196 rfl inX12 tyX12_ok nmX12 (by decide) wd_1299 (Or.inl ⟨rfl, rfl⟩) rfl ((congrFun xo_12 230).trans rfl)) ⟨_, rfl, rfl⟩ (fun h => by cases h) ?_
        refine hA_aload (zs_aload_n em180_199) rfl ?_
        refine hA_callV (as := []) (rest := []) (B' := (0, 0)) (zs_invV (T := TX12) em180_200 zl_128 rfl wd_1274 wd_1276 wd_45 ((congrFun xo_12 157).trans rfl) xm_121) rfl ⟨_, rfl⟩ (Nat.le_of_ble_eq_true rfl) rfl ⟨Nat.zero_le _, Nat.zero_le _⟩ (zpre_of zh_128 ⟨(by show 1 ≤ d; omega), ⟨_, _, rfl, rfl, rfl⟩, (hF_cons (lo := 0) (hi := 1) ⟨by rw [zf_same]; omega, by rw [zf_same]; omega⟩ hF_nil), fun _ => (zInv_turn hS.1 (by omega) (by omega) hG.2.2.2.1)⟩) (fun r200 I200 hp200 => ?_)
        replace hp200 := zpost_of zh_128 hp200
        obtain ⟨rfl, rfl, hInv200⟩ := zq_128 hp200
        refine hA_aload (zs_aload_n em180_203) rfl ?_
        refine hA_callV (as := []) (rest := []) (B' := (0, 0)) (zs_invV (T := TX12) em180_204 zl_183 rfl wd_1278 wd_1280 wd_46 ((congrFun xo_12 160).trans rfl) xm_157) rfl ⟨_, rfl⟩ (Nat.le_of_ble_eq_true rfl) rfl ⟨Nat.zero_le _, Nat.zero_le _⟩ (zpre_of zh_183 ⟨(by show 1 ≤ d; omega), ⟨_, _, rfl, rfl, rfl⟩, hF_nil, fun h => by cases h⟩) (fun r204 I204 hp204 => ?_)
        replace hp204 := zpost_of zh_183 hp204
        obtain ⟨rfl, rfl⟩ := zq_183 hp204
        refine hA_aload (zs_aload_n em180_207) rfl ?_
        refine hA_const (k := 0) (zs_iconst (v := 0) em180_208 (by decide +kernel)) (by decide +kernel) (fun z208'' hz208'' => ?_)
        refine hA_puti0 (id := 20) (zs_puti zInj0 (T := TX12) (M := 70) (ty := tyX12) (ci := 12) (j := 10) (kd := 0) em180_209 rfl inX12 tyX12_ok nmX12 (by decide) wd_1340 (Or.inl ⟨rfl, rfl⟩) rfl ((congrFun xo_12 248).trans rfl)) ⟨_, rfl, rfl⟩ (fun h => by cases h) ?_
        refine hA_aload (zs_aload_n em180_212) rfl ?_
        refine hA_const (k := 0) (zs_iconst (v := 0) em180_213 (by decide +kernel)) (by decide +kernel) (fun z213'' hz213'' => ?_)
        refine hA_puti0 (id := 21) (zs_puti zInj0 (T := TX12) (M := 70) (ty := tyX12) (ci := 12) (j := 64) (kd := 0) em180_214 rfl inX12 tyX12_ok nmX12 (by decide) wd_1345 (Or.inl ⟨rfl, rfl⟩) rfl ((congrFun xo_12 251).trans rfl)) ⟨_, rfl, rfl⟩ (fun h => by cases h) ?_
        refine hA_const (k := 0) (zs_iconst (v := 0) em180_217 (by decide +kernel)) (by decide +kernel) (fun z217'' hz217'' => ?_)
        refine hA_istore (L' := [some (.inr (.inl (some 75))), some (.inl z217'')]) (zs_istore_n em180_218) ⟨Nat.le_of_ble_eq_true rfl, rfl⟩ rfl ?_
        exact rd_219 hd hf20 hf21 hf22 hR (va := z193'') ⟨by omega, by omega⟩ (by omega) (by omega) (zInv_turn hS.1 (by omega) (by omega) hG.2.2.2.1) (by omega)
      · refine hA_aload (zs_aload_n em180_186) rfl ?_
        refine hA_getf1 (q := ((-2147483648), 2147483647)) (zs_getf (T := TX12) (M := 70) (ci := 12) (j := 29) em180_187 rfl inX12 (by decide) wd_1296 ((congrFun xo_12 209).trans rfl)) ⟨_, rfl, rfl⟩ rfl (fun z187'' (hz187'' : ((-2147483648) : Int) ≤ z187''.toInt) (hz187''b : z187''.toInt ≤ 2147483647) => ?_)
        refine hA_ireturn ⟨rfl, em180_190⟩ ⟨Nat.le_refl _, Nat.le_refl _⟩ ?_
        exact ⟨⟨_, List.mem_cons_self, ⟨_, rfl, an_lo _, an_hi _⟩, (hCh_cons (fun k hk => none_no hk) ⟨by omega, by omega⟩ (hCh_cons (fun k hk => none_no hk) ⟨by omega, by omega⟩ (hCh_cons (fun k hk => none_no hk) ⟨by omega, by omega⟩ (hCh_cons (fun k hk => none_no hk) ⟨by omega, by omega⟩ (hCh_cons (fun k hk => none_no hk) ⟨an_lo _, an_hi _⟩ (hCh_cons (fun k hk => none_no hk) ⟨an_lo _, an_hi _⟩ (hCh_cons (fun k hk => none_no hk) ⟨an_lo _, an_hi _⟩ (hCh_cons (fun k hk => none_no hk) ⟨an_lo _, an_hi _⟩ (hCh_cons (fun k hk => none_no hk) ⟨an_lo _, an_hi _⟩ (hCh_cons (fun k hk => none_no hk) ⟨an_lo _, an_hi _⟩ (hCh_cons (fun k hk => none_no hk) ⟨an_lo _, an_hi _⟩ (hCh_cons (fun k hk => none_no hk) ⟨an_lo _, an_hi _⟩ (hCh_cons (fun k hk => none_no hk) ⟨an_lo _, an_hi _⟩ (hCh_cons (fun k hk => none_no hk) ⟨an_lo _, an_hi _⟩ (hCh_cons (fun k hk => none_no hk) ⟨an_lo _, an_hi _⟩ hCh_nil))))))))))))))), (fun id hl hn => (hR.1 id hl (fun e => by subst e; exact hn _ List.mem_cons_self) (fun e => by subst e; exact hn _ (List.mem_cons_of_mem _ (List.mem_cons_of_mem _ (List.mem_cons_of_mem _ (List.mem_cons_of_mem _ List.mem_cons_self))))) (fun e => by subst e; exact hn _ (List.mem_cons_of_mem _ (List.mem_cons_of_mem _ (List.mem_cons_of_mem _ (List.mem_cons_of_mem _ (List.mem_cons_of_mem _ List.mem_cons_self)))))) (fun e => by subst e; exact hn _ (List.mem_cons_of_mem _ (List.mem_cons_of_mem _ (List.mem_cons_of_mem _ (List.mem_cons_of_mem _ (List.mem_cons_of_mem _ (List.mem_cons_of_mem _ List.mem_cons_self))))))) (fun e => by subst e; exact hn _ (List.mem_cons_of_mem _ (List.mem_cons_of_mem _ (List.mem_cons_of_mem _ (List.mem_cons_of_mem _ (List.mem_cons_of_mem _ (List.mem_cons_of_mem _ (List.mem_cons_of_mem _ List.mem_cons_self)))))))) (fun e => by subst e; exact hn _ (List.mem_cons_of_mem _ (List.mem_cons_of_mem _ (List.mem_cons_of_mem _ (List.mem_cons_of_mem _ (List.mem_cons_of_mem _ (List.mem_cons_of_mem _ (List.mem_cons_of_mem _ (List.mem_cons_of_mem _ List.mem_cons_self))))))))) (fun e => by subst e; exact hn _ (List.mem_cons_of_mem _ (List.mem_cons_of_mem _ (List.mem_cons_of_mem _ (List.mem_cons_of_mem _ (List.mem_cons_of_mem _ (List.mem_cons_of_mem _ (List.mem_cons_of_mem _ (List.mem_cons_of_mem _ (List.mem_cons_of_mem _ List.mem_cons_self)))))))))) (fun e => by subst e; exact hn _ (List.mem_cons_of_mem _ (List.mem_cons_of_mem _ (List.mem_cons_of_mem _ (List.mem_cons_of_mem _ (List.mem_cons_of_mem _ (List.mem_cons_of_mem _ (List.mem_cons_of_mem _ (List.mem_cons_of_mem _ (List.mem_cons_of_mem _ (List.mem_cons_of_mem _ List.mem_cons_self))))))))))) (fun e => by subst e; exact hn _ (List.mem_cons_of_mem _ (List.mem_cons_of_mem _ (List.mem_cons_of_mem _ (List.mem_cons_of_mem _ (List.mem_cons_of_mem _ (List.mem_cons_of_mem _ (List.mem_cons_of_mem _ (List.mem_cons_of_mem _ (List.mem_cons_of_mem _ (List.mem_cons_of_mem _ (List.mem_cons_of_mem _ List.mem_cons_self)))))))))))) (fun e => by subst e; exact hn _ (List.mem_cons_of_mem _ (List.mem_cons_of_mem _ (List.mem_cons_of_mem _ (List.mem_cons_of_mem _ (List.mem_cons_of_mem _ (List.mem_cons_of_mem _ (List.mem_cons_of_mem _ (List.mem_cons_of_mem _ (List.mem_cons_of_mem _ (List.mem_cons_of_mem _ (List.mem_cons_of_mem _ (List.mem_cons_of_mem _ List.mem_cons_self))))))))))))) (fun e => by subst e; exact hn _ (List.mem_cons_of_mem _ (List.mem_cons_of_mem _ (List.mem_cons_of_mem _ (List.mem_cons_of_mem _ (List.mem_cons_of_mem _ (List.mem_cons_of_mem _ (List.mem_cons_of_mem _ (List.mem_cons_of_mem _ (List.mem_cons_of_mem _ (List.mem_cons_of_mem _ (List.mem_cons_of_mem _ (List.mem_cons_of_mem _ (List.mem_cons_of_mem _ List.mem_cons_self)))))))))))))) (fun e => by subst e; exact hn _ (List.mem_cons_of_mem _ (List.mem_cons_of_mem _ (List.mem_cons_of_mem _ (List.mem_cons_of_mem _ (List.mem_cons_of_mem _ (List.mem_cons_of_mem _ (List.mem_cons_of_mem _ (List.mem_cons_of_mem _ (List.mem_cons_of_mem _ (List.mem_cons_of_mem _ (List.mem_cons_of_mem _ (List.mem_cons_of_mem _ (List.mem_cons_of_mem _ (List.mem_cons_of_mem _ List.mem_cons_self))))))))))))))))), (fun _ h => absurd h List.not_mem_nil)⟩, (fun _ => hS.1), (fun h => by cases h)⟩
    · refine hA_aload (zs_aload_n em180_174) rfl ?_
      refine hA_getf0 (id := 13) (zs_getf (T := TX12) (M := 70) (ci := 12) (j := 27) em180_175 rfl inX12 (by decide) wd_1294 ((congrFun xo_12 200).trans rfl)) ⟨_, rfl, rfl⟩ (fun z175'' hz175'' => ?_)
      refine hA_ireturn ⟨rfl, em180_178⟩ ⟨Nat.le_refl _, Nat.le_refl _⟩ ?_
      exact ⟨⟨_, List.mem_cons_self, ⟨_, rfl, an_lo _, an_hi _⟩, (hCh_cons (fun k hk => none_no hk) ⟨by omega, by omega⟩ (hCh_cons (fun k hk => none_no hk) ⟨by omega, by omega⟩ (hCh_cons (fun k hk => none_no hk) ⟨by omega, by omega⟩ (hCh_cons (fun k hk => none_no hk) ⟨by omega, by omega⟩ (hCh_cons (fun k hk => none_no hk) ⟨an_lo _, an_hi _⟩ (hCh_cons (fun k hk => none_no hk) ⟨an_lo _, an_hi _⟩ (hCh_cons (fun k hk => none_no hk) ⟨an_lo _, an_hi _⟩ (hCh_cons (fun k hk => none_no hk) ⟨an_lo _, an_hi _⟩ (hCh_cons (fun k hk => none_no hk) ⟨an_lo _, an_hi _⟩ (hCh_cons (fun k hk => none_no hk) ⟨an_lo _, an_hi _⟩ (hCh_cons (fun k hk => none_no hk) ⟨an_lo _, an_hi _⟩ (hCh_cons (fun k hk => none_no hk) ⟨an_lo _, an_hi _⟩ (hCh_cons (fun k hk => none_no hk) ⟨an_lo _, an_hi _⟩ (hCh_cons (fun k hk => none_no hk) ⟨an_lo _, an_hi _⟩ (hCh_cons (fun k hk => none_no hk) ⟨an_lo _, an_hi _⟩ hCh_nil))))))))))))))), (fun id hl hn => (hR.1 id hl (fun e => by subst e; exact hn _ List.mem_cons_self) (fun e => by subst e; exact hn _ (List.mem_cons_of_mem _ (List.mem_cons_of_mem _ (List.mem_cons_of_mem _ (List.mem_cons_of_mem _ List.mem_cons_self))))) (fun e => by subst e; exact hn _ (List.mem_cons_of_mem _ (List.mem_cons_of_mem _ (List.mem_cons_of_mem _ (List.mem_cons_of_mem _ (List.mem_cons_of_mem _ List.mem_cons_self)))))) (fun e => by subst e; exact hn _ (List.mem_cons_of_mem _ (List.mem_cons_of_mem _ (List.mem_cons_of_mem _ (List.mem_cons_of_mem _ (List.mem_cons_of_mem _ (List.mem_cons_of_mem _ List.mem_cons_self))))))) (fun e => by subst e; exact hn _ (List.mem_cons_of_mem _ (List.mem_cons_of_mem _ (List.mem_cons_of_mem _ (List.mem_cons_of_mem _ (List.mem_cons_of_mem _ (List.mem_cons_of_mem _ (List.mem_cons_of_mem _ List.mem_cons_self)))))))) (fun e => by subst e; exact hn _ (List.mem_cons_of_mem _ (List.mem_cons_of_mem _ (List.mem_cons_of_mem _ (List.mem_cons_of_mem _ (List.mem_cons_of_mem _ (List.mem_cons_of_mem _ (List.mem_cons_of_mem _ (List.mem_cons_of_mem _ List.mem_cons_self))))))))) (fun e => by subst e; exact hn _ (List.mem_cons_of_mem _ (List.mem_cons_of_mem _ (List.mem_cons_of_mem _ (List.mem_cons_of_mem _ (List.mem_cons_of_mem _ (List.mem_cons_of_mem _ (List.mem_cons_of_mem _ (List.mem_cons_of_mem _ (List.mem_cons_of_mem _ List.mem_cons_self)))))))))) (fun e => by subst e; exact hn _ (List.mem_cons_of_mem _ (List.mem_cons_of_mem _ (List.mem_cons_of_mem _ (List.mem_cons_of_mem _ (List.mem_cons_of_mem _ (List.mem_cons_of_mem _ (List.mem_cons_of_mem _ (List.mem_cons_of_mem _ (List.mem_cons_of_mem _ (List.mem_cons_of_mem _ List.mem_cons_self))))))))))) (fun e => by subst e; exact hn _ (List.mem_cons_of_mem _ (List.mem_cons_of_mem _ (List.mem_cons_of_mem _ (List.mem_cons_of_mem _ (List.mem_cons_of_mem _ (List.mem_cons_of_mem _ (List.mem_cons_of_mem _ (List.mem_cons_of_mem _ (List.mem_cons_of_mem _ (List.mem_cons_of_mem _ (List.mem_cons_of_mem _ List.mem_cons_self)))))))))))) (fun e => by subst e; exact hn _ (List.mem_cons_of_mem _ (List.mem_cons_of_mem _ (List.mem_cons_of_mem _ (List.mem_cons_of_mem _ (List.mem_cons_of_mem _ (List.mem_cons_of_mem _ (List.mem_cons_of_mem _ (List.mem_cons_of_mem _ (List.mem_cons_of_mem _ (List.mem_cons_of_mem _ (List.mem_cons_of_mem _ (List.mem_cons_of_mem _ List.mem_cons_self))))))))))))) (fun e => by subst e; exact hn _ (List.mem_cons_of_mem _ (List.mem_cons_of_mem _ (List.mem_cons_of_mem _ (List.mem_cons_of_mem _ (List.mem_cons_of_mem _ (List.mem_cons_of_mem _ (List.mem_cons_of_mem _ (List.mem_cons_of_mem _ (List.mem_cons_of_mem _ (List.mem_cons_of_mem _ (List.mem_cons_of_mem _ (List.mem_cons_of_mem _ (List.mem_cons_of_mem _ List.mem_cons_self)))))))))))))) (fun e => by subst e; exact hn _ (List.mem_cons_of_mem _ (List.mem_cons_of_mem _ (List.mem_cons_of_mem _ (List.mem_cons_of_mem _ (List.mem_cons_of_mem _ (List.mem_cons_of_mem _ (List.mem_cons_of_mem _ (List.mem_cons_of_mem _ (List.mem_cons_of_mem _ (List.mem_cons_of_mem _ (List.mem_cons_of_mem _ (List.mem_cons_of_mem _ (List.mem_cons_of_mem _ (List.mem_cons_of_mem _ List.mem_cons_self))))))))))))))))), (fun _ h => absurd h List.not_mem_nil)⟩, (fun _ => hS.1), (fun h => by cases h)⟩
set_option maxRecDepth 10000 in
set_option maxHeartbeats 4000000 in
theorem rd_112 {d : Nat} {I : zI} (hd : 60 ≤ d + 1) (hf20 : 0 ≤ zf I 20 ∧ zf I 20 ≤ 30) (hf21 : 0 ≤ zf I 21 ∧ zf I 21 ≤ 20) (hf22 : 0 ≤ zf I 22 ∧ zf I 22 ≤ 1) {i : Int32} (hc : zCalls zG0 PZ zbd zpre zpost d) : ∀ (n : Nat) (IJ : zI) (hR : rdF I IJ) (hS : pS IJ 110) (hz : zf IJ 13 = 0 → pG IJ 0), rdM IJ = n → zAt zG0 PZ zbd zpre zpost (d, (zbd 207).1, (zbd 207).2) prog_14_method_20_code "CapitalCaseModel" (zRet prog_14_method_20_code (some .int) (zbd 207) (fun r I' => aPost zInv zc_207 [.inr (.inl (some 75))] I r I')) 112 [some (.inr (.inl (some 75))), some (.inl i)] [] IJ (0, 0) := by
    intro n
    induction n using Nat.strongRecOn with
    | ind n ih =>
      intro IJ hR hS hz hn
      obtain ⟨-, ⟨h12a, h12b⟩, h13a, h23, ⟨h22a, h22b⟩, -, -, -⟩ := id hS
      refine hA_aload (zs_aload_n em180_112) rfl ?_
      refine hA_getf0 (id := 13) (zs_getf (T := TX12) (M := 70) (ci := 12) (j := 27) em180_113 rfl inX12 (by decide) wd_1294 ((congrFun xo_12 200).trans rfl)) ⟨_, rfl, rfl⟩ (fun z113 hz113 => ?_)
      refine hA_if (zs_ifne em180_116 (t := 134) (by decide)) (fun (c116 : ¬ z113.toInt = 0) => ?_) (fun (c116 : ¬ ¬ z113.toInt = 0) => ?_)
      · exact rd_134 hd hf20 hf21 hf22 hR hc hS hz
      · refine hA_aload (zs_aload_n em180_119) rfl ?_
        refine hA_const (k := 0) (zs_iconst (v := 0) em180_120 (by decide +kernel)) (by decide +kernel) (fun z120 hz120 => ?_)
        refine hA_callV (as := [.inl z120]) (rest := []) (B' := (0, 0)) (zs_invV (T := TX12) em180_121 zl_285 rfl wd_1531 wd_1533 wd_52 ((congrFun xo_12 218).trans rfl) xm_149) rfl ⟨_, rfl⟩ (Nat.le_of_ble_eq_true rfl) rfl ⟨Nat.zero_le _, Nat.zero_le _⟩ (hpre_of rfl (show hpr_285 d [.inr (.inl (some 75)), .inl z120] IJ from ⟨by show 1 ≤ d; omega, z120, rfl, ⟨by omega, by omega⟩⟩)) (fun r121 I121 hp121 => ?_)
        replace hp121 : hpo_285 _ _ _ _ := hpost_of rfl hp121
        obtain ⟨z121, rfl, rfl, ⟨hz121, hz121f, hz121k⟩ | ⟨hz121, hz121k⟩⟩ := hp121 z120 rfl
        · refine hA_if (zs_ifne em180_124 (t := 134) (by decide)) (fun (c124 : ¬ z121.toInt = 0) => ?_) (fun (c124 : ¬ ¬ z121.toInt = 0) => ?_)
          · exact rd_134 hd hf20 hf21 hf22 hR hc hS hz
          · exfalso
            omega
        · refine hA_if (zs_ifne em180_124 (t := 134) (by decide)) (fun (c124' : ¬ z121.toInt = 0) => ?_) (fun (c124' : ¬ ¬ z121.toInt = 0) => ?_)
          · exfalso
            omega
          · refine hA_aload (zs_aload_n em180_127) rfl ?_
            refine hA_callV (as := []) (rest := []) (B' := (0, 0)) (zs_invV (T := TX12) em180_128 zl_251 rfl wd_1535 wd_1537 wd_53 ((congrFun xo_12 245).trans rfl) xm_219) rfl ⟨_, rfl⟩ (Nat.le_of_ble_eq_true rfl) rfl ⟨Nat.zero_le _, Nat.zero_le _⟩ (hpre_of rfl (show hpr_251 d [.inr (.inl (some 75))] IJ from ⟨by show 10 ≤ d; omega, rfl, ⟨pS_mo hS (by have := (hz (by omega)).2.2.2.2; omega), by omega, hz (by omega)⟩⟩)) (fun r128 I128 hp128 => ?_)
            replace hp128 : hpo_251 _ _ _ _ := hpost_of rfl hp128
            replace hp128 := hp128 rfl
            obtain ⟨rfl, o1, o2, o3⟩ := hp128
            refine hA_goto (zs_goto em180_131 (t := 112) (by decide)) ?_
            exact ih _ (by rw [← hn]; exact rdM_d (by omega) (by omega) (fun h => (o3 h).1)) I128 (rdF_s hR o1) o2 (fun h => (o3 h).2) rfl
set_option maxRecDepth 10000 in
set_option maxHeartbeats 4000000 in
theorem rd_36 {d : Nat} {I : zI} (hd : 60 ≤ d + 1) (hf20 : 0 ≤ zf I 20 ∧ zf I 20 ≤ 30) (hf21 : 0 ≤ zf I 21 ∧ zf I 21 ≤ 20) (hf22 : 0 ≤ zf I 22 ∧ zf I 22 ≤ 1) {IJ : zI} {i : Int32} (hc : zCalls zG0 PZ zbd zpre zpost d) (hT : rdT I IJ) : zAt zG0 PZ zbd zpre zpost (d, (zbd 207).1, (zbd 207).2) prog_14_method_20_code "CapitalCaseModel" (zRet prog_14_method_20_code (some .int) (zbd 207) (fun r I' => aPost zInv zc_207 [.inr (.inl (some 75))] I r I')) 36 [some (.inr (.inl (some 75))), some (.inl i)] [] IJ (0, 0) := by
  refine hA_aload (zs_aload_n em180_36) rfl ?_
  refine hA_const (k := 0) (zs_iconst (v := 0) em180_37 (by decide +kernel)) (by decide +kernel) (fun z37 hz37 => ?_)
  refine hA_puti0 (id := 10) (zs_puti zInj0 (T := TX12) (M := 70) (ty := tyX12) (ci := 12) (j := 12) (kd := 0) em180_38 rfl inX12 tyX12_ok nmX12 (by decide) wd_1283 (Or.inl ⟨rfl, rfl⟩) rfl ((congrFun xo_12 163).trans rfl)) ⟨_, rfl, rfl⟩ (fun h => by cases h) ?_
  refine hA_aload (zs_aload_n em180_41) rfl ?_
  refine hA_callV (as := []) (rest := []) (B' := (0, 0)) (zs_invV (T := TX12) em180_42 zl_246 rfl wd_1509 wd_1511 wd_48 ((congrFun xo_12 224).trans rfl) xm_214) rfl ⟨_, rfl⟩ (Nat.le_of_ble_eq_true rfl) rfl ⟨Nat.zero_le _, Nat.zero_le _⟩ (hpre_of rfl (show hpr_246 d [.inr (.inl (some 75))] (zupd IJ 10 z37) from ⟨by show 6 ≤ d; omega, rfl, ⟨zextp _ 10 _ rfl (by decide) hT.2.2.2, by rw [zf_ne (by decide)]; exact hT.2.1.1, by rw [zf_ne (by decide)]; exact hT.2.1.2⟩⟩)) (fun r42 I42 hp42 => ?_)
  replace hp42 : hpo_246 _ _ _ _ := hpost_of rfl hp42
  replace hp42 := hp42 rfl
  obtain ⟨rfl, c1, c2, c3⟩ := hp42
  have d22 : zf I42 22 = zf I 22 := by unfold zf; rw [c1 22 (by decide) (by decide), zupd_fr (by decide), hT.1 22 (by decide) (by decide)]
  have d10 : zf I42 10 = z37.toInt := by unfold zf; rw [c1 10 (by decide) (by decide)]; exact zf_same
  refine hA_aload (zs_aload_n em180_45) rfl ?_
  refine hA_const (k := 0) (zs_iconst (v := 0) em180_46 (by decide +kernel)) (by decide +kernel) (fun z46 hz46 => ?_)
  refine hA_puti0 (id := 12) (zs_puti zInj0 (T := TX12) (M := 70) (ty := tyX12) (ci := 12) (j := 25) (kd := 0) em180_47 rfl inX12 tyX12_ok nmX12 (by decide) wd_1292 (Or.inl ⟨rfl, rfl⟩) rfl ((congrFun xo_12 203).trans rfl)) ⟨_, rfl, rfl⟩ (fun h => by cases h) ?_
  refine hA_aload (zs_aload_n em180_50) rfl ?_
  refine hA_const (k := 0) (zs_iconst (v := 0) em180_51 (by decide +kernel)) (by decide +kernel) (fun z51 hz51 => ?_)
  refine hA_puti0 (id := 14) (zs_puti zInj0 (T := TX12) (M := 70) (ty := tyX12) (ci := 12) (j := 26) (kd := 0) em180_52 rfl inX12 tyX12_ok nmX12 (by decide) wd_1293 (Or.inl ⟨rfl, rfl⟩) rfl ((congrFun xo_12 227).trans rfl)) ⟨_, rfl, rfl⟩ (fun h => by cases h) ?_
  refine hA_aload (zs_aload_n em180_55) rfl ?_
  refine hA_const (k := 0) (zs_iconst (v := 0) em180_56 (by decide +kernel)) (by decide +kernel) (fun z56 hz56 => ?_)
  refine hA_puti0 (id := 13) (zs_puti zInj0 (T := TX12) (M := 70) (ty := tyX12) (ci := 12) (j := 27) (kd := 0) em180_57 rfl inX12 tyX12_ok nmX12 (by decide) wd_1294 (Or.inl ⟨rfl, rfl⟩) rfl ((congrFun xo_12 200).trans rfl)) ⟨_, rfl, rfl⟩ (fun h => by cases h) ?_
  refine hA_aload (zs_aload_n em180_60) rfl ?_
  refine hA_const (k := 0) (zs_iconst (v := 0) em180_61 (by decide +kernel)) (by decide +kernel) (fun z61 hz61 => ?_)
  refine hA_puti1 (q := ((-2147483648), 2147483647)) (zs_puti zInj0 (T := TX12) (M := 70) (ty := tyX12) (ci := 12) (j := 29) (kd := 0) em180_62 rfl inX12 tyX12_ok nmX12 (by decide) wd_1296 (Or.inl ⟨rfl, rfl⟩) rfl ((congrFun xo_12 209).trans rfl)) ⟨_, rfl, rfl⟩ rfl (fun h => by cases h) (an_lo _) (an_hi _) ?_
  refine hA_aload (zs_aload_n em180_65) rfl ?_
  refine hA_const (k := 1) (zs_iconst (v := 1) em180_66 (by decide +kernel)) (by decide +kernel) (fun z66 hz66 => ?_)
  refine hA_aload (zs_aload_n em180_67) rfl ?_
  refine hA_getf0 (id := 22) (zs_getf (T := TX12) (M := 70) (ci := 12) (j := 2) em180_68 rfl inX12 (by decide) wd_1299 ((congrFun xo_12 230).trans rfl)) ⟨_, rfl, rfl⟩ (fun z68 hz68 => ?_)
  rw [zf_ne (by decide), zf_ne (by decide), zf_ne (by decide)] at hz68
  refine hA_sub (zs_isub em180_71) (by omega) (by omega) (fun z71 hz71 => ?_)
  refine hA_puti0 (id := 23) (zs_puti zInj0 (T := TX12) (M := 70) (ty := tyX12) (ci := 12) (j := 32) (kd := 0) em180_72 rfl inX12 tyX12_ok nmX12 (by decide) wd_1300 (Or.inl ⟨rfl, rfl⟩) rfl ((congrFun xo_12 233).trans rfl)) ⟨_, rfl, rfl⟩ (fun h => by cases h) ?_
  refine hA_aload (zs_aload_n em180_75) rfl ?_
  refine hA_const (k := 0) (zs_iconst (v := 0) em180_76 (by decide +kernel)) (by decide +kernel) (fun z76 hz76 => ?_)
  refine hA_puti0 (id := 15) (zs_puti zInj0 (T := TX12) (M := 70) (ty := tyX12) (ci := 12) (j := 33) (kd := 0) em180_77 rfl inX12 tyX12_ok nmX12 (by decide) wd_1301 (Or.inl ⟨rfl, rfl⟩) rfl ((congrFun xo_12 236).trans rfl)) ⟨_, rfl, rfl⟩ (fun h => by cases h) ?_
  refine hA_aload (zs_aload_n em180_80) rfl ?_
  refine hA_aload (zs_aload_n em180_81) rfl ?_
  refine hA_getf0 (id := 23) (zs_getf (T := TX12) (M := 70) (ci := 12) (j := 32) em180_82 rfl inX12 (by decide) wd_1300 ((congrFun xo_12 233).trans rfl)) ⟨_, rfl, rfl⟩ (fun z82 hz82 => ?_)
  rw [zf_ne (by decide), zf_same] at hz82
  refine hA_callV (as := [.inl z82]) (rest := []) (B' := (0, 0)) (zs_invV (T := TX12) em180_85 zl_250 rfl wd_1263 wd_1265 wd_44 ((congrFun xo_12 149).trans rfl) xm_218) rfl ⟨_, rfl⟩ (Nat.le_of_ble_eq_true rfl) rfl ⟨Nat.zero_le _, Nat.zero_le _⟩ (hpre_of rfl (show hpr_250 d [.inr (.inl (some 75)), .inl z82] (zupd (zupd (zupd (zupd (zupd I42 12 z46) 14 z51) 13 z56) 23 z71) 15 z76) from ⟨by show 1 ≤ d; omega, z82, rfl, ⟨by omega, by omega⟩⟩)) (fun r85 I85 hp85 => ?_)
  replace hp85 : hpo_250 _ _ _ _ := hpost_of rfl hp85
  replace hp85 := hp85 z82 rfl
  obtain ⟨rfl, p1, p2, p3, p4, p5, p6⟩ := hp85
  have f1 : ∀ f, f < 4096 → zf I85 f = zf (zupd (zupd (zupd (zupd (zupd I42 12 z46) 14 z51) 13 z56) 23 z71) 15 z76) f := fun f hf => by unfold zf; rw [p1 f hf]
  have g12 : zf I85 12 = 0 := by rw [f1 12 (by decide), zf_ne (by decide), zf_ne (by decide), zf_ne (by decide), zf_ne (by decide), zf_same]; omega
  have g13 : zf I85 13 = 0 := by rw [f1 13 (by decide), zf_ne (by decide), zf_ne (by decide), zf_same]; omega
  have g14 : zf I85 14 = 0 := by rw [f1 14 (by decide), zf_ne (by decide), zf_ne (by decide), zf_ne (by decide), zf_same]; omega
  have g15 : zf I85 15 = 0 := by rw [f1 15 (by decide), zf_same]; omega
  have g22 : zf I85 22 = zf I 22 := by rw [f1 22 (by decide), zf_ne (by decide), zf_ne (by decide), zf_ne (by decide), zf_ne (by decide), zf_ne (by decide)]; exact d22
  have g23a : zf I85 23 = z82.toInt := by rw [f1 23 (by decide), zf_ne (by decide), zf_same]; omega
  have g23 : zf I85 23 = 1 - zf I85 22 := by omega
  have hI85 : zInv I85 := pl_inv (a := z82.toInt) (zextp _ 15 _ rfl (by decide) (zextp _ 23 _ rfl (by decide) (zextp _ 13 _ rfl (by decide) (zextp _ 14 _ rfl (by decide) (zextp _ 12 _ rfl (by decide) c3))))) (by rw [zf_ne (by decide), zf_ne (by decide), zf_ne (by decide), zf_ne (by decide), zf_ne (by decide)]; omega) p1 p2 p3 p4 p5
  have hRR : ∀ {b c : Int32}, rdF I (zupd (zupd I85 16 b) 17 c) := fun {b c} => ⟨fun id hl h10 h11 h12 h13 h14 h15 h16 h17 h18 h19 h23 h24 => (zupd_fr h17).trans ((zupd_fr h16).trans ((p1 id hl).trans ((zupd_fr h15).trans ((zupd_fr h23).trans ((zupd_fr h13).trans ((zupd_fr h14).trans ((zupd_fr h12).trans ( (c1 id hl h11).trans ((zupd_fr h10).trans (hT.1 id hl h24)))))))))), by rw [zf_ne (by decide), zf_ne (by decide), f1 10 (by decide), zf_ne (by decide), zf_ne (by decide), zf_ne (by decide), zf_ne (by decide), zf_ne (by decide), d10]; omega⟩
  refine hA_aload (zs_aload_n em180_88) rfl ?_
  refine hA_const (k := 130) (zs_sipush (v := 130) em180_89 (by decide +kernel)) (by decide +kernel) (fun z89 hz89 => ?_)
  refine hA_aload (zs_aload_n em180_92) rfl ?_
  refine hA_getf0 (id := 23) (zs_getf (T := TX12) (M := 70) (ci := 12) (j := 32) em180_93 rfl inX12 (by decide) wd_1300 ((congrFun xo_12 233).trans rfl)) ⟨_, rfl, rfl⟩ (fun z93 hz93 => ?_)
  refine hA_mull (c := 130) (zs_imul em180_96) hz89 (by omega) (by omega) (fun z96 hz96 => ?_)
  refine hA_puti0 (id := 16) (zs_puti zInj0 (T := TX12) (M := 70) (ty := tyX12) (ci := 12) (j := 43) (kd := 0) em180_97 rfl inX12 tyX12_ok nmX12 (by decide) wd_1315 (Or.inl ⟨rfl, rfl⟩) rfl ((congrFun xo_12 239).trans rfl)) ⟨_, rfl, rfl⟩ (fun h => by cases h) ?_
  refine hA_aload (zs_aload_n em180_100) rfl ?_
  refine hA_const (k := 420) (zs_sipush (v := 420) em180_101 (by decide +kernel)) (by decide +kernel) (fun z101 hz101 => ?_)
  refine hA_aload (zs_aload_n em180_104) rfl ?_
  refine hA_getf0 (id := 23) (zs_getf (T := TX12) (M := 70) (ci := 12) (j := 32) em180_105 rfl inX12 (by decide) wd_1300 ((congrFun xo_12 233).trans rfl)) ⟨_, rfl, rfl⟩ (fun z105 hz105 => ?_)
  rw [zf_ne (by decide)] at hz105
  refine hA_mull (c := 420) (zs_imul em180_108) hz101 (by omega) (by omega) (fun z108 hz108 => ?_)
  refine hA_puti0 (id := 17) (zs_puti zInj0 (T := TX12) (M := 70) (ty := tyX12) (ci := 12) (j := 49) (kd := 0) em180_109 rfl inX12 tyX12_ok nmX12 (by decide) wd_1321 (Or.inl ⟨rfl, rfl⟩) rfl ((congrFun xo_12 242).trans rfl)) ⟨_, rfl, rfl⟩ (fun h => by cases h) ?_
  exact rd_112 hd hf20 hf21 hf22 hc _ _ hRR (pS_mo (rd_start hI85 g12 g13 g14 g15 g23 (by omega) (by omega) (by rw [g23a]; exact p4) (by rw [g23a]; exact p6)).1 (by rw [zf_ne (by decide), zf_same, zf_ne (by decide), zf_ne (by decide)]; omega)) (fun _ => (rd_start hI85 g12 g13 g14 g15 g23 (by omega) (by omega) (by rw [g23a]; exact p4) (by rw [g23a]; exact p6)).2.2) rfl
set_option maxRecDepth 10000 in
set_option maxHeartbeats 4000000 in
theorem hM_207 : zOKh 207 zc_207 := by
  intro d hc as I q h hq
  obtain ⟨hd, ⟨_, _, rfl, rfl, rfl⟩, hF, hI⟩ := h
  have hd : 60 ≤ d + 1 := hd
  have hf10 : (0 : Int) ≤ zf I 10 ∧ zf I 10 ≤ (2000 : Int) := hF _ List.mem_cons_self
  have hf20 : (0 : Int) ≤ zf I 20 ∧ zf I 20 ≤ (30 : Int) := hF _ (List.mem_cons_of_mem _ List.mem_cons_self)
  have hf21 : (0 : Int) ≤ zf I 21 ∧ zf I 21 ≤ (20 : Int) := hF _ (List.mem_cons_of_mem _ (List.mem_cons_of_mem _ List.mem_cons_self))
  have hf22 : (0 : Int) ≤ zf I 22 ∧ zf I 22 ≤ (1 : Int) := hF _ (List.mem_cons_of_mem _ (List.mem_cons_of_mem _ (List.mem_cons_of_mem _ List.mem_cons_self)))
  have hInv : zInv I := hI rfl
  cases (show some _ = some q from hq)
  have loop : ∀ (n : Nat) (IJ : zI) (i : Int32) (hT : rdT I IJ) (hi : 0 ≤ i.toInt), (2001 - i.toInt).toNat = n → zAt zG0 PZ zbd zpre zpost (d, (zbd 207).1, (zbd 207).2) prog_14_method_20_code "CapitalCaseModel" (zRet prog_14_method_20_code (some .int) (zbd 207) (fun r I' => aPost zInv zc_207 [.inr (.inl (some 75))] I r I')) 10 [some (.inr (.inl (some 75))), some (.inl i)] [] IJ (0, 0) := by
    intro n
    induction n using Nat.strongRecOn with
    | ind n ih =>
      intro IJ i hT hi hn
      obtain ⟨ht1, ht2⟩ := hT.2.1
      refine hA_iload (zs_iload_n em180_10) rfl ?_
      refine hA_aload (zs_aload_n em180_11) rfl ?_
      refine hA_getf0 (id := 24) (zs_getf (T := TX12) (M := 70) (ci := 12) (j := 18) em180_12 rfl inX12 (by decide) wd_1285 ((congrFun xo_12 169).trans rfl)) ⟨_, rfl, rfl⟩ (fun z12 hz12 => ?_)
      refine hA_icmp (zs_icmpge em180_15 (t := 36) (by decide)) (fun (c15 : z12.toInt ≤ i.toInt) => ?_) (fun (c15 : ¬ z12.toInt ≤ i.toInt) => ?_)
      · exact rd_36 hd hf20 hf21 hf22 hc hT
      · refine hA_aload (zs_aload_n em180_18) rfl ?_
        refine hA_getf2 (r := 77) (zs_getf (T := TX12) (M := 70) (ci := 12) (j := 17) em180_19 rfl inX12 (by decide) wd_1284 ((congrFun xo_12 17).trans rfl)) ⟨_, rfl, rfl⟩ ?_
        refine hA_iload (zs_iload_n em180_22) rfl ?_
        refine hA_aload (zs_aload_n em180_23) rfl ?_
        refine hA_getf2 (r := 76) (zs_getf (T := TX12) (M := 70) (ci := 12) (j := 13) em180_24 rfl inX12 (by decide) wd_1282 ((congrFun xo_12 13).trans rfl)) ⟨_, rfl, rfl⟩ ?_
        refine hA_iload (zs_iload_n em180_27) rfl ?_
        refine hA_baldH (kd := 76) (len := 2000) (zs_bald em180_28) ⟨rfl, rfl, rfl, Or.inl rfl⟩ (by omega) (by show _ < ((2000 : Nat) : Int); omega) (fun z28 hz28 => ?_)
        have hbz28 : ((-128) : Int) ≤ z28.toInt ∧ z28.toInt ≤ 127 := eall rfl hz28
        refine hA_bast (kd := 77) (len := 2000) (zs_bast zInj0 em180_29) ⟨rfl, rfl, rfl⟩ (by omega) (by show _ < ((2000 : Nat) : Int); omega) (fun z29 hz29 hz29b => ?_)
        refine hA_iinc (c := 1) (zs_iinc (k := 1) em180_30 (by decide +kernel)) (by decide +kernel) rfl ⟨Nat.le_of_ble_eq_true rfl, rfl⟩ (by omega) (by omega) (fun z30 hz30 => ?_)
        show zAt _ _ _ _ _ _ _ _ _ _ [some (.inr (.inl (some 75))), some (.inl z30)] _ _ _
        refine hA_goto (zs_goto em180_33 (t := 10) (by decide)) ?_
        exact ih _ (by omega) _ z30 (rdT_s hT (by omega) (by omega) ⟨by omega, by omega⟩) (by omega) rfl
  refine hmet (L := [some (.inr (.inl (some 75))), none]) (by decide) (Nat.le_of_ble_eq_true rfl) hc rfl ?_
  refine hA_aload (zs_aload_n em180_0) rfl ?_
  refine hA_aload (zs_aload_n em180_1) rfl ?_
  refine hA_getf0 (id := 10) (zs_getf (T := TX12) (M := 70) (ci := 12) (j := 12) em180_2 rfl inX12 (by decide) wd_1283 ((congrFun xo_12 163).trans rfl)) ⟨_, rfl, rfl⟩ (fun z2 hz2 => ?_)
  refine hA_puti0 (id := 24) (zs_puti zInj0 (T := TX12) (M := 70) (ty := tyX12) (ci := 12) (j := 18) (kd := 0) em180_5 rfl inX12 tyX12_ok nmX12 (by decide) wd_1285 (Or.inl ⟨rfl, rfl⟩) rfl ((congrFun xo_12 169).trans rfl)) ⟨_, rfl, rfl⟩ (fun h => by cases h) ?_
  refine hA_const (k := 0) (zs_iconst (v := 0) em180_8 (by decide +kernel)) (by decide +kernel) (fun z8 hz8 => ?_)
  refine hA_istore (L' := [some (.inr (.inl (some 75))), some (.inl z8)]) (zs_istore_n em180_9) ⟨Nat.le_of_ble_eq_true rfl, rfl⟩ rfl ?_
  exact loop _ _ z8 (rdT_0 hInv ⟨by omega, by omega⟩) (by omega) rfl
