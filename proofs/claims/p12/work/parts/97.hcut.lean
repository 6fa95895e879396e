theorem bya_b {I : zI} {a : Int} : 0 ≤ bya I a ∧ bya I a ≤ 255 := by
  unfold bya
  split
  · have h := an_and (x := I (zid 77 a.toNat)) (y := 255) (by decide)
    have h2 : (255 : Int32).toInt = 255 := by decide
    omega
  · omega
theorem bya_lt {I : zI} {a : Int} (h : ¬ bya I a = 0) : a < zf I 24 := by
  unfold bya at h
  split at h
  · assumption
  · exact absurd rfl h
/-- what a cut may change -/
def cuF (I J : zI) : Prop := (∀ id, id < 4096 → id ≠ 11 → J id = I id) ∧ (∀ kd i, i < 4096 → kd ≠ 78 → J (zid kd i) = I (zid kd i)) ∧ ∀ i : Nat, i < 403 → 0 ≤ (J (zid 78 i)).toInt ∧ (J (zid 78 i)).toInt ≤ 40
theorem cuF_tok {I J : zI} {i a v : Int32} (h : cuF I J) (h0 : 0 ≤ i.toInt) (h1 : i.toInt < 403) (ha : 0 ≤ a.toInt ∧ a.toInt ≤ 40) : cuF I (zupd (zupd J (zid 78 i.toInt.toNat) a) 11 v) := by
  obtain ⟨a1, a2, a3⟩ := h
  refine ⟨fun id hl q => ((zupd_fr q).trans (zupd_hi2 hl)).trans (a1 id hl q), fun kd j hj q => ((zupd_fr (by unfold zid; omega)).trans (zupd_fr (by unfold zid; omega))).trans (a2 kd j hj q), fun j hj => ?_⟩
  rw [zupd_fr (by unfold zid; omega)]
  by_cases e : j = i.toInt.toNat
  · subst e
    unfold zupd
    rw [if_pos rfl]
    exact ha
  · rw [zupd_fr (by unfold zid; omega)]
    exact a3 j hj
theorem cuF_rf {I : zI} {v : Int32} (hI : zInv I) : cuF I (zupd I 11 v) := ⟨fun id _ q => zupd_fr q, fun kd j _ _ => zupd_fr (by unfold zid; omega), fun i hi => by rw [zupd_fr (by unfold zid; omega)]; exact eall rfl (hI.1 78 i 0 403 rfl rfl hi)⟩
theorem cuF_end {I J : zI} (hI : zInv I) (h : cuF I J) : zInv J := by
  have h22 : 0 ≤ zf I 22 ∧ zf I 22 ≤ 1 := hI.2.2.2.2.1
  refine zInv_side2 hI (h.1 22 (by decide) (by decide)) (fun kd i t len hk hd hi => ?_) (fun kd i hi _ h8 _ _ _ => h.2.1 kd i hi h8) (fun k hk => ⟨h.2.1 94 _ (by omega) (by decide), h.2.1 95 _ (by omega) (by decide)⟩) (fun b p q kd r s => h.2.1 kd b (by omega) (by omega)) (fun c p q => ⟨h.2.1 101 c (by omega) (by decide), h.2.1 102 c (by omega) (by decide)⟩) (eE_k (fun kd i hi hk => h.2.1 kd i hi (by omega)) (eE_of hI))
  rcases hk with rfl | rfl
  · rw [h.2.1 77 i (zvs_len rfl hd hi) (by decide)]
    exact hI.1 77 i t len rfl hd hi
  · cases (show zds 78 = Sum.inr (0, 403) from rfl).symm.trans hd
    exact eal rfl (h.2.2 i hi).1 (h.2.2 i hi).2
theorem em211_0 : decode prog_14_method_6_code 0 = .ok (.iload_n 1, 1) := by decide +kernel
theorem em211_1 : decode prog_14_method_6_code 1 = .ok (.aload_n 0, 1) := by decide +kernel
theorem em211_2 : decode prog_14_method_6_code 2 = .ok (.getfield 169, 3) := by decide +kernel
theorem em211_5 : decode prog_14_method_6_code 5 = .ok (.if_icmp .ge 16, 3) := by decide +kernel
theorem em211_8 : decode prog_14_method_6_code 8 = .ok (.aload_n 0, 1) := by decide +kernel
theorem em211_9 : decode prog_14_method_6_code 9 = .ok (.getfield 17, 3) := by decide +kernel
theorem em211_12 : decode prog_14_method_6_code 12 = .ok (.iload_n 1, 1) := by decide +kernel
theorem em211_13 : decode prog_14_method_6_code 13 = .ok (.baload, 1) := by decide +kernel
theorem em211_14 : decode prog_14_method_6_code 14 = .ok (.sipush 255, 3) := by decide +kernel
theorem em211_17 : decode prog_14_method_6_code 17 = .ok (.iand, 1) := by decide +kernel
theorem em211_18 : decode prog_14_method_6_code 18 = .ok (.goto 4, 3) := by decide +kernel
theorem em211_21 : decode prog_14_method_6_code 21 = .ok (.iconst 0, 1) := by decide +kernel
theorem em211_22 : decode prog_14_method_6_code 22 = .ok (.ireturn, 1) := by decide +kernel
set_option maxRecDepth 10000 in
set_option maxHeartbeats 4000000 in
theorem hM_287 : zOKx 287 := by
  intro d hc as I q h hq
  have h : hpr_287 (d + 1) as I := h
  obtain ⟨hd, a, rfl, hpre⟩ := h
  cases (show some _ = some q from hq)
  obtain ⟨⟨ha0, ha1⟩, h24a, h24b⟩ := hpre
  refine hmet (L := [some (.inr (.inl (some 75))), some (.inl a)]) (by decide) (Nat.le_of_ble_eq_true rfl) hc rfl ?_
  refine hA_iload (zs_iload_n em211_0) rfl ?_
  refine hA_aload (zs_aload_n em211_1) rfl ?_
  refine hA_getf0 (id := 24) (zs_getf (T := TX12) (M := 70) (ci := 12) (j := 18) em211_2 rfl inX12 (by decide) wd_1285 ((congrFun xo_12 169).trans rfl)) ⟨_, rfl, rfl⟩ (fun z2 hz2 => ?_)
  refine hA_icmp (zs_icmpge em211_5 (t := 21) (by decide)) (fun (c5 : z2.toInt ≤ a.toInt) => ?_) (fun (c5 : ¬ z2.toInt ≤ a.toInt) => ?_)
  · refine hA_const (k := 0) (zs_iconst (v := 0) em211_21 (by decide +kernel)) (by decide +kernel) (fun z21 hz21 => ?_)
    refine hA_ireturn ⟨rfl, em211_22⟩ ⟨Nat.le_refl _, Nat.le_refl _⟩ ?_
    intro a' he
    cases he
    exact ⟨_, rfl, by unfold bya; rw [if_neg (by omega)]; exact hz21, rfl⟩
  · refine hA_aload (zs_aload_n em211_8) rfl ?_
    refine hA_getf2 (r := 77) (zs_getf (T := TX12) (M := 70) (ci := 12) (j := 17) em211_9 rfl inX12 (by decide) wd_1284 ((congrFun xo_12 17).trans rfl)) ⟨_, rfl, rfl⟩ ?_
    refine hA_iload (zs_iload_n em211_12) rfl ?_
    refine hA_bald (kd := 77) (len := 2000) (zs_bald em211_13) ⟨rfl, rfl, rfl, Or.inl rfl⟩ (by omega) (by show _ < ((2000 : Nat) : Int); omega) (fun z13 hz13 => ?_)
    refine hA_const (k := 255) (zs_sipush (v := 255) em211_14 (by decide +kernel)) (by decide +kernel) (fun z14 hz14 => ?_)
    refine hA (zs_iand em211_17) ?_
    show zAt _ _ _ _ _ _ _ _ _ _ _ (.inl (z13 &&& z14) :: _) _ _
    generalize hz17 : (z13 &&& z14) = z17
    refine hA_goto (zs_goto em211_18 (t := 22) (by decide)) ?_
    refine hA_ireturn ⟨rfl, em211_22⟩ ⟨Nat.le_refl _, Nat.le_refl _⟩ ?_
    intro a' he
    cases he
    exact ⟨_, rfl, by
      unfold bya
      rw [if_pos (by omega)]
      have e1 : z13 = I (zid 77 a.toInt.toNat) := Int32.toInt_inj.mp hz13
      have e2 : z14 = 255 := Int32.toInt_inj.mp (hz14.trans (by decide))
      rw [← hz17, e1, e2], rfl⟩
theorem em214_0 : decode prog_14_method_12_code 0 = .ok (.aload_n 0, 1) := by decide +kernel
theorem em214_1 : decode prog_14_method_12_code 1 = .ok (.iconst 0, 1) := by decide +kernel
theorem em214_2 : decode prog_14_method_12_code 2 = .ok (.putfield 178, 3) := by decide +kernel
theorem em214_5 : decode prog_14_method_12_code 5 = .ok (.iconst 0, 1) := by decide +kernel
theorem em214_6 : decode prog_14_method_12_code 6 = .ok (.istore_n 1, 1) := by decide +kernel
theorem em214_7 : decode prog_14_method_12_code 7 = .ok (.aload_n 0, 1) := by decide +kernel
theorem em214_8 : decode prog_14_method_12_code 8 = .ok (.getfield 178, 3) := by decide +kernel
theorem em214_11 : decode prog_14_method_12_code 11 = .ok (.sipush 400, 3) := by decide +kernel
theorem em214_14 : decode prog_14_method_12_code 14 = .ok (.if_icmp .gt 280, 3) := by decide +kernel
theorem em214_17 : decode prog_14_method_12_code 17 = .ok (.aload_n 0, 1) := by decide +kernel
theorem em214_18 : decode prog_14_method_12_code 18 = .ok (.iload_n 1, 1) := by decide +kernel
theorem em214_19 : decode prog_14_method_12_code 19 = .ok (.invokevirtual 181, 3) := by decide +kernel
theorem em214_22 : decode prog_14_method_12_code 22 = .ok (.istore_n 2, 1) := by decide +kernel
theorem em214_23 : decode prog_14_method_12_code 23 = .ok (.iload_n 1, 1) := by decide +kernel
theorem em214_24 : decode prog_14_method_12_code 24 = .ok (.aload_n 0, 1) := by decide +kernel
theorem em214_25 : decode prog_14_method_12_code 25 = .ok (.getfield 169, 3) := by decide +kernel
theorem em214_28 : decode prog_14_method_12_code 28 = .ok (.if_icmp .lt 15, 3) := by decide +kernel
theorem em214_31 : decode prog_14_method_12_code 31 = .ok (.aload_n 0, 1) := by decide +kernel
theorem em214_32 : decode prog_14_method_12_code 32 = .ok (.iconst 0, 1) := by decide +kernel
theorem em214_33 : decode prog_14_method_12_code 33 = .ok (.aload_n 0, 1) := by decide +kernel
theorem em214_34 : decode prog_14_method_12_code 34 = .ok (.getfield 169, 3) := by decide +kernel
theorem em214_37 : decode prog_14_method_12_code 37 = .ok (.iconst 0, 1) := by decide +kernel
theorem em214_38 : decode prog_14_method_12_code 38 = .ok (.lconst 0, 1) := by decide +kernel
theorem em214_39 : decode prog_14_method_12_code 39 = .ok (.invokevirtual 185, 3) := by decide +kernel
theorem em214_42 : decode prog_14_method_12_code 42 = .ok (.return_, 1) := by decide +kernel
theorem em214_43 : decode prog_14_method_12_code 43 = .ok (.iload_n 2, 1) := by decide +kernel
theorem em214_44 : decode prog_14_method_12_code 44 = .ok (.bipush 9, 2) := by decide +kernel
theorem em214_46 : decode prog_14_method_12_code 46 = .ok (.if_icmp .eq 21, 3) := by decide +kernel
theorem em214_49 : decode prog_14_method_12_code 49 = .ok (.iload_n 2, 1) := by decide +kernel
theorem em214_50 : decode prog_14_method_12_code 50 = .ok (.bipush 10, 2) := by decide +kernel
theorem em214_52 : decode prog_14_method_12_code 52 = .ok (.if_icmp .eq 15, 3) := by decide +kernel
theorem em214_55 : decode prog_14_method_12_code 55 = .ok (.iload_n 2, 1) := by decide +kernel
theorem em214_56 : decode prog_14_method_12_code 56 = .ok (.bipush 13, 2) := by decide +kernel
theorem em214_58 : decode prog_14_method_12_code 58 = .ok (.if_icmp .eq 9, 3) := by decide +kernel
theorem em214_61 : decode prog_14_method_12_code 61 = .ok (.iload_n 2, 1) := by decide +kernel
theorem em214_62 : decode prog_14_method_12_code 62 = .ok (.bipush 32, 2) := by decide +kernel
theorem em214_64 : decode prog_14_method_12_code 64 = .ok (.if_icmp .ne 9, 3) := by decide +kernel
theorem em214_67 : decode prog_14_method_12_code 67 = .ok (.iinc 1 1, 3) := by decide +kernel
theorem em214_70 : decode prog_14_method_12_code 70 = .ok (.goto 221, 3) := by decide +kernel
theorem em214_73 : decode prog_14_method_12_code 73 = .ok (.iload_n 2, 1) := by decide +kernel
theorem em214_74 : decode prog_14_method_12_code 74 = .ok (.invokestatic 189, 3) := by decide +kernel
theorem em214_77 : decode prog_14_method_12_code 77 = .ok (.ifCond .eq 119, 3) := by decide +kernel
theorem em214_80 : decode prog_14_method_12_code 80 = .ok (.iconst 0, 1) := by decide +kernel
theorem em214_81 : decode prog_14_method_12_code 81 = .ok (.istore_n 3, 1) := by decide +kernel
theorem em214_82 : decode prog_14_method_12_code 82 = .ok (.lconst 0, 1) := by decide +kernel
theorem em214_83 : decode prog_14_method_12_code 83 = .ok (.lstore 4, 2) := by decide +kernel
theorem em214_85 : decode prog_14_method_12_code 85 = .ok (.aload_n 0, 1) := by decide +kernel
theorem em214_86 : decode prog_14_method_12_code 86 = .ok (.iload_n 1, 1) := by decide +kernel
theorem em214_87 : decode prog_14_method_12_code 87 = .ok (.iload_n 3, 1) := by decide +kernel
theorem em214_88 : decode prog_14_method_12_code 88 = .ok (.iadd, 1) := by decide +kernel
theorem em214_89 : decode prog_14_method_12_code 89 = .ok (.invokevirtual 181, 3) := by decide +kernel
theorem em214_92 : decode prog_14_method_12_code 92 = .ok (.invokestatic 189, 3) := by decide +kernel
theorem em214_95 : decode prog_14_method_12_code 95 = .ok (.ifCond .eq 29, 3) := by decide +kernel
theorem em214_98 : decode prog_14_method_12_code 98 = .ok (.iload_n 3, 1) := by decide +kernel
theorem em214_99 : decode prog_14_method_12_code 99 = .ok (.bipush 8, 2) := by decide +kernel
theorem em214_101 : decode prog_14_method_12_code 101 = .ok (.if_icmp .ge 17, 3) := by decide +kernel
theorem em214_104 : decode prog_14_method_12_code 104 = .ok (.lload 4, 2) := by decide +kernel
theorem em214_106 : decode prog_14_method_12_code 106 = .ok (.aload_n 0, 1) := by decide +kernel
theorem em214_107 : decode prog_14_method_12_code 107 = .ok (.iload_n 1, 1) := by decide +kernel
theorem em214_108 : decode prog_14_method_12_code 108 = .ok (.iload_n 3, 1) := by decide +kernel
theorem em214_109 : decode prog_14_method_12_code 109 = .ok (.iadd, 1) := by decide +kernel
theorem em214_110 : decode prog_14_method_12_code 110 = .ok (.invokevirtual 181, 3) := by decide +kernel
theorem em214_113 : decode prog_14_method_12_code 113 = .ok (.invokestatic 174, 3) := by decide +kernel
theorem em214_116 : decode prog_14_method_12_code 116 = .ok (.lstore 4, 2) := by decide +kernel
theorem em214_118 : decode prog_14_method_12_code 118 = .ok (.iinc 3 1, 3) := by decide +kernel
theorem em214_121 : decode prog_14_method_12_code 121 = .ok (.goto (-36), 3) := by decide +kernel
theorem em214_124 : decode prog_14_method_12_code 124 = .ok (.iload_n 3, 1) := by decide +kernel
theorem em214_125 : decode prog_14_method_12_code 125 = .ok (.bipush 8, 2) := by decide +kernel
theorem em214_127 : decode prog_14_method_12_code 127 = .ok (.if_icmp .le 7, 3) := by decide +kernel
theorem em214_130 : decode prog_14_method_12_code 130 = .ok (.iconst 3, 1) := by decide +kernel
theorem em214_131 : decode prog_14_method_12_code 131 = .ok (.goto 4, 3) := by decide +kernel
theorem em214_134 : decode prog_14_method_12_code 134 = .ok (.iconst 1, 1) := by decide +kernel
theorem em214_135 : decode prog_14_method_12_code 135 = .ok (.istore 6, 2) := by decide +kernel
theorem em214_137 : decode prog_14_method_12_code 137 = .ok (.iload_n 3, 1) := by decide +kernel
theorem em214_138 : decode prog_14_method_12_code 138 = .ok (.bipush 8, 2) := by decide +kernel
theorem em214_140 : decode prog_14_method_12_code 140 = .ok (.if_icmp .gt 39, 3) := by decide +kernel
theorem em214_143 : decode prog_14_method_12_code 143 = .ok (.iconst 0, 1) := by decide +kernel
theorem em214_144 : decode prog_14_method_12_code 144 = .ok (.istore 7, 2) := by decide +kernel
theorem em214_146 : decode prog_14_method_12_code 146 = .ok (.iload 7, 2) := by decide +kernel
theorem em214_148 : decode prog_14_method_12_code 148 = .ok (.bipush 21, 2) := by decide +kernel
theorem em214_150 : decode prog_14_method_12_code 150 = .ok (.if_icmp .ge 29, 3) := by decide +kernel
theorem em214_153 : decode prog_14_method_12_code 153 = .ok (.aload_n 0, 1) := by decide +kernel
theorem em214_154 : decode prog_14_method_12_code 154 = .ok (.getfield 34, 3) := by decide +kernel
theorem em214_157 : decode prog_14_method_12_code 157 = .ok (.iload 7, 2) := by decide +kernel
theorem em214_159 : decode prog_14_method_12_code 159 = .ok (.laload, 1) := by decide +kernel
theorem em214_160 : decode prog_14_method_12_code 160 = .ok (.lload 4, 2) := by decide +kernel
theorem em214_162 : decode prog_14_method_12_code 162 = .ok (.lcmp, 1) := by decide +kernel
theorem em214_163 : decode prog_14_method_12_code 163 = .ok (.ifCond .ne 10, 3) := by decide +kernel
theorem em214_166 : decode prog_14_method_12_code 166 = .ok (.bipush 20, 2) := by decide +kernel
theorem em214_168 : decode prog_14_method_12_code 168 = .ok (.iload 7, 2) := by decide +kernel
theorem em214_170 : decode prog_14_method_12_code 170 = .ok (.iadd, 1) := by decide +kernel
theorem em214_171 : decode prog_14_method_12_code 171 = .ok (.istore 6, 2) := by decide +kernel
theorem em214_173 : decode prog_14_method_12_code 173 = .ok (.iinc 7 1, 3) := by decide +kernel
theorem em214_176 : decode prog_14_method_12_code 176 = .ok (.goto (-30), 3) := by decide +kernel
theorem em214_179 : decode prog_14_method_12_code 179 = .ok (.aload_n 0, 1) := by decide +kernel
theorem em214_180 : decode prog_14_method_12_code 180 = .ok (.iload 6, 2) := by decide +kernel
theorem em214_182 : decode prog_14_method_12_code 182 = .ok (.iload_n 1, 1) := by decide +kernel
theorem em214_183 : decode prog_14_method_12_code 183 = .ok (.iconst 0, 1) := by decide +kernel
theorem em214_184 : decode prog_14_method_12_code 184 = .ok (.lload 4, 2) := by decide +kernel
theorem em214_186 : decode prog_14_method_12_code 186 = .ok (.invokevirtual 185, 3) := by decide +kernel
theorem em214_189 : decode prog_14_method_12_code 189 = .ok (.iload_n 1, 1) := by decide +kernel
theorem em214_190 : decode prog_14_method_12_code 190 = .ok (.iload_n 3, 1) := by decide +kernel
theorem em214_191 : decode prog_14_method_12_code 191 = .ok (.iadd, 1) := by decide +kernel
theorem em214_192 : decode prog_14_method_12_code 192 = .ok (.istore_n 1, 1) := by decide +kernel
theorem em214_193 : decode prog_14_method_12_code 193 = .ok (.goto 98, 3) := by decide +kernel
theorem em214_196 : decode prog_14_method_12_code 196 = .ok (.iload_n 2, 1) := by decide +kernel
theorem em214_197 : decode prog_14_method_12_code 197 = .ok (.invokestatic 193, 3) := by decide +kernel
theorem em214_200 : decode prog_14_method_12_code 200 = .ok (.ifCond .eq 75, 3) := by decide +kernel
theorem em214_203 : decode prog_14_method_12_code 203 = .ok (.iconst 0, 1) := by decide +kernel
theorem em214_204 : decode prog_14_method_12_code 204 = .ok (.istore_n 3, 1) := by decide +kernel
theorem em214_205 : decode prog_14_method_12_code 205 = .ok (.iconst 0, 1) := by decide +kernel
theorem em214_206 : decode prog_14_method_12_code 206 = .ok (.istore 4, 2) := by decide +kernel
theorem em214_208 : decode prog_14_method_12_code 208 = .ok (.aload_n 0, 1) := by decide +kernel
theorem em214_209 : decode prog_14_method_12_code 209 = .ok (.iload_n 1, 1) := by decide +kernel
theorem em214_210 : decode prog_14_method_12_code 210 = .ok (.iload_n 3, 1) := by decide +kernel
theorem em214_211 : decode prog_14_method_12_code 211 = .ok (.iadd, 1) := by decide +kernel
theorem em214_212 : decode prog_14_method_12_code 212 = .ok (.invokevirtual 181, 3) := by decide +kernel
theorem em214_215 : decode prog_14_method_12_code 215 = .ok (.invokestatic 193, 3) := by decide +kernel
theorem em214_218 : decode prog_14_method_12_code 218 = .ok (.ifCond .eq 32, 3) := by decide +kernel
theorem em214_221 : decode prog_14_method_12_code 221 = .ok (.iload_n 3, 1) := by decide +kernel
theorem em214_222 : decode prog_14_method_12_code 222 = .ok (.iconst 4, 1) := by decide +kernel
theorem em214_223 : decode prog_14_method_12_code 223 = .ok (.if_icmp .ge 21, 3) := by decide +kernel
theorem em214_226 : decode prog_14_method_12_code 226 = .ok (.bipush 10, 2) := by decide +kernel
theorem em214_228 : decode prog_14_method_12_code 228 = .ok (.iload 4, 2) := by decide +kernel
theorem em214_230 : decode prog_14_method_12_code 230 = .ok (.imul, 1) := by decide +kernel
theorem em214_231 : decode prog_14_method_12_code 231 = .ok (.aload_n 0, 1) := by decide +kernel
theorem em214_232 : decode prog_14_method_12_code 232 = .ok (.iload_n 1, 1) := by decide +kernel
theorem em214_233 : decode prog_14_method_12_code 233 = .ok (.iload_n 3, 1) := by decide +kernel
theorem em214_234 : decode prog_14_method_12_code 234 = .ok (.iadd, 1) := by decide +kernel
theorem em214_235 : decode prog_14_method_12_code 235 = .ok (.invokevirtual 181, 3) := by decide +kernel
theorem em214_238 : decode prog_14_method_12_code 238 = .ok (.iadd, 1) := by decide +kernel
theorem em214_239 : decode prog_14_method_12_code 239 = .ok (.bipush 48, 2) := by decide +kernel
theorem em214_241 : decode prog_14_method_12_code 241 = .ok (.isub, 1) := by decide +kernel
theorem em214_242 : decode prog_14_method_12_code 242 = .ok (.istore 4, 2) := by decide +kernel
theorem em214_244 : decode prog_14_method_12_code 244 = .ok (.iinc 3 1, 3) := by decide +kernel
theorem em214_247 : decode prog_14_method_12_code 247 = .ok (.goto (-39), 3) := by decide +kernel
theorem em214_250 : decode prog_14_method_12_code 250 = .ok (.aload_n 0, 1) := by decide +kernel
theorem em214_251 : decode prog_14_method_12_code 251 = .ok (.iload_n 3, 1) := by decide +kernel
theorem em214_252 : decode prog_14_method_12_code 252 = .ok (.iconst 4, 1) := by decide +kernel
theorem em214_253 : decode prog_14_method_12_code 253 = .ok (.if_icmp .le 7, 3) := by decide +kernel
theorem em214_256 : decode prog_14_method_12_code 256 = .ok (.iconst 3, 1) := by decide +kernel
theorem em214_257 : decode prog_14_method_12_code 257 = .ok (.goto 4, 3) := by decide +kernel
theorem em214_260 : decode prog_14_method_12_code 260 = .ok (.iconst 2, 1) := by decide +kernel
theorem em214_261 : decode prog_14_method_12_code 261 = .ok (.iload_n 1, 1) := by decide +kernel
theorem em214_262 : decode prog_14_method_12_code 262 = .ok (.iload 4, 2) := by decide +kernel
theorem em214_264 : decode prog_14_method_12_code 264 = .ok (.lconst 0, 1) := by decide +kernel
theorem em214_265 : decode prog_14_method_12_code 265 = .ok (.invokevirtual 185, 3) := by decide +kernel
theorem em214_268 : decode prog_14_method_12_code 268 = .ok (.iload_n 1, 1) := by decide +kernel
theorem em214_269 : decode prog_14_method_12_code 269 = .ok (.iload_n 3, 1) := by decide +kernel
theorem em214_270 : decode prog_14_method_12_code 270 = .ok (.iadd, 1) := by decide +kernel
theorem em214_271 : decode prog_14_method_12_code 271 = .ok (.istore_n 1, 1) := by decide +kernel
theorem em214_272 : decode prog_14_method_12_code 272 = .ok (.goto 19, 3) := by decide +kernel
theorem em214_275 : decode prog_14_method_12_code 275 = .ok (.iload_n 1, 1) := by decide +kernel
theorem em214_276 : decode prog_14_method_12_code 276 = .ok (.aload_n 0, 1) := by decide +kernel
theorem em214_277 : decode prog_14_method_12_code 277 = .ok (.iload_n 1, 1) := by decide +kernel
theorem em214_278 : decode prog_14_method_12_code 278 = .ok (.iload_n 2, 1) := by decide +kernel
theorem em214_279 : decode prog_14_method_12_code 279 = .ok (.aload_n 0, 1) := by decide +kernel
theorem em214_280 : decode prog_14_method_12_code 280 = .ok (.iload_n 1, 1) := by decide +kernel
theorem em214_281 : decode prog_14_method_12_code 281 = .ok (.iconst 1, 1) := by decide +kernel
theorem em214_282 : decode prog_14_method_12_code 282 = .ok (.iadd, 1) := by decide +kernel
theorem em214_283 : decode prog_14_method_12_code 283 = .ok (.invokevirtual 181, 3) := by decide +kernel
theorem em214_286 : decode prog_14_method_12_code 286 = .ok (.invokevirtual 196, 3) := by decide +kernel
theorem em214_289 : decode prog_14_method_12_code 289 = .ok (.iadd, 1) := by decide +kernel
theorem em214_290 : decode prog_14_method_12_code 290 = .ok (.istore_n 1, 1) := by decide +kernel
theorem em214_291 : decode prog_14_method_12_code 291 = .ok (.goto (-284), 3) := by decide +kernel
theorem em214_294 : decode prog_14_method_12_code 294 = .ok (.return_, 1) := by decide +kernel
set_option maxRecDepth 10000 in
set_option maxHeartbeats 4000000 in
theorem hM_246 : zOKx 246 := by
  intro d hc as I q h hq
  have h : hpr_246 (d + 1) as I := h
  obtain ⟨hd, rfl, hpre⟩ := h
  cases (show some _ = some q from hq)
  obtain ⟨hInv, h24a, h24b⟩ := hpre
  have loop : ∀ (n : Nat) (IJ : zI) (i : Int32) (hF : cuF I IJ) (h11 : 0 ≤ zf IJ 11) (h11b : zf IJ 11 ≤ 401) (hi0 : 0 ≤ i.toInt) (hi1 : i.toInt ≤ 2000), ((402 - zf IJ 11) * 2002 + (2001 - i.toInt)).toNat = n → zAt zG0 PZ zbd zpre zpost (d, (zbd 246).1, (zbd 246).2) prog_14_method_12_code "CapitalCaseModel" (zRet prog_14_method_12_code none (zbd 246) (hpost 246 [.inr (.inl (some 75))] I)) 7 [some (.inr (.inl (some 75))), some (.inl i), none, none, none, none, none, none] [] IJ (0, 0) := by
    intro n
    induction n using Nat.strongRecOn with
    | ind n ih =>
      intro IJ i hF h11 h11b hi0 hi1 hn
      have e24 : zf IJ 24 = zf I 24 := by unfold zf; rw [hF.1 24 (by decide) (by decide)]
      by_cases ht : ¬ zf IJ 11 ≤ 400
      · refine hA_aload (zs_aload_n em214_7) rfl ?_
        refine hA_getf0 (id := 11) (zs_getf (T := TX12) (M := 70) (ci := 12) (j := 24) em214_8 rfl inX12 (by decide) wd_1291 ((congrFun xo_12 178).trans rfl)) ⟨_, rfl, rfl⟩ (fun z8 hz8 => ?_)
        refine hA_const (k := 400) (zs_sipush (v := 400) em214_11 (by decide +kernel)) (by decide +kernel) (fun z11 hz11 => ?_)
        refine hA_icmp (zs_icmpgt em214_14 (t := 294) (by decide)) (fun (c14 : z11.toInt < z8.toInt) => ?_) (fun (c14 : ¬ z11.toInt < z8.toInt) => ?_)
        · refine hA_return ⟨rfl, em214_294⟩ ⟨Nat.le_refl _, Nat.le_refl _⟩ ?_
          intro he
          cases he
          have hZ := hF
          exact ⟨rfl, hZ.1, hZ.2.1, cuF_end hInv hZ⟩
        · exfalso
          omega
      replace ht : zf IJ 11 ≤ 400 := by omega
      have h179 : ∀ (c n kd : Int32) (nm : Int64), 0 ≤ n.toInt → i.toInt + n.toInt ≤ 2000 → (0 ≤ kd.toInt ∧ kd.toInt ≤ 40) → zword 8 nm.toInt → zAt zG0 PZ zbd zpre zpost (d, (zbd 246).1, (zbd 246).2) prog_14_method_12_code "CapitalCaseModel" (zRet prog_14_method_12_code none (zbd 246) (hpost 246 [.inr (.inl (some 75))] I)) 179 [some (.inr (.inl (some 75))), some (.inl i), some (.inl c), some (.inl n), some (.inr (.inr nm)), none, some (.inl kd), none] [] IJ (0, 0) := by
        intro c n kd nm hn0 hn1 hkd hw
        refine hA_aload (zs_aload_n em214_179) rfl ?_
        refine hA_iload (zs_iload em214_180) rfl ?_
        refine hA_iload (zs_iload_n em214_182) rfl ?_
        refine hA_const (k := 0) (zs_iconst (v := 0) em214_183 (by decide +kernel)) (by decide +kernel) (fun z183 hz183 => ?_)
        refine hA_lload (zs_lload em214_184) rfl ?_
        refine hA_callV (as := [.inl kd, .inl i, .inl z183, .inr (.inr nm)]) (rest := []) (B' := (0, 0)) (zs_invV (T := TX12) em214_186 zl_247 rfl wd_1517 wd_1519 wd_50 ((congrFun xo_12 185).trans rfl) xm_215) rfl ⟨_, rfl⟩ (Nat.le_of_ble_eq_true rfl) rfl ⟨Nat.zero_le _, Nat.zero_le _⟩ (hpre_of rfl (show hpr_247 d [.inr (.inl (some 75)), .inl kd, .inl i, .inl z183, .inr (.inr nm)] IJ from ⟨by show 1 ≤ d; omega, kd, i, z183, nm, rfl, ⟨⟨by omega, by omega⟩, hw⟩⟩)) (fun r186 I186 hp186 => ?_)
        replace hp186 : hpo_247 _ _ _ _ := hpost_of rfl hp186
        replace hp186 := hp186 kd i z183 nm rfl
        obtain ⟨rfl, i186, u186, hi186, hu186, rfl⟩ := hp186
        refine hA_iload (zs_iload_n em214_189) rfl ?_
        refine hA_iload (zs_iload_n em214_190) rfl ?_
        refine hA_add (zs_iadd em214_191) (by omega) (by omega) (fun z191 hz191 => ?_)
        refine hA_istore (L' := [some (.inr (.inl (some 75))), some (.inl z191), some (.inl c), some (.inl n), some (.inr (.inr nm)), none, some (.inl kd), none]) (zs_istore_n em214_192) ⟨Nat.le_of_ble_eq_true rfl, rfl⟩ rfl ?_
        refine hA_goto (zs_goto em214_193 (t := 291) (by decide)) ?_
        refine hA_goto (zs_goto em214_291 (t := 7) (by decide)) ?_
        refine hA_fg (L' := [some (.inr (.inl (some 75))), some (.inl z191), none, none, none, none, none, none]) (by repeat (first | exact trivial | refine And.intro rfl ?_)) ?_
        exact ih _ (by rw [zf_same]; omega) (zupd (zupd IJ (zid 78 i186.toInt.toNat) kd) 11 u186) z191 (cuF_tok (i := i186) (a := kd) (v := u186) hF (by omega) (by omega) ⟨by omega, by omega⟩) (by rw [zf_same]; omega) (by rw [zf_same]; omega) (by omega) (by omega) rfl
      have h146 : ∀ (m : Nat) (c n kd k : Int32) (nm : Int64), 0 ≤ n.toInt → i.toInt + n.toInt ≤ 2000 → (0 ≤ kd.toInt ∧ kd.toInt ≤ 40) → 0 ≤ k.toInt → zword 8 nm.toInt → (21 - k.toInt).toNat = m → zAt zG0 PZ zbd zpre zpost (d, (zbd 246).1, (zbd 246).2) prog_14_method_12_code "CapitalCaseModel" (zRet prog_14_method_12_code none (zbd 246) (hpost 246 [.inr (.inl (some 75))] I)) 146 [some (.inr (.inl (some 75))), some (.inl i), some (.inl c), some (.inl n), some (.inr (.inr nm)), none, some (.inl kd), some (.inl k)] [] IJ (0, 0) := by
        intro m
        induction m using Nat.strongRecOn with
        | ind m ih2 =>
          intro c n kd k nm hn0 hn1 hkd hk0 hw hm
          refine hA_iload (zs_iload em214_146) rfl ?_
          refine hA_const (k := 21) (zs_bipush (v := 21) em214_148 (by decide +kernel)) (by decide +kernel) (fun z148 hz148 => ?_)
          refine hA_icmp (zs_icmpge em214_150 (t := 179) (by decide)) (fun (c150 : z148.toInt ≤ k.toInt) => ?_) (fun (c150 : ¬ z148.toInt ≤ k.toInt) => ?_)
          · refine hA_fg (L' := [some (.inr (.inl (some 75))), some (.inl i), some (.inl c), some (.inl n), some (.inr (.inr nm)), none, some (.inl kd), none]) (by repeat (first | exact trivial | refine And.intro rfl ?_)) ?_
            exact h179 _ _ kd _ hn0 hn1 (by omega) hw
          · refine hA_aload (zs_aload_n em214_153) rfl ?_
            refine hA_getf2 (r := 82) (zs_getf (T := TX12) (M := 70) (ci := 12) (j := 23) em214_154 rfl inX12 (by decide) wd_1290 ((congrFun xo_12 34).trans rfl)) ⟨_, rfl, rfl⟩ ?_
            refine hA_iload (zs_iload em214_157) rfl ?_
            refine hA_lald (kd := 82) (len := 21) (zs_lald em214_159) ⟨rfl, rfl⟩ (by omega) (by show _ < ((21 : Nat) : Int); omega) (fun z159 hz159 => ?_)
            refine hA_lload (zs_lload em214_160) rfl ?_
            refine hA (zs_lcmp em214_162) ?_
            show zAt _ _ _ _ _ _ _ _ _ _ _ (.inl (lg_cmp (z159) (nm)) :: _) _ _
            generalize hz162 : lg_cmp (z159) (nm) = z162
            refine hA_if (zs_ifne em214_163 (t := 173) (by decide)) (fun (c163 : ¬ z162.toInt = 0) => ?_) (fun (c163 : ¬ ¬ z162.toInt = 0) => ?_)
            · refine hA_iinc (c := 1) (zs_iinc (k := 1) em214_173 (by decide +kernel)) (by decide +kernel) rfl ⟨Nat.le_of_ble_eq_true rfl, rfl⟩ (by omega) (by omega) (fun z173 hz173 => ?_)
              show zAt _ _ _ _ _ _ _ _ _ _ [some (.inr (.inl (some 75))), some (.inl i), some (.inl c), some (.inl n), some (.inr (.inr nm)), none, some (.inl kd), some (.inl z173)] _ _ _
              refine hA_goto (zs_goto em214_176 (t := 146) (by decide)) ?_
              exact ih2 _ (by omega) c n kd z173 nm hn0 hn1 (by omega) (by omega) hw rfl
            · refine hA_const (k := 20) (zs_bipush (v := 20) em214_166 (by decide +kernel)) (by decide +kernel) (fun z166 hz166 => ?_)
              refine hA_iload (zs_iload em214_168) rfl ?_
              refine hA_add (zs_iadd em214_170) (by omega) (by omega) (fun z170 hz170 => ?_)
              refine hA_istore (L' := [some (.inr (.inl (some 75))), some (.inl i), some (.inl c), some (.inl n), some (.inr (.inr nm)), none, some (.inl z170), some (.inl k)]) (zs_istore em214_171) ⟨Nat.le_of_ble_eq_true rfl, rfl⟩ rfl ?_
              refine hA_iinc (c := 1) (zs_iinc (k := 1) em214_173 (by decide +kernel)) (by decide +kernel) rfl ⟨Nat.le_of_ble_eq_true rfl, rfl⟩ (by omega) (by omega) (fun z173' hz173' => ?_)
              show zAt _ _ _ _ _ _ _ _ _ _ [some (.inr (.inl (some 75))), some (.inl i), some (.inl c), some (.inl n), some (.inr (.inr nm)), none, some (.inl z170), some (.inl z173')] _ _ _
              refine hA_goto (zs_goto em214_176 (t := 146) (by decide)) ?_
              exact ih2 _ (by omega) c n z170 z173' nm hn0 hn1 (by omega) (by omega) hw rfl
      have h85 : ∀ (m : Nat) (c n : Int32) (nm : Int64), 0 ≤ n.toInt → i.toInt + n.toInt ≤ 2000 → (∃ c0 : Nat, c0 ≤ 8 ∧ (c0 : Int) ≤ n.toInt ∧ zwx c0 nm.toInt) → (2001 - i.toInt - n.toInt).toNat = m → zAt zG0 PZ zbd zpre zpost (d, (zbd 246).1, (zbd 246).2) prog_14_method_12_code "CapitalCaseModel" (zRet prog_14_method_12_code none (zbd 246) (hpost 246 [.inr (.inl (some 75))] I)) 85 [some (.inr (.inl (some 75))), some (.inl i), some (.inl c), some (.inl n), some (.inr (.inr nm)), none, none, none] [] IJ (0, 0) := by
        intro m
        induction m using Nat.strongRecOn with
        | ind m ih2 =>
          intro c n nm hn0 hn1 hex hm
          obtain ⟨c0, hc0, hcn, hw0⟩ := hex
          refine hA_aload (zs_aload_n em214_85) rfl ?_
          refine hA_iload (zs_iload_n em214_86) rfl ?_
          refine hA_iload (zs_iload_n em214_87) rfl ?_
          refine hA_add (zs_iadd em214_88) (by omega) (by omega) (fun z88 hz88 => ?_)
          refine hA_callV (as := [.inl z88]) (rest := []) (B' := (0, 0)) (zs_invV (T := TX12) em214_89 zl_287 rfl wd_1513 wd_1515 wd_49 ((congrFun xo_12 181).trans rfl) xm_211) rfl ⟨_, rfl⟩ (Nat.le_of_ble_eq_true rfl) rfl ⟨Nat.zero_le _, Nat.zero_le _⟩ (hpre_of rfl (show hpr_287 d [.inr (.inl (some 75)), .inl z88] IJ from ⟨by show 1 ≤ d; omega, z88, rfl, ⟨⟨by omega, by omega⟩, by omega, by omega⟩⟩)) (fun r89 I89 hp89 => ?_)
          replace hp89 : hpo_287 _ _ _ _ := hpost_of rfl hp89
          replace hp89 := hp89 z88 rfl
          obtain ⟨y89, rfl, hy89, rfl⟩ := hp89
          have hby89 := bya_b (I := IJ) (a := z88.toInt)
          refine hA_call (as := [.inl y89]) (rest := []) (B' := (0, 0)) (zs_invS em214_92 zl_245 wd_1521 wd_1522 ((congrFun xo_12 189).trans rfl) xm_213) rfl (Nat.le_of_ble_eq_true rfl) rfl ⟨Nat.zero_le _, Nat.zero_le _⟩ (zpre_of zh_245 ⟨(by show 1 ≤ d; omega), ⟨_, _, rfl, ⟨_, rfl, an_lo _, an_hi _⟩, rfl⟩, hF_nil, fun h => by cases h⟩) (fun r92 I92 hp92 => ?_)
          replace hp92 := zpost_of zh_245 hp92
          rcases zq_245 hp92 with ⟨z92, rfl, hz92l, hz92h, rfl⟩ | ⟨z92', rfl, hz92'l, hz92'h, rfl, ha92_0⟩
          · refine hA_if (zs_ifeq em214_95 (t := 124) (by decide)) (fun (c95 : z92.toInt = 0) => ?_) (fun (c95 : ¬ z92.toInt = 0) => ?_)
            · refine hA_iload (zs_iload_n em214_124) rfl ?_
              refine hA_const (k := 8) (zs_bipush (v := 8) em214_125 (by decide +kernel)) (by decide +kernel) (fun z125 hz125 => ?_)
              refine hA_icmp (zs_icmple em214_127 (t := 134) (by decide)) (fun (c127 : n.toInt ≤ z125.toInt) => ?_) (fun (c127 : ¬ n.toInt ≤ z125.toInt) => ?_)
              · refine hA_const (k := 1) (zs_iconst (v := 1) em214_134 (by decide +kernel)) (by decide +kernel) (fun z134 hz134 => ?_)
                refine hA_istore (L' := [some (.inr (.inl (some 75))), some (.inl i), some (.inl c), some (.inl n), some (.inr (.inr nm)), none, some (.inl z134), none]) (zs_istore em214_135) ⟨Nat.le_of_ble_eq_true rfl, rfl⟩ rfl ?_
                refine hA_iload (zs_iload_n em214_137) rfl ?_
                refine hA_const (k := 8) (zs_bipush (v := 8) em214_138 (by decide +kernel)) (by decide +kernel) (fun z138 hz138 => ?_)
                refine hA_icmp (zs_icmpgt em214_140 (t := 179) (by decide)) (fun (c140 : z138.toInt < n.toInt) => ?_) (fun (c140 : ¬ z138.toInt < n.toInt) => ?_)
                · refine hA_fg (L' := [some (.inr (.inl (some 75))), some (.inl i), some (.inl c), some (.inl n), some (.inr (.inr nm)), none, some (.inl z134), none]) (by repeat (first | exact trivial | refine And.intro rfl ?_)) ?_
                  exact h179 _ _ z134 _ hn0 hn1 (by omega) (zwx_w hw0 hc0)
                · refine hA_const (k := 0) (zs_iconst (v := 0) em214_143 (by decide +kernel)) (by decide +kernel) (fun z143 hz143 => ?_)
                  refine hA_istore (L' := [some (.inr (.inl (some 75))), some (.inl i), some (.inl c), some (.inl n), some (.inr (.inr nm)), none, some (.inl z134), some (.inl z143)]) (zs_istore em214_144) ⟨Nat.le_of_ble_eq_true rfl, rfl⟩ rfl ?_
                  exact h146 _ _ _ z134 z143 _ hn0 hn1 (by omega) (by omega) (zwx_w hw0 hc0) rfl
              · refine hA_const (k := 3) (zs_iconst (v := 3) em214_130 (by decide +kernel)) (by decide +kernel) (fun z130 hz130 => ?_)
                refine hA_goto (zs_goto em214_131 (t := 135) (by decide)) ?_
                refine hA_istore (L' := [some (.inr (.inl (some 75))), some (.inl i), some (.inl c), some (.inl n), some (.inr (.inr nm)), none, some (.inl z130), none]) (zs_istore em214_135) ⟨Nat.le_of_ble_eq_true rfl, rfl⟩ rfl ?_
                refine hA_iload (zs_iload_n em214_137) rfl ?_
                refine hA_const (k := 8) (zs_bipush (v := 8) em214_138 (by decide +kernel)) (by decide +kernel) (fun z138' hz138' => ?_)
                refine hA_icmp (zs_icmpgt em214_140 (t := 179) (by decide)) (fun (c140' : z138'.toInt < n.toInt) => ?_) (fun (c140' : ¬ z138'.toInt < n.toInt) => ?_)
                · refine hA_fg (L' := [some (.inr (.inl (some 75))), some (.inl i), some (.inl c), some (.inl n), some (.inr (.inr nm)), none, some (.inl z130), none]) (by repeat (first | exact trivial | refine And.intro rfl ?_)) ?_
                  exact h179 _ _ z130 _ hn0 hn1 (by omega) (zwx_w hw0 hc0)
                · refine hA_const (k := 0) (zs_iconst (v := 0) em214_143 (by decide +kernel)) (by decide +kernel) (fun z143' hz143' => ?_)
                  refine hA_istore (L' := [some (.inr (.inl (some 75))), some (.inl i), some (.inl c), some (.inl n), some (.inr (.inr nm)), none, some (.inl z130), some (.inl z143')]) (zs_istore em214_144) ⟨Nat.le_of_ble_eq_true rfl, rfl⟩ rfl ?_
                  exact h146 _ _ _ z130 z143' _ hn0 hn1 (by omega) (by omega) (zwx_w hw0 hc0) rfl
            · exfalso
              omega
          · have ha92_0 := ha92_0 _ rfl
            refine hA_if (zs_ifeq em214_95 (t := 124) (by decide)) (fun (c95' : z92'.toInt = 0) => ?_) (fun (c95' : ¬ z92'.toInt = 0) => ?_)
            · exfalso
              omega
            · have hlt := bya_lt (I := IJ) (a := z88.toInt) (by omega)
              refine hA_iload (zs_iload_n em214_98) rfl ?_
              refine hA_const (k := 8) (zs_bipush (v := 8) em214_99 (by decide +kernel)) (by decide +kernel) (fun z99 hz99 => ?_)
              refine hA_icmp (zs_icmpge em214_101 (t := 118) (by decide)) (fun (c101 : z99.toInt ≤ n.toInt) => ?_) (fun (c101 : ¬ z99.toInt ≤ n.toInt) => ?_)
              · refine hA_iinc (c := 1) (zs_iinc (k := 1) em214_118 (by decide +kernel)) (by decide +kernel) rfl ⟨Nat.le_of_ble_eq_true rfl, rfl⟩ (by omega) (by omega) (fun z118 hz118 => ?_)
                show zAt _ _ _ _ _ _ _ _ _ _ [some (.inr (.inl (some 75))), some (.inl i), some (.inl c), some (.inl z118), some (.inr (.inr nm)), none, none, none] _ _ _
                refine hA_goto (zs_goto em214_121 (t := 85) (by decide)) ?_
                exact ih2 _ (by omega) c z118 _ (by omega) (by omega) ⟨c0, hc0, by omega, hw0⟩ rfl
              · refine hA_lload (zs_lload em214_104) rfl ?_
                refine hA_aload (zs_aload_n em214_106) rfl ?_
                refine hA_iload (zs_iload_n em214_107) rfl ?_
                refine hA_iload (zs_iload_n em214_108) rfl ?_
                refine hA_add (zs_iadd em214_109) (by omega) (by omega) (fun z109 hz109 => ?_)
                refine hA_callV (as := [.inl z109]) (rest := [.inr (.inr nm)]) (B' := (0, 0)) (zs_invV (T := TX12) em214_110 zl_287 rfl wd_1513 wd_1515 wd_49 ((congrFun xo_12 181).trans rfl) xm_211) rfl ⟨_, rfl⟩ (Nat.le_of_ble_eq_true rfl) rfl ⟨Nat.zero_le _, Nat.zero_le _⟩ (hpre_of rfl (show hpr_287 d [.inr (.inl (some 75)), .inl z109] IJ from ⟨by show 1 ≤ d; omega, z109, rfl, ⟨⟨by omega, by omega⟩, by omega, by omega⟩⟩)) (fun r110 I110 hp110 => ?_)
                replace hp110 : hpo_287 _ _ _ _ := hpost_of rfl hp110
                replace hp110 := hp110 z109 rfl
                obtain ⟨y110, rfl, hy110, rfl⟩ := hp110
                have hby110 := bya_b (I := IJ) (a := z109.toInt)
                rw [show z109.toInt = z88.toInt by omega] at hy110
                refine hA_call (as := [.inr (.inr nm), .inl y110]) (rest := []) (B' := (0, 0)) (zs_invS em214_113 zl_249 wd_1270 wd_1271 ((congrFun xo_12 174).trans rfl) xm_217) rfl (Nat.le_of_ble_eq_true rfl) rfl ⟨Nat.zero_le _, Nat.zero_le _⟩ (hpre_of rfl (show hpr_249 d [.inr (.inr nm), .inl y110] IJ from ⟨by show 1 ≤ d; omega, nm, y110, rfl, ⟨c0, by omega, hw0, by omega, by omega⟩⟩)) (fun r113 I113 hp113 => ?_)
                replace hp113 : hpo_249 _ _ _ _ := hpost_of rfl hp113
                replace hp113 := hp113 nm y110 rfl
                obtain ⟨y113, rfl, rfl, hy113⟩ := hp113
                have hw1 := hy113 c0 hw0
                refine hA_lstore (L' := [some (.inr (.inl (some 75))), some (.inl i), some (.inl c), some (.inl n), some (.inr (.inr y113)), none, none, none]) (zs_lstore em214_116) ⟨Nat.le_of_ble_eq_true rfl, rfl⟩ rfl ?_
                refine hA_iinc (c := 1) (zs_iinc (k := 1) em214_118 (by decide +kernel)) (by decide +kernel) rfl ⟨Nat.le_of_ble_eq_true rfl, rfl⟩ (by omega) (by omega) (fun z118' hz118' => ?_)
                show zAt _ _ _ _ _ _ _ _ _ _ [some (.inr (.inl (some 75))), some (.inl i), some (.inl c), some (.inl z118'), some (.inr (.inr y113)), none, none, none] _ _ _
                refine hA_goto (zs_goto em214_121 (t := 85) (by decide)) ?_
                exact ih2 _ (by omega) c z118' _ (by omega) (by omega) ⟨c0 + 1, by omega, by omega, hw1⟩ rfl
      have h208 : ∀ (m : Nat) (c n v : Int32), 0 ≤ n.toInt → i.toInt + n.toInt ≤ 2000 → (2001 - i.toInt - n.toInt).toNat = m → zAt zG0 PZ zbd zpre zpost (d, (zbd 246).1, (zbd 246).2) prog_14_method_12_code "CapitalCaseModel" (zRet prog_14_method_12_code none (zbd 246) (hpost 246 [.inr (.inl (some 75))] I)) 208 [some (.inr (.inl (some 75))), some (.inl i), some (.inl c), some (.inl n), some (.inl v), none, none, none] [] IJ (0, 0) := by
        intro m
        induction m using Nat.strongRecOn with
        | ind m ih2 =>
          intro c n v hn0 hn1 hm
          refine hA_aload (zs_aload_n em214_208) rfl ?_
          refine hA_iload (zs_iload_n em214_209) rfl ?_
          refine hA_iload (zs_iload_n em214_210) rfl ?_
          refine hA_add (zs_iadd em214_211) (by omega) (by omega) (fun z211 hz211 => ?_)
          refine hA_callV (as := [.inl z211]) (rest := []) (B' := (0, 0)) (zs_invV (T := TX12) em214_212 zl_287 rfl wd_1513 wd_1515 wd_49 ((congrFun xo_12 181).trans rfl) xm_211) rfl ⟨_, rfl⟩ (Nat.le_of_ble_eq_true rfl) rfl ⟨Nat.zero_le _, Nat.zero_le _⟩ (hpre_of rfl (show hpr_287 d [.inr (.inl (some 75)), .inl z211] IJ from ⟨by show 1 ≤ d; omega, z211, rfl, ⟨⟨by omega, by omega⟩, by omega, by omega⟩⟩)) (fun r212 I212 hp212 => ?_)
          replace hp212 : hpo_287 _ _ _ _ := hpost_of rfl hp212
          replace hp212 := hp212 z211 rfl
          obtain ⟨y212, rfl, hy212, rfl⟩ := hp212
          have hby212 := bya_b (I := IJ) (a := z211.toInt)
          refine hA_call (as := [.inl y212]) (rest := []) (B' := (0, 0)) (zs_invS em214_215 zl_244 wd_1524 wd_1525 ((congrFun xo_12 193).trans rfl) xm_212) rfl (Nat.le_of_ble_eq_true rfl) rfl ⟨Nat.zero_le _, Nat.zero_le _⟩ (zpre_of zh_244 ⟨(by show 1 ≤ d; omega), ⟨_, _, rfl, ⟨_, rfl, an_lo _, an_hi _⟩, rfl⟩, hF_nil, fun h => by cases h⟩) (fun r215 I215 hp215 => ?_)
          replace hp215 := zpost_of zh_244 hp215
          rcases zq_244 hp215 with ⟨z215, rfl, hz215l, hz215h, rfl⟩ | ⟨z215', rfl, hz215'l, hz215'h, rfl, ha215_0⟩
          · refine hA_if (zs_ifeq em214_218 (t := 250) (by decide)) (fun (c218 : z215.toInt = 0) => ?_) (fun (c218 : ¬ z215.toInt = 0) => ?_)
            · refine hA_aload (zs_aload_n em214_250) rfl ?_
              refine hA_iload (zs_iload_n em214_251) rfl ?_
              refine hA_const (k := 4) (zs_iconst (v := 4) em214_252 (by decide +kernel)) (by decide +kernel) (fun z252 hz252 => ?_)
              refine hA_icmp (zs_icmple em214_253 (t := 260) (by decide)) (fun (c253 : n.toInt ≤ z252.toInt) => ?_) (fun (c253 : ¬ n.toInt ≤ z252.toInt) => ?_)
              · refine hA_const (k := 2) (zs_iconst (v := 2) em214_260 (by decide +kernel)) (by decide +kernel) (fun z260 hz260 => ?_)
                refine hA_iload (zs_iload_n em214_261) rfl ?_
                refine hA_iload (zs_iload em214_262) rfl ?_
                refine hA_lconst (zs_lconst (v := 0) em214_264 (by decide +kernel)) ?_
                refine hA_callV (as := [.inl z260, .inl i, .inl v, .inr (.inr (0 : Int64))]) (rest := []) (B' := (0, 0)) (zs_invV (T := TX12) em214_265 zl_247 rfl wd_1517 wd_1519 wd_50 ((congrFun xo_12 185).trans rfl) xm_215) rfl ⟨_, rfl⟩ (Nat.le_of_ble_eq_true rfl) rfl ⟨Nat.zero_le _, Nat.zero_le _⟩ (hpre_of rfl (show hpr_247 d [.inr (.inl (some 75)), .inl z260, .inl i, .inl v, .inr (.inr (0 : Int64))] IJ from ⟨by show 1 ≤ d; omega, z260, i, v, (0 : Int64), rfl, ⟨⟨by omega, by omega⟩, by unfold zword; exact Or.inl (by decide)⟩⟩)) (fun r265 I265 hp265 => ?_)
                replace hp265 : hpo_247 _ _ _ _ := hpost_of rfl hp265
                replace hp265 := hp265 z260 i v (0 : Int64) rfl
                obtain ⟨rfl, i265, u265, hi265, hu265, rfl⟩ := hp265
                refine hA_iload (zs_iload_n em214_268) rfl ?_
                refine hA_iload (zs_iload_n em214_269) rfl ?_
                refine hA_add (zs_iadd em214_270) (by omega) (by omega) (fun z270 hz270 => ?_)
                refine hA_istore (L' := [some (.inr (.inl (some 75))), some (.inl z270), some (.inl c), some (.inl n), some (.inl v), none, none, none]) (zs_istore_n em214_271) ⟨Nat.le_of_ble_eq_true rfl, rfl⟩ rfl ?_
                refine hA_goto (zs_goto em214_272 (t := 291) (by decide)) ?_
                refine hA_goto (zs_goto em214_291 (t := 7) (by decide)) ?_
                refine hA_fg (L' := [some (.inr (.inl (some 75))), some (.inl z270), none, none, none, none, none, none]) (by repeat (first | exact trivial | refine And.intro rfl ?_)) ?_
                exact ih _ (by rw [zf_same]; omega) (zupd (zupd IJ (zid 78 i265.toInt.toNat) z260) 11 u265) z270 (cuF_tok (i := i265) (a := z260) (v := u265) hF (by omega) (by omega) ⟨by omega, by omega⟩) (by rw [zf_same]; omega) (by rw [zf_same]; omega) (by omega) (by omega) rfl
              · refine hA_const (k := 3) (zs_iconst (v := 3) em214_256 (by decide +kernel)) (by decide +kernel) (fun z256 hz256 => ?_)
                refine hA_goto (zs_goto em214_257 (t := 261) (by decide)) ?_
                refine hA_iload (zs_iload_n em214_261) rfl ?_
                refine hA_iload (zs_iload em214_262) rfl ?_
                refine hA_lconst (zs_lconst (v := 0) em214_264 (by decide +kernel)) ?_
                refine hA_callV (as := [.inl z256, .inl i, .inl v, .inr (.inr (0 : Int64))]) (rest := []) (B' := (0, 0)) (zs_invV (T := TX12) em214_265 zl_247 rfl wd_1517 wd_1519 wd_50 ((congrFun xo_12 185).trans rfl) xm_215) rfl ⟨_, rfl⟩ (Nat.le_of_ble_eq_true rfl) rfl ⟨Nat.zero_le _, Nat.zero_le _⟩ (hpre_of rfl (show hpr_247 d [.inr (.inl (some 75)), .inl z256, .inl i, .inl v, .inr (.inr (0 : Int64))] IJ from ⟨by show 1 ≤ d; omega, z256, i, v, (0 : Int64), rfl, ⟨⟨by omega, by omega⟩, by unfold zword; exact Or.inl (by decide)⟩⟩)) (fun r265 I265 hp265 => ?_)
                replace hp265 : hpo_247 _ _ _ _ := hpost_of rfl hp265
                replace hp265 := hp265 z256 i v (0 : Int64) rfl
                obtain ⟨rfl, i265', u265', hi265', hu265', rfl⟩ := hp265
                refine hA_iload (zs_iload_n em214_268) rfl ?_
                refine hA_iload (zs_iload_n em214_269) rfl ?_
                refine hA_add (zs_iadd em214_270) (by omega) (by omega) (fun z270' hz270' => ?_)
                refine hA_istore (L' := [some (.inr (.inl (some 75))), some (.inl z270'), some (.inl c), some (.inl n), some (.inl v), none, none, none]) (zs_istore_n em214_271) ⟨Nat.le_of_ble_eq_true rfl, rfl⟩ rfl ?_
                refine hA_goto (zs_goto em214_272 (t := 291) (by decide)) ?_
                refine hA_goto (zs_goto em214_291 (t := 7) (by decide)) ?_
                refine hA_fg (L' := [some (.inr (.inl (some 75))), some (.inl z270'), none, none, none, none, none, none]) (by repeat (first | exact trivial | refine And.intro rfl ?_)) ?_
                exact ih _ (by rw [zf_same]; omega) (zupd (zupd IJ (zid 78 i265'.toInt.toNat) z256) 11 u265') z270' (cuF_tok (i := i265') (a := z256) (v := u265') hF (by omega) (by omega) ⟨by omega, by omega⟩) (by rw [zf_same]; omega) (by rw [zf_same]; omega) (by omega) (by omega) rfl
            · exfalso
              omega
          · have ha215_0 := ha215_0 _ rfl
            refine hA_if (zs_ifeq em214_218 (t := 250) (by decide)) (fun (c218' : z215'.toInt = 0) => ?_) (fun (c218' : ¬ z215'.toInt = 0) => ?_)
            · exfalso
              omega
            · have hlt := bya_lt (I := IJ) (a := z211.toInt) (by omega)
              refine hA_iload (zs_iload_n em214_221) rfl ?_
              refine hA_const (k := 4) (zs_iconst (v := 4) em214_222 (by decide +kernel)) (by decide +kernel) (fun z222 hz222 => ?_)
              refine hA_icmp (zs_icmpge em214_223 (t := 244) (by decide)) (fun (c223 : z222.toInt ≤ n.toInt) => ?_) (fun (c223 : ¬ z222.toInt ≤ n.toInt) => ?_)
              · refine hA_iinc (c := 1) (zs_iinc (k := 1) em214_244 (by decide +kernel)) (by decide +kernel) rfl ⟨Nat.le_of_ble_eq_true rfl, rfl⟩ (by omega) (by omega) (fun z244 hz244 => ?_)
                show zAt _ _ _ _ _ _ _ _ _ _ [some (.inr (.inl (some 75))), some (.inl i), some (.inl c), some (.inl z244), some (.inl v), none, none, none] _ _ _
                refine hA_goto (zs_goto em214_247 (t := 208) (by decide)) ?_
                exact ih2 _ (by omega) c z244 v (by omega) (by omega) rfl
              · refine hA_const (k := 10) (zs_bipush (v := 10) em214_226 (by decide +kernel)) (by decide +kernel) (fun z226 hz226 => ?_)
                refine hA_iload (zs_iload em214_228) rfl ?_
                refine hA_bin (zs_imul em214_230) (fun z230 => ?_)
                refine hA_aload (zs_aload_n em214_231) rfl ?_
                refine hA_iload (zs_iload_n em214_232) rfl ?_
                refine hA_iload (zs_iload_n em214_233) rfl ?_
                refine hA_add (zs_iadd em214_234) (by omega) (by omega) (fun z234 hz234 => ?_)
                refine hA_callV (as := [.inl z234]) (rest := [.inl z230]) (B' := (0, 0)) (zs_invV (T := TX12) em214_235 zl_287 rfl wd_1513 wd_1515 wd_49 ((congrFun xo_12 181).trans rfl) xm_211) rfl ⟨_, rfl⟩ (Nat.le_of_ble_eq_true rfl) rfl ⟨Nat.zero_le _, Nat.zero_le _⟩ (hpre_of rfl (show hpr_287 d [.inr (.inl (some 75)), .inl z234] IJ from ⟨by show 1 ≤ d; omega, z234, rfl, ⟨⟨by omega, by omega⟩, by omega, by omega⟩⟩)) (fun r235 I235 hp235 => ?_)
                replace hp235 : hpo_287 _ _ _ _ := hpost_of rfl hp235
                replace hp235 := hp235 z234 rfl
                obtain ⟨y235, rfl, hy235, rfl⟩ := hp235
                have hby235 := bya_b (I := IJ) (a := z234.toInt)
                refine hA_bin (zs_iadd em214_238) (fun z238 => ?_)
                refine hA_const (k := 48) (zs_bipush (v := 48) em214_239 (by decide +kernel)) (by decide +kernel) (fun z239 hz239 => ?_)
                refine hA_bin (zs_isub em214_241) (fun z241 => ?_)
                refine hA_istore (L' := [some (.inr (.inl (some 75))), some (.inl i), some (.inl c), some (.inl n), some (.inl z241), none, none, none]) (zs_istore em214_242) ⟨Nat.le_of_ble_eq_true rfl, rfl⟩ rfl ?_
                refine hA_iinc (c := 1) (zs_iinc (k := 1) em214_244 (by decide +kernel)) (by decide +kernel) rfl ⟨Nat.le_of_ble_eq_true rfl, rfl⟩ (by omega) (by omega) (fun z244' hz244' => ?_)
                show zAt _ _ _ _ _ _ _ _ _ _ [some (.inr (.inl (some 75))), some (.inl i), some (.inl c), some (.inl z244'), some (.inl z241), none, none, none] _ _ _
                refine hA_goto (zs_goto em214_247 (t := 208) (by decide)) ?_
                exact ih2 _ (by omega) c z244' z241 (by omega) (by omega) rfl
      have h73 : ∀ c : Int32, i.toInt ≤ 1999 → zAt zG0 PZ zbd zpre zpost (d, (zbd 246).1, (zbd 246).2) prog_14_method_12_code "CapitalCaseModel" (zRet prog_14_method_12_code none (zbd 246) (hpost 246 [.inr (.inl (some 75))] I)) 73 [some (.inr (.inl (some 75))), some (.inl i), some (.inl c), none, none, none, none, none] [] IJ (0, 0) := by
        intro c hi2
        refine hA_iload (zs_iload_n em214_73) rfl ?_
        refine hA_call (as := [.inl c]) (rest := []) (B' := (0, 0)) (zs_invS em214_74 zl_245 wd_1521 wd_1522 ((congrFun xo_12 189).trans rfl) xm_213) rfl (Nat.le_of_ble_eq_true rfl) rfl ⟨Nat.zero_le _, Nat.zero_le _⟩ (zpre_of zh_245 ⟨(by show 1 ≤ d; omega), ⟨_, _, rfl, ⟨_, rfl, an_lo _, an_hi _⟩, rfl⟩, hF_nil, fun h => by cases h⟩) (fun r74 I74 hp74 => ?_)
        replace hp74 := zpost_of zh_245 hp74
        rcases zq_245 hp74 with ⟨z74, rfl, hz74l, hz74h, rfl⟩ | ⟨z74', rfl, hz74'l, hz74'h, rfl, ha74_0⟩
        · refine hA_if (zs_ifeq em214_77 (t := 196) (by decide)) (fun (c77 : z74.toInt = 0) => ?_) (fun (c77 : ¬ z74.toInt = 0) => ?_)
          · refine hA_iload (zs_iload_n em214_196) rfl ?_
            refine hA_call (as := [.inl c]) (rest := []) (B' := (0, 0)) (zs_invS em214_197 zl_244 wd_1524 wd_1525 ((congrFun xo_12 193).trans rfl) xm_212) rfl (Nat.le_of_ble_eq_true rfl) rfl ⟨Nat.zero_le _, Nat.zero_le _⟩ (zpre_of zh_244 ⟨(by show 1 ≤ d; omega), ⟨_, _, rfl, ⟨_, rfl, an_lo _, an_hi _⟩, rfl⟩, hF_nil, fun h => by cases h⟩) (fun r197 I197 hp197 => ?_)
            replace hp197 := zpost_of zh_244 hp197
            rcases zq_244 hp197 with ⟨z197, rfl, hz197l, hz197h, rfl⟩ | ⟨z197', rfl, hz197'l, hz197'h, rfl, ha197_0⟩
            · refine hA_if (zs_ifeq em214_200 (t := 275) (by decide)) (fun (c200 : z197.toInt = 0) => ?_) (fun (c200 : ¬ z197.toInt = 0) => ?_)
              · refine hA_iload (zs_iload_n em214_275) rfl ?_
                refine hA_aload (zs_aload_n em214_276) rfl ?_
                refine hA_iload (zs_iload_n em214_277) rfl ?_
                refine hA_iload (zs_iload_n em214_278) rfl ?_
                refine hA_aload (zs_aload_n em214_279) rfl ?_
                refine hA_iload (zs_iload_n em214_280) rfl ?_
                refine hA_const (k := 1) (zs_iconst (v := 1) em214_281 (by decide +kernel)) (by decide +kernel) (fun z281 hz281 => ?_)
                refine hA_add (zs_iadd em214_282) (by omega) (by omega) (fun z282 hz282 => ?_)
                refine hA_callV (as := [.inl z282]) (rest := [.inl c, .inl i, .inr (.inl (some 75)), .inl i]) (B' := (0, 0)) (zs_invV (T := TX12) em214_283 zl_287 rfl wd_1513 wd_1515 wd_49 ((congrFun xo_12 181).trans rfl) xm_211) rfl ⟨_, rfl⟩ (Nat.le_of_ble_eq_true rfl) rfl ⟨Nat.zero_le _, Nat.zero_le _⟩ (hpre_of rfl (show hpr_287 d [.inr (.inl (some 75)), .inl z282] IJ from ⟨by show 1 ≤ d; omega, z282, rfl, ⟨⟨by omega, by omega⟩, by omega, by omega⟩⟩)) (fun r283 I283 hp283 => ?_)
                replace hp283 : hpo_287 _ _ _ _ := hpost_of rfl hp283
                replace hp283 := hp283 z282 rfl
                obtain ⟨y283, rfl, hy283, rfl⟩ := hp283
                have hby283 := bya_b (I := IJ) (a := z282.toInt)
                refine hA_callV (as := [.inl i, .inl c, .inl y283]) (rest := [.inl i]) (B' := (0, 0)) (zs_invV (T := TX12) em214_286 zl_248 rfl wd_1527 wd_1529 wd_51 ((congrFun xo_12 196).trans rfl) xm_216) rfl ⟨_, rfl⟩ (Nat.le_of_ble_eq_true rfl) rfl ⟨Nat.zero_le _, Nat.zero_le _⟩ (hpre_of rfl (show hpr_248 d [.inr (.inl (some 75)), .inl i, .inl c, .inl y283] IJ from ⟨by show 3 ≤ d; omega, i, c, y283, rfl, ⟨by omega, by omega⟩⟩)) (fun r286 I286 hp286 => ?_)
                replace hp286 : hpo_248 _ _ _ _ := hpost_of rfl hp286
                replace hp286 := hp286 i c y283 rfl
                obtain ⟨x286, rfl, hx286, i286, u286, k286, hi286, hu286, hk286, rfl⟩ := hp286
                refine hA_add (zs_iadd em214_289) (by omega) (by omega) (fun z289 hz289 => ?_)
                refine hA_istore (L' := [some (.inr (.inl (some 75))), some (.inl z289), some (.inl c), none, none, none, none, none]) (zs_istore_n em214_290) ⟨Nat.le_of_ble_eq_true rfl, rfl⟩ rfl ?_
                refine hA_goto (zs_goto em214_291 (t := 7) (by decide)) ?_
                refine hA_fg (L' := [some (.inr (.inl (some 75))), some (.inl z289), none, none, none, none, none, none]) (by repeat (first | exact trivial | refine And.intro rfl ?_)) ?_
                exact ih _ (by rw [zf_same]; omega) (zupd (zupd IJ (zid 78 i286.toInt.toNat) k286) 11 u286) z289 (cuF_tok (i := i286) (a := k286) (v := u286) hF (by omega) (by omega) ⟨by omega, by omega⟩) (by rw [zf_same]; omega) (by rw [zf_same]; omega) (by omega) (by omega) rfl
              · exfalso
                omega
            · have ha197_0 := ha197_0 _ rfl
              refine hA_if (zs_ifeq em214_200 (t := 275) (by decide)) (fun (c200' : z197'.toInt = 0) => ?_) (fun (c200' : ¬ z197'.toInt = 0) => ?_)
              · exfalso
                omega
              · refine hA_const (k := 0) (zs_iconst (v := 0) em214_203 (by decide +kernel)) (by decide +kernel) (fun z203 hz203 => ?_)
                refine hA_istore (L' := [some (.inr (.inl (some 75))), some (.inl i), some (.inl c), some (.inl z203), none, none, none, none]) (zs_istore_n em214_204) ⟨Nat.le_of_ble_eq_true rfl, rfl⟩ rfl ?_
                refine hA_const (k := 0) (zs_iconst (v := 0) em214_205 (by decide +kernel)) (by decide +kernel) (fun z205 hz205 => ?_)
                refine hA_istore (L' := [some (.inr (.inl (some 75))), some (.inl i), some (.inl c), some (.inl z203), some (.inl z205), none, none, none]) (zs_istore em214_206) ⟨Nat.le_of_ble_eq_true rfl, rfl⟩ rfl ?_
                exact h208 _ _ z203 z205 (by omega) (by omega) rfl
          · exfalso
            omega
        · have ha74_0 := ha74_0 _ rfl
          refine hA_if (zs_ifeq em214_77 (t := 196) (by decide)) (fun (c77' : z74'.toInt = 0) => ?_) (fun (c77' : ¬ z74'.toInt = 0) => ?_)
          · exfalso
            omega
          · refine hA_const (k := 0) (zs_iconst (v := 0) em214_80 (by decide +kernel)) (by decide +kernel) (fun z80 hz80 => ?_)
            refine hA_istore (L' := [some (.inr (.inl (some 75))), some (.inl i), some (.inl c), some (.inl z80), none, none, none, none]) (zs_istore_n em214_81) ⟨Nat.le_of_ble_eq_true rfl, rfl⟩ rfl ?_
            refine hA_lconst (zs_lconst (v := 0) em214_82 (by decide +kernel)) ?_
            refine hA_lstore (L' := [some (.inr (.inl (some 75))), some (.inl i), some (.inl c), some (.inl z80), some (.inr (.inr (0 : Int64))), none, none, none]) (zs_lstore em214_83) ⟨Nat.le_of_ble_eq_true rfl, rfl⟩ rfl ?_
            exact h85 _ _ z80 _ (by omega) (by omega) ⟨0, by omega, by omega, rfl⟩ rfl
      have h67 : ∀ c : Int32, i.toInt ≤ 1999 → zAt zG0 PZ zbd zpre zpost (d, (zbd 246).1, (zbd 246).2) prog_14_method_12_code "CapitalCaseModel" (zRet prog_14_method_12_code none (zbd 246) (hpost 246 [.inr (.inl (some 75))] I)) 67 [some (.inr (.inl (some 75))), some (.inl i), some (.inl c), none, none, none, none, none] [] IJ (0, 0) := by
        intro c hi2
        refine hA_iinc (c := 1) (zs_iinc (k := 1) em214_67 (by decide +kernel)) (by decide +kernel) rfl ⟨Nat.le_of_ble_eq_true rfl, rfl⟩ (by omega) (by omega) (fun z67 hz67 => ?_)
        show zAt _ _ _ _ _ _ _ _ _ _ [some (.inr (.inl (some 75))), some (.inl z67), some (.inl c), none, none, none, none, none] _ _ _
        refine hA_goto (zs_goto em214_70 (t := 291) (by decide)) ?_
        refine hA_goto (zs_goto em214_291 (t := 7) (by decide)) ?_
        refine hA_fg (L' := [some (.inr (.inl (some 75))), some (.inl z67), none, none, none, none, none, none]) (by repeat (first | exact trivial | refine And.intro rfl ?_)) ?_
        exact ih _ (by omega) IJ z67 hF h11 h11b (by omega) (by omega) rfl
      refine hA_aload (zs_aload_n em214_7) rfl ?_
      refine hA_getf0 (id := 11) (zs_getf (T := TX12) (M := 70) (ci := 12) (j := 24) em214_8 rfl inX12 (by decide) wd_1291 ((congrFun xo_12 178).trans rfl)) ⟨_, rfl, rfl⟩ (fun z8 hz8 => ?_)
      refine hA_const (k := 400) (zs_sipush (v := 400) em214_11 (by decide +kernel)) (by decide +kernel) (fun z11 hz11 => ?_)
      refine hA_icmp (zs_icmpgt em214_14 (t := 294) (by decide)) (fun (c14 : z11.toInt < z8.toInt) => ?_) (fun (c14 : ¬ z11.toInt < z8.toInt) => ?_)
      · refine hA_return ⟨rfl, em214_294⟩ ⟨Nat.le_refl _, Nat.le_refl _⟩ ?_
        intro he
        cases he
        have hZ := hF
        exact ⟨rfl, hZ.1, hZ.2.1, cuF_end hInv hZ⟩
      · refine hA_aload (zs_aload_n em214_17) rfl ?_
        refine hA_iload (zs_iload_n em214_18) rfl ?_
        refine hA_callV (as := [.inl i]) (rest := []) (B' := (0, 0)) (zs_invV (T := TX12) em214_19 zl_287 rfl wd_1513 wd_1515 wd_49 ((congrFun xo_12 181).trans rfl) xm_211) rfl ⟨_, rfl⟩ (Nat.le_of_ble_eq_true rfl) rfl ⟨Nat.zero_le _, Nat.zero_le _⟩ (hpre_of rfl (show hpr_287 d [.inr (.inl (some 75)), .inl i] IJ from ⟨by show 1 ≤ d; omega, i, rfl, ⟨⟨by omega, by omega⟩, by omega, by omega⟩⟩)) (fun r19 I19 hp19 => ?_)
        replace hp19 : hpo_287 _ _ _ _ := hpost_of rfl hp19
        replace hp19 := hp19 i rfl
        obtain ⟨y19, rfl, hy19, rfl⟩ := hp19
        have hby19 := bya_b (I := IJ) (a := i.toInt)
        refine hA_istore (L' := [some (.inr (.inl (some 75))), some (.inl i), some (.inl y19), none, none, none, none, none]) (zs_istore_n em214_22) ⟨Nat.le_of_ble_eq_true rfl, rfl⟩ rfl ?_
        refine hA_iload (zs_iload_n em214_23) rfl ?_
        refine hA_aload (zs_aload_n em214_24) rfl ?_
        refine hA_getf0 (id := 24) (zs_getf (T := TX12) (M := 70) (ci := 12) (j := 18) em214_25 rfl inX12 (by decide) wd_1285 ((congrFun xo_12 169).trans rfl)) ⟨_, rfl, rfl⟩ (fun z25 hz25 => ?_)
        refine hA_icmp (zs_icmplt em214_28 (t := 43) (by decide)) (fun (c28 : i.toInt < z25.toInt) => ?_) (fun (c28 : ¬ i.toInt < z25.toInt) => ?_)
        · refine hA_iload (zs_iload_n em214_43) rfl ?_
          refine hA_const (k := 9) (zs_bipush (v := 9) em214_44 (by decide +kernel)) (by decide +kernel) (fun z44 hz44 => ?_)
          refine hA_icmp (zs_icmpeq em214_46 (t := 67) (by decide)) (fun (c46 : y19.toInt = z44.toInt) => ?_) (fun (c46 : ¬ y19.toInt = z44.toInt) => ?_)
          · exact h67 _ (by omega)
          · refine hA_iload (zs_iload_n em214_49) rfl ?_
            refine hA_const (k := 10) (zs_bipush (v := 10) em214_50 (by decide +kernel)) (by decide +kernel) (fun z50 hz50 => ?_)
            refine hA_icmp (zs_icmpeq em214_52 (t := 67) (by decide)) (fun (c52 : y19.toInt = z50.toInt) => ?_) (fun (c52 : ¬ y19.toInt = z50.toInt) => ?_)
            · exact h67 _ (by omega)
            · refine hA_iload (zs_iload_n em214_55) rfl ?_
              refine hA_const (k := 13) (zs_bipush (v := 13) em214_56 (by decide +kernel)) (by decide +kernel) (fun z56 hz56 => ?_)
              refine hA_icmp (zs_icmpeq em214_58 (t := 67) (by decide)) (fun (c58 : y19.toInt = z56.toInt) => ?_) (fun (c58 : ¬ y19.toInt = z56.toInt) => ?_)
              · exact h67 _ (by omega)
              · refine hA_iload (zs_iload_n em214_61) rfl ?_
                refine hA_const (k := 32) (zs_bipush (v := 32) em214_62 (by decide +kernel)) (by decide +kernel) (fun z62 hz62 => ?_)
                refine hA_icmp (zs_icmpne em214_64 (t := 73) (by decide)) (fun (c64 : ¬ y19.toInt = z62.toInt) => ?_) (fun (c64 : ¬ ¬ y19.toInt = z62.toInt) => ?_)
                · exact h73 _ (by omega)
                · exact h67 _ (by omega)
        · refine hA_aload (zs_aload_n em214_31) rfl ?_
          refine hA_const (k := 0) (zs_iconst (v := 0) em214_32 (by decide +kernel)) (by decide +kernel) (fun z32 hz32 => ?_)
          refine hA_aload (zs_aload_n em214_33) rfl ?_
          refine hA_getf0 (id := 24) (zs_getf (T := TX12) (M := 70) (ci := 12) (j := 18) em214_34 rfl inX12 (by decide) wd_1285 ((congrFun xo_12 169).trans rfl)) ⟨_, rfl, rfl⟩ (fun z34 hz34 => ?_)
          refine hA_const (k := 0) (zs_iconst (v := 0) em214_37 (by decide +kernel)) (by decide +kernel) (fun z37 hz37 => ?_)
          refine hA_lconst (zs_lconst (v := 0) em214_38 (by decide +kernel)) ?_
          refine hA_callV (as := [.inl z32, .inl z34, .inl z37, .inr (.inr (0 : Int64))]) (rest := []) (B' := (0, 0)) (zs_invV (T := TX12) em214_39 zl_247 rfl wd_1517 wd_1519 wd_50 ((congrFun xo_12 185).trans rfl) xm_215) rfl ⟨_, rfl⟩ (Nat.le_of_ble_eq_true rfl) rfl ⟨Nat.zero_le _, Nat.zero_le _⟩ (hpre_of rfl (show hpr_247 d [.inr (.inl (some 75)), .inl z32, .inl z34, .inl z37, .inr (.inr (0 : Int64))] IJ from ⟨by show 1 ≤ d; omega, z32, z34, z37, (0 : Int64), rfl, ⟨⟨by omega, by omega⟩, by unfold zword; exact Or.inl (by decide)⟩⟩)) (fun r39 I39 hp39 => ?_)
          replace hp39 : hpo_247 _ _ _ _ := hpost_of rfl hp39
          replace hp39 := hp39 z32 z34 z37 (0 : Int64) rfl
          obtain ⟨rfl, i39, u39, hi39, hu39, rfl⟩ := hp39
          refine hA_return ⟨rfl, em214_42⟩ ⟨Nat.le_refl _, Nat.le_refl _⟩ ?_
          intro he
          cases he
          have hZ := cuF_tok (v := u39) hF (i := i39) (a := z32) (by omega) (by omega) ⟨by omega, by omega⟩
          exact ⟨rfl, hZ.1, hZ.2.1, cuF_end hInv hZ⟩
  refine hmet (L := [some (.inr (.inl (some 75))), none, none, none, none, none, none, none]) (by decide) (Nat.le_of_ble_eq_true rfl) hc rfl ?_
  refine hA_aload (zs_aload_n em214_0) rfl ?_
  refine hA_const (k := 0) (zs_iconst (v := 0) em214_1 (by decide +kernel)) (by decide +kernel) (fun z1 hz1 => ?_)
  refine hA_puti0 (id := 11) (zs_puti zInj0 (T := TX12) (M := 70) (ty := tyX12) (ci := 12) (j := 24) (kd := 0) em214_2 rfl inX12 tyX12_ok nmX12 (by decide) wd_1291 (Or.inl ⟨rfl, rfl⟩) rfl ((congrFun xo_12 178).trans rfl)) ⟨_, rfl, rfl⟩ (fun h => by cases h) ?_
  refine hA_const (k := 0) (zs_iconst (v := 0) em214_5 (by decide +kernel)) (by decide +kernel) (fun z5 hz5 => ?_)
  refine hA_istore (L' := [some (.inr (.inl (some 75))), some (.inl z5), none, none, none, none, none, none]) (zs_istore_n em214_6) ⟨Nat.le_of_ble_eq_true rfl, rfl⟩ rfl ?_
  exact loop _ _ z5 (cuF_rf hInv) (by rw [zf_same]; omega) (by rw [zf_same]; omega) (by omega) (by omega) rfl
