def R_law : String := "CapitalCaseLaw"
def lw_P (b : Addr) (xs : List Int32) (args : Array Value) (s : State) : Prop := args = #[.ref b] ∧ s.IntsAt b xs ∧ xs.length ≤ 3072 ∧ (Jvm.Cond.and given_1 narrow_1).before args s = true
def lw_Q (_ : Array Value) (s : State) (o : Outcome) (t : State) : Prop := o = .returned (some (.int 1)) ∧ Framed s o t [] 600000 7302250
def lw_Z (below : List Frame) (a : Array Value) (s : State) : State → Prop := fun t => ∃ o, t.status = .running ∧ Ended t below o ∧ lw_Q a s o t
/-- the law's own end, with 1 on the stack, nothing written that was there before, its room as the claim has it -/
theorem lw_ret {p : Program} {l : Launch} {e : Env} {s : State} {m : MethodId} {below : List Frame} {meth : Method} {c : Code} {b : Nat} (hx : p.tables.exec = Jvm.exec) (hb : c.code = code) (hr : meth.sig.returnType = ret) (hlocks : meth.locks = false) {pc : Nat} {H : Heap} {ls : Array Slot} (hdg : decode code pc = .ok (.ireturn, 1)) : W p l e room_1 s m #[Value.ref b] below meth c H [] 600000 7302250 (lw_Z below #[Value.ref b] s) (F0 m pc ls [.int 1]) := by
  intro T hT X
  obtain ⟨fs, hret, hrun, hended, hW, hframe⟩ := X.leave (v := some (.int 1)) (hlocks := hlocks) (fun h => by rw [hr] at h; cases h)
  have hmeth' : T.vm.method? m = some meth := X.method'
  refine ⟨T.setFrames fs, ?_, .returned (some (.int 1)), hrun, hended, rfl, ⟨_, rfl⟩, hW, hframe⟩
  jvm_step X.here [X.here.top, hx, hb, hdg, hmeth', hr, ret, narrow_b1]
  (try refine ⟨rfl, ?_⟩); (try refine ⟨rfl, ?_⟩)
  first | (intro acts; rw [hret _ acts rfl rfl rfl]) | rw [hret _ _ rfl rfl rfl]
  exact Steps.refl _
/-- what holds at the law's entry: the machine, the code, the tables' words (any of lw_tbl by 'hts w (by decide +kernel)'), the script of L ints xs at the cell b, what the Statement gives of the start (any of its parts by flat_of_before) -/
def lw_At (p : Program) (s : State) (m : MethodId) (meth : Method) (c : Code) (b L : Nat) (xs : Nat → Int32) : Prop :=
  p.tables.exec = Jvm.exec ∧ c.code = code ∧ meth.sig.returnType = ret ∧ c.maxLocals = 4 ∧ s.vm.findClass R_law = some m.cls ∧ (∀ w ∈ lw_tbl, w.before #[Value.ref b] s = true) ∧ va_X b L xs s s.heap ∧ b < s.heap.size ∧ meth.locks = false ∧ (Jvm.Cond.and given_1 narrow_1).before #[Value.ref b] s = true

set_option maxRecDepth 100000 in
theorem wd_602 : Cond.methodLink "CapitalCaseLaw" 13 ⟨"CapitalCase", "feed", "(IIIII)I"⟩ ∈ xTB := xw 602 (by decide +kernel) (by decide +kernel)
set_option maxRecDepth 100000 in
theorem wd_603 : Cond.instanceMethod ⟨"CapitalCase", "feed", "(IIIII)I"⟩ ∈ xTB := xw 603 (by decide +kernel) (by decide +kernel)
set_option maxRecDepth 100000 in
theorem wd_604 : Cond.selects "CapitalCase" ⟨"CapitalCase", "feed", "(IIIII)I"⟩ ⟨"CapitalCase", "feed", "(IIIII)I"⟩ ∈ xTB := xw 604 (by decide +kernel) (by decide +kernel)
set_option maxRecDepth 100000 in
theorem wd_610 : Cond.methodLink "CapitalCaseLaw" 18 ⟨"CapitalCase", "back", "(I)I"⟩ ∈ xTB := xw 610 (by decide +kernel) (by decide +kernel)
set_option maxRecDepth 100000 in
theorem wd_611 : Cond.instanceMethod ⟨"CapitalCase", "back", "(I)I"⟩ ∈ xTB := xw 611 (by decide +kernel) (by decide +kernel)
set_option maxRecDepth 100000 in
theorem wd_612 : Cond.selects "CapitalCase" ⟨"CapitalCase", "back", "(I)I"⟩ ⟨"CapitalCase", "back", "(I)I"⟩ ∈ xTB := xw 612 (by decide +kernel) (by decide +kernel)
set_option maxRecDepth 100000 in
theorem wd_989 : Cond.methodLink "CapitalCaseLaw" 60 ⟨"CapitalCase", "lend", "(III)Z"⟩ ∈ xTB := xw 989 (by decide +kernel) (by decide +kernel)
set_option maxRecDepth 100000 in
theorem wd_990 : Cond.instanceMethod ⟨"CapitalCase", "lend", "(III)Z"⟩ ∈ xTB := xw 990 (by decide +kernel) (by decide +kernel)
set_option maxRecDepth 100000 in
theorem wd_991 : Cond.selects "CapitalCase" ⟨"CapitalCase", "lend", "(III)Z"⟩ ⟨"CapitalCase", "lend", "(III)Z"⟩ ∈ xTB := xw 991 (by decide +kernel) (by decide +kernel)
set_option maxRecDepth 100000 in
theorem wd_1493 : Cond.methodLink "CapitalCaseLaw" 17 ⟨"CapitalCaseModel", "feed", "(IIIII)I"⟩ ∈ xTB := xw 1493 (by decide +kernel) (by decide +kernel)
set_option maxRecDepth 100000 in
theorem wd_1494 : Cond.instanceMethod ⟨"CapitalCaseModel", "feed", "(IIIII)I"⟩ ∈ xTB := xw 1494 (by decide +kernel) (by decide +kernel)
set_option maxRecDepth 100000 in
theorem wd_1495 : Cond.selects "CapitalCaseModel" ⟨"CapitalCaseModel", "feed", "(IIIII)I"⟩ ⟨"CapitalCaseModel", "feed", "(IIIII)I"⟩ ∈ xTB := xw 1495 (by decide +kernel) (by decide +kernel)
set_option maxRecDepth 100000 in
theorem wd_1501 : Cond.methodLink "CapitalCaseLaw" 22 ⟨"CapitalCaseModel", "back", "(I)I"⟩ ∈ xTB := xw 1501 (by decide +kernel) (by decide +kernel)
set_option maxRecDepth 100000 in
theorem wd_1502 : Cond.instanceMethod ⟨"CapitalCaseModel", "back", "(I)I"⟩ ∈ xTB := xw 1502 (by decide +kernel) (by decide +kernel)
set_option maxRecDepth 100000 in
theorem wd_1503 : Cond.selects "CapitalCaseModel" ⟨"CapitalCaseModel", "back", "(I)I"⟩ ⟨"CapitalCaseModel", "back", "(I)I"⟩ ∈ xTB := xw 1503 (by decide +kernel) (by decide +kernel)
set_option maxRecDepth 100000 in
theorem wd_1735 : Cond.methodLink "CapitalCaseLaw" 64 ⟨"CapitalCaseModel", "lend", "(III)Z"⟩ ∈ xTB := xw 1735 (by decide +kernel) (by decide +kernel)
set_option maxRecDepth 100000 in
theorem wd_1736 : Cond.instanceMethod ⟨"CapitalCaseModel", "lend", "(III)Z"⟩ ∈ xTB := xw 1736 (by decide +kernel) (by decide +kernel)
set_option maxRecDepth 100000 in
theorem wd_1737 : Cond.selects "CapitalCaseModel" ⟨"CapitalCaseModel", "lend", "(III)Z"⟩ ⟨"CapitalCaseModel", "lend", "(III)Z"⟩ ∈ xTB := xw 1737 (by decide +kernel) (by decide +kernel)
theorem dW_18 : decode code 18 = .ok (.iload_n 3, 1) := by decide +kernel
theorem dW_19 : decode code 19 = .ok (.aload_n 0, 1) := by decide +kernel
theorem dW_20 : decode code 20 = .ok (.arraylength, 1) := by decide +kernel
theorem dW_21 : decode code 21 = .ok (.bipush 6, 2) := by decide +kernel
theorem dW_23 : decode code 23 = .ok (.isub, 1) := by decide +kernel
theorem dW_24 : decode code 24 = .ok (.if_icmp .gt 1231, 3) := by decide +kernel
theorem dW_27 : decode code 27 = .ok (.aload_n 0, 1) := by decide +kernel
theorem dW_28 : decode code 28 = .ok (.iload_n 3, 1) := by decide +kernel
theorem dW_29 : decode code 29 = .ok (.iaload, 1) := by decide +kernel
theorem dW_30 : decode code 30 = .ok (.bipush 63, 2) := by decide +kernel
theorem dW_32 : decode code 32 = .ok (.iand, 1) := by decide +kernel
theorem dW_33 : decode code 33 = .ok (.tableswitch 1216 0 34 #[155, 218, 241, 254, 267, 310, 343, 376, 429, 452, 475, 518, 561, 584, 597, 630, 653, 686, 709, 732, 765, 788, 811, 834, 847, 880, 933, 956, 1009, 1068, 1081, 1114, 1147, 1170, 1193], 155) := by decide +kernel
theorem dW_188 : decode code 188 = .ok (.aload_n 1, 1) := by decide +kernel
theorem dW_189 : decode code 189 = .ok (.aload_n 0, 1) := by decide +kernel
theorem dW_190 : decode code 190 = .ok (.iload_n 3, 1) := by decide +kernel
theorem dW_191 : decode code 191 = .ok (.iconst 1, 1) := by decide +kernel
theorem dW_192 : decode code 192 = .ok (.iadd, 1) := by decide +kernel
theorem dW_193 : decode code 193 = .ok (.iaload, 1) := by decide +kernel
theorem dW_194 : decode code 194 = .ok (.aload_n 0, 1) := by decide +kernel
theorem dW_195 : decode code 195 = .ok (.iload_n 3, 1) := by decide +kernel
theorem dW_196 : decode code 196 = .ok (.iconst 2, 1) := by decide +kernel
theorem dW_197 : decode code 197 = .ok (.iadd, 1) := by decide +kernel
theorem dW_198 : decode code 198 = .ok (.iaload, 1) := by decide +kernel
theorem dW_199 : decode code 199 = .ok (.aload_n 0, 1) := by decide +kernel
theorem dW_200 : decode code 200 = .ok (.iload_n 3, 1) := by decide +kernel
theorem dW_201 : decode code 201 = .ok (.iconst 3, 1) := by decide +kernel
theorem dW_202 : decode code 202 = .ok (.iadd, 1) := by decide +kernel
theorem dW_203 : decode code 203 = .ok (.iaload, 1) := by decide +kernel
theorem dW_204 : decode code 204 = .ok (.aload_n 0, 1) := by decide +kernel
theorem dW_205 : decode code 205 = .ok (.iload_n 3, 1) := by decide +kernel
theorem dW_206 : decode code 206 = .ok (.iconst 4, 1) := by decide +kernel
theorem dW_207 : decode code 207 = .ok (.iadd, 1) := by decide +kernel
theorem dW_208 : decode code 208 = .ok (.iaload, 1) := by decide +kernel
theorem dW_209 : decode code 209 = .ok (.aload_n 0, 1) := by decide +kernel
theorem dW_210 : decode code 210 = .ok (.iload_n 3, 1) := by decide +kernel
theorem dW_211 : decode code 211 = .ok (.iconst 5, 1) := by decide +kernel
theorem dW_212 : decode code 212 = .ok (.iadd, 1) := by decide +kernel
theorem dW_213 : decode code 213 = .ok (.iaload, 1) := by decide +kernel
theorem dW_214 : decode code 214 = .ok (.invokevirtual 13, 3) := by decide +kernel
theorem dW_217 : decode code 217 = .ok (.pop, 1) := by decide +kernel
theorem dW_218 : decode code 218 = .ok (.aload_n 2, 1) := by decide +kernel
theorem dW_219 : decode code 219 = .ok (.aload_n 0, 1) := by decide +kernel
theorem dW_220 : decode code 220 = .ok (.iload_n 3, 1) := by decide +kernel
theorem dW_221 : decode code 221 = .ok (.iconst 1, 1) := by decide +kernel
theorem dW_222 : decode code 222 = .ok (.iadd, 1) := by decide +kernel
theorem dW_223 : decode code 223 = .ok (.iaload, 1) := by decide +kernel
theorem dW_224 : decode code 224 = .ok (.aload_n 0, 1) := by decide +kernel
theorem dW_225 : decode code 225 = .ok (.iload_n 3, 1) := by decide +kernel
theorem dW_226 : decode code 226 = .ok (.iconst 2, 1) := by decide +kernel
theorem dW_227 : decode code 227 = .ok (.iadd, 1) := by decide +kernel
theorem dW_228 : decode code 228 = .ok (.iaload, 1) := by decide +kernel
theorem dW_229 : decode code 229 = .ok (.aload_n 0, 1) := by decide +kernel
theorem dW_230 : decode code 230 = .ok (.iload_n 3, 1) := by decide +kernel
theorem dW_231 : decode code 231 = .ok (.iconst 3, 1) := by decide +kernel
theorem dW_232 : decode code 232 = .ok (.iadd, 1) := by decide +kernel
theorem dW_233 : decode code 233 = .ok (.iaload, 1) := by decide +kernel
theorem dW_234 : decode code 234 = .ok (.aload_n 0, 1) := by decide +kernel
theorem dW_235 : decode code 235 = .ok (.iload_n 3, 1) := by decide +kernel
theorem dW_236 : decode code 236 = .ok (.iconst 4, 1) := by decide +kernel
theorem dW_237 : decode code 237 = .ok (.iadd, 1) := by decide +kernel
theorem dW_238 : decode code 238 = .ok (.iaload, 1) := by decide +kernel
theorem dW_239 : decode code 239 = .ok (.aload_n 0, 1) := by decide +kernel
theorem dW_240 : decode code 240 = .ok (.iload_n 3, 1) := by decide +kernel
theorem dW_241 : decode code 241 = .ok (.iconst 5, 1) := by decide +kernel
theorem dW_242 : decode code 242 = .ok (.iadd, 1) := by decide +kernel
theorem dW_243 : decode code 243 = .ok (.iaload, 1) := by decide +kernel
theorem dW_244 : decode code 244 = .ok (.invokevirtual 17, 3) := by decide +kernel
theorem dW_247 : decode code 247 = .ok (.pop, 1) := by decide +kernel
theorem dW_248 : decode code 248 = .ok (.goto 1001, 3) := by decide +kernel
theorem dW_251 : decode code 251 = .ok (.aload_n 1, 1) := by decide +kernel
theorem dW_252 : decode code 252 = .ok (.aload_n 0, 1) := by decide +kernel
theorem dW_253 : decode code 253 = .ok (.iload_n 3, 1) := by decide +kernel
theorem dW_254 : decode code 254 = .ok (.iconst 1, 1) := by decide +kernel
theorem dW_255 : decode code 255 = .ok (.iadd, 1) := by decide +kernel
theorem dW_256 : decode code 256 = .ok (.iaload, 1) := by decide +kernel
theorem dW_257 : decode code 257 = .ok (.invokevirtual 18, 3) := by decide +kernel
theorem dW_260 : decode code 260 = .ok (.pop, 1) := by decide +kernel
theorem dW_261 : decode code 261 = .ok (.aload_n 2, 1) := by decide +kernel
theorem dW_262 : decode code 262 = .ok (.aload_n 0, 1) := by decide +kernel
theorem dW_263 : decode code 263 = .ok (.iload_n 3, 1) := by decide +kernel
theorem dW_264 : decode code 264 = .ok (.iconst 1, 1) := by decide +kernel
theorem dW_265 : decode code 265 = .ok (.iadd, 1) := by decide +kernel
theorem dW_266 : decode code 266 = .ok (.iaload, 1) := by decide +kernel
theorem dW_267 : decode code 267 = .ok (.invokevirtual 22, 3) := by decide +kernel
theorem dW_270 : decode code 270 = .ok (.pop, 1) := by decide +kernel
theorem dW_271 : decode code 271 = .ok (.goto 978, 3) := by decide +kernel
theorem dW_508 : decode code 508 = .ok (.aload_n 1, 1) := by decide +kernel
theorem dW_509 : decode code 509 = .ok (.aload_n 0, 1) := by decide +kernel
theorem dW_510 : decode code 510 = .ok (.iload_n 3, 1) := by decide +kernel
theorem dW_511 : decode code 511 = .ok (.iconst 1, 1) := by decide +kernel
theorem dW_512 : decode code 512 = .ok (.iadd, 1) := by decide +kernel
theorem dW_513 : decode code 513 = .ok (.iaload, 1) := by decide +kernel
theorem dW_514 : decode code 514 = .ok (.aload_n 0, 1) := by decide +kernel
theorem dW_515 : decode code 515 = .ok (.iload_n 3, 1) := by decide +kernel
theorem dW_516 : decode code 516 = .ok (.iconst 2, 1) := by decide +kernel
theorem dW_517 : decode code 517 = .ok (.iadd, 1) := by decide +kernel
theorem dW_518 : decode code 518 = .ok (.iaload, 1) := by decide +kernel
theorem dW_519 : decode code 519 = .ok (.aload_n 0, 1) := by decide +kernel
theorem dW_520 : decode code 520 = .ok (.iload_n 3, 1) := by decide +kernel
theorem dW_521 : decode code 521 = .ok (.iconst 3, 1) := by decide +kernel
theorem dW_522 : decode code 522 = .ok (.iadd, 1) := by decide +kernel
theorem dW_523 : decode code 523 = .ok (.iaload, 1) := by decide +kernel
theorem dW_524 : decode code 524 = .ok (.invokevirtual 60, 3) := by decide +kernel
theorem dW_527 : decode code 527 = .ok (.aload_n 2, 1) := by decide +kernel
theorem dW_528 : decode code 528 = .ok (.aload_n 0, 1) := by decide +kernel
theorem dW_529 : decode code 529 = .ok (.iload_n 3, 1) := by decide +kernel
theorem dW_530 : decode code 530 = .ok (.iconst 1, 1) := by decide +kernel
theorem dW_531 : decode code 531 = .ok (.iadd, 1) := by decide +kernel
theorem dW_532 : decode code 532 = .ok (.iaload, 1) := by decide +kernel
theorem dW_533 : decode code 533 = .ok (.aload_n 0, 1) := by decide +kernel
theorem dW_534 : decode code 534 = .ok (.iload_n 3, 1) := by decide +kernel
theorem dW_535 : decode code 535 = .ok (.iconst 2, 1) := by decide +kernel
theorem dW_536 : decode code 536 = .ok (.iadd, 1) := by decide +kernel
theorem dW_537 : decode code 537 = .ok (.iaload, 1) := by decide +kernel
theorem dW_538 : decode code 538 = .ok (.aload_n 0, 1) := by decide +kernel
theorem dW_539 : decode code 539 = .ok (.iload_n 3, 1) := by decide +kernel
theorem dW_540 : decode code 540 = .ok (.iconst 3, 1) := by decide +kernel
theorem dW_541 : decode code 541 = .ok (.iadd, 1) := by decide +kernel
theorem dW_542 : decode code 542 = .ok (.iaload, 1) := by decide +kernel
theorem dW_543 : decode code 543 = .ok (.invokevirtual 64, 3) := by decide +kernel
theorem dW_546 : decode code 546 = .ok (.if_icmp .eq 703, 3) := by decide +kernel
theorem dW_1249 : decode code 1249 = .ok (.iinc 3 6, 3) := by decide +kernel
theorem dW_1252 : decode code 1252 = .ok (.goto (-1234), 3) := by decide +kernel
theorem dW_1255 : decode code 1255 = .ok (.iconst 1, 1) := by decide +kernel
theorem dW_1256 : decode code 1256 = .ok (.ireturn, 1) := by decide +kernel
theorem tb1 : ∀ q ∈ TBL, q.1 = 1 → q.2 = ((0 : Int), (2000 : Int)) := by decide
theorem tb10 : ∀ q ∈ TBL, q.1 = 10 → q.2 = ((0 : Int), (2000 : Int)) := by decide
set_option maxRecDepth 10000 in
set_option maxHeartbeats 4000000 in
theorem lc_0 {p : Program} {l : Launch} {e : Env} {s : State} {m : MethodId} {below : List Frame} {meth : Method} {c : Code} {b sl : Nat} {xs : Nat → Int32} {D : va_G} {tys : List (ClassId × FieldType)} {Q : State → Prop} {N cells slots : Nat} {I : zI} {μ : xM} {ls : Array Slot} {H : Heap} {locs : List Loc} {i : Int32} (C : lCx p s m meth c b sl xs D tys) (h0 : 0 ≤ i.toInt) (h6 : i.toInt + 6 ≤ (sl : Int)) (hM : zMem zG0 D tys s.heap.size N 0 s I μ H locs) (hL : lv_has ls 4 (lLv s.heap.size b i)) (hB : lwB I) (hR : lwR μ) (hce : cells + 12 ≤ 600000) (hsl : slots + 792 ≤ 7302250) (kk : ∀ (N' : Nat) (I' : zI) (μ' : xM) (H' : Heap) (locs' : List Loc) (cells' slots' : Nat), lwB I' → lwR μ' → zMem zG0 D tys s.heap.size N' 0 s I' μ' H' locs' → cells' ≤ cells + 6 → slots' ≤ slots + 396 → W p l e room_1 s m #[Value.ref b] below meth c H' locs' cells' slots' Q (F0 m 1249 ls [])) : W p l e room_1 s m #[Value.ref b] below meth c H locs cells slots Q (F0 m 188 ls []) := by
  obtain ⟨hx, hb, -⟩ := id C.1
  have b1 := lwB_at hB 1 0 2000 (by decide)
  have b10 := lwB_at hB 10 0 2000 (by decide)
  obtain ⟨z1, hz1⟩ : ∃ z, z = xs (i + 1).toNatClampNeg := ⟨_, rfl⟩
  obtain ⟨z2, hz2⟩ : ∃ z, z = xs (i + 2).toNatClampNeg := ⟨_, rfl⟩
  obtain ⟨z3, hz3⟩ : ∃ z, z = xs (i + 3).toNatClampNeg := ⟨_, rfl⟩
  obtain ⟨z4, hz4⟩ : ∃ z, z = xs (i + 4).toNatClampNeg := ⟨_, rfl⟩
  obtain ⟨z5, hz5⟩ : ∃ z, z = xs (i + 5).toNatClampNeg := ⟨_, rfl⟩
  refine lv_aload_n hx hb dW_188 rfl (lv_at hL 1 rfl) ?_
  refine lw_ldx (kv := 1) hz1 C hM hL dW_189 dW_190 dW_191 (by decide) dW_192 dW_193 h0 h6 (by decide) (by decide) ?_
  refine lw_ldx (kv := 2) hz2 C hM hL dW_194 dW_195 dW_196 (by decide) dW_197 dW_198 h0 h6 (by decide) (by decide) ?_
  refine lw_ldx (kv := 3) hz3 C hM hL dW_199 dW_200 dW_201 (by decide) dW_202 dW_203 h0 h6 (by decide) (by decide) ?_
  refine lw_ldx (kv := 4) hz4 C hM hL dW_204 dW_205 dW_206 (by decide) dW_207 dW_208 h0 h6 (by decide) (by decide) ?_
  refine lw_ldx (kv := 5) hz5 C hM hL dW_209 dW_210 dW_211 (by decide) dW_212 dW_213 h0 h6 (by decide) (by decide) ?_
  refine lw_call (us := [z1, z2, z3, z4, z5]) (a := 0) (rest := []) C hM hL.1 dW_214 zl_275 rfl wd_602 wd_603 wd_604 rfl (by decide) (hpre_of rfl (show hpr_275 1000 _ I from ⟨by decide, _, _, _, _, _, rfl, by omega, by omega⟩)) rfl rfl (Nat.le_of_ble_eq_true rfl) (by show cells + 0 ≤ 600000; omega) (by show slots + 0 ≤ 7302250; omega) (fun N1 I1 r1 v1 H1 locs1 μ1 hp1 hE1 hro1 hM1 => ?_)
  replace hp1 : hpo_275 _ _ _ _ := hpost_of rfl hp1
  obtain ⟨x1, rfl, hx1⟩ := hp1 _ _ _ _ _ rfl
  obtain ⟨u1, rfl, rfl⟩ := hro1
  have st1 : lwB I1 ∧ zf I1 10 = zf I 10 ∧ ((2000 < zf I 1 + 20 ∧ x1.toInt = -1 ∧ zf I1 1 = zf I 1) ∨ (zf I 1 + 20 ≤ 2000 ∧ x1.toInt = zf I 1 + 20 ∧ zf I1 1 = zf I 1 + 20)) := by
    rcases hx1 with ⟨q1, q2, rfl⟩ | ⟨q1, w, q2, q3, rfl⟩
    · exact ⟨hB, rfl, Or.inl ⟨q1, q2, rfl⟩⟩
    · exact ⟨lwB_upd hB rfl (by decide) (fun q hq e => by rw [tb1 q hq e]; exact ⟨by omega, by omega⟩), zf_ne (by decide), Or.inr ⟨q1, q3, by rw [zf_same]; exact q2⟩⟩
  clear hx1
  obtain ⟨hB1, e1, d1⟩ := st1
  refine lv_pop hx hb dW_217 rfl ?_
  refine lv_aload_n hx hb dW_218 rfl (lv_at hL 2 rfl) ?_
  refine lw_ldx (kv := 1) hz1 C hM1 hL dW_219 dW_220 dW_221 (by decide) dW_222 dW_223 h0 h6 (by decide) (by decide) ?_
  refine lw_ldx (kv := 2) hz2 C hM1 hL dW_224 dW_225 dW_226 (by decide) dW_227 dW_228 h0 h6 (by decide) (by decide) ?_
  refine lw_ldx (kv := 3) hz3 C hM1 hL dW_229 dW_230 dW_231 (by decide) dW_232 dW_233 h0 h6 (by decide) (by decide) ?_
  refine lw_ldx (kv := 4) hz4 C hM1 hL dW_234 dW_235 dW_236 (by decide) dW_237 dW_238 h0 h6 (by decide) (by decide) ?_
  refine lw_ldx (kv := 5) hz5 C hM1 hL dW_239 dW_240 dW_241 (by decide) dW_242 dW_243 h0 h6 (by decide) (by decide) ?_
  refine lw_call (us := [z1, z2, z3, z4, z5]) (a := 75) (rest := []) C hM1 hL.1 dW_244 zl_276 rfl wd_1493 wd_1494 wd_1495 rfl (by decide) (hpre_of rfl (show hpr_276 1000 _ I1 from ⟨by decide, _, _, _, _, _, rfl, by omega, by omega⟩)) rfl rfl (Nat.le_of_ble_eq_true rfl) (by show cells + 0 + 0 ≤ 600000; omega) (by show slots + 0 + 0 ≤ 7302250; omega) (fun N2 I2 r2 v2 H2 locs2 μ2 hp2 hE2 hro2 hM2 => ?_)
  replace hp2 : hpo_276 _ _ _ _ := hpost_of rfl hp2
  obtain ⟨x2, rfl, hx2⟩ := hp2 _ _ _ _ _ rfl
  obtain ⟨u2, rfl, rfl⟩ := hro2
  have st2 : lwB I2 ∧ zf I2 1 = zf I1 1 ∧ ((2000 < zf I1 10 + 20 ∧ x2.toInt = -1 ∧ zf I2 10 = zf I1 10) ∨ (zf I1 10 + 20 ≤ 2000 ∧ x2.toInt = zf I1 10 + 20 ∧ zf I2 10 = zf I1 10 + 20)) := by
    rcases hx2 with ⟨q1, q2, rfl⟩ | ⟨q1, w, q2, q3, rfl⟩
    · exact ⟨hB1, rfl, Or.inl ⟨q1, q2, rfl⟩⟩
    · exact ⟨lwB_upd hB1 rfl (by decide) (fun q hq e => by rw [tb10 q hq e]; exact ⟨by omega, by omega⟩), zf_ne (by decide), Or.inr ⟨q1, q3, by rw [zf_same]; exact q2⟩⟩
  clear hx2
  obtain ⟨hB2, e2, d2⟩ := st2
  refine lv_pop hx hb dW_247 rfl ?_
  refine lv_goto hx hb dW_248 (tgt := 1249) (by decide) ?_
  exact kk N2 I2 μ2 H2 locs2 _ _ hB2 (lwR_feed hE1 hE2 hR) hM2 (by show cells + 0 + 0 ≤ cells + 6; omega) (by show slots + 0 + 0 ≤ slots + 396; omega)
set_option maxRecDepth 10000 in
set_option maxHeartbeats 4000000 in
theorem lc_1 {p : Program} {l : Launch} {e : Env} {s : State} {m : MethodId} {below : List Frame} {meth : Method} {c : Code} {b sl : Nat} {xs : Nat → Int32} {D : va_G} {tys : List (ClassId × FieldType)} {Q : State → Prop} {N cells slots : Nat} {I : zI} {μ : xM} {ls : Array Slot} {H : Heap} {locs : List Loc} {i : Int32} (C : lCx p s m meth c b sl xs D tys) (h0 : 0 ≤ i.toInt) (h6 : i.toInt + 6 ≤ (sl : Int)) (hM : zMem zG0 D tys s.heap.size N 0 s I μ H locs) (hL : lv_has ls 4 (lLv s.heap.size b i)) (hB : lwB I) (hR : lwR μ) (hce : cells + 12 ≤ 600000) (hsl : slots + 792 ≤ 7302250) (kk : ∀ (N' : Nat) (I' : zI) (μ' : xM) (H' : Heap) (locs' : List Loc) (cells' slots' : Nat), lwB I' → lwR μ' → zMem zG0 D tys s.heap.size N' 0 s I' μ' H' locs' → cells' ≤ cells + 6 → slots' ≤ slots + 396 → W p l e room_1 s m #[Value.ref b] below meth c H' locs' cells' slots' Q (F0 m 1249 ls [])) : W p l e room_1 s m #[Value.ref b] below meth c H locs cells slots Q (F0 m 251 ls []) := by
  obtain ⟨hx, hb, -⟩ := id C.1
  have b1 := lwB_at hB 1 0 2000 (by decide)
  have b10 := lwB_at hB 10 0 2000 (by decide)
  obtain ⟨z1, hz1⟩ : ∃ z, z = xs (i + 1).toNatClampNeg := ⟨_, rfl⟩
  refine lv_aload_n hx hb dW_251 rfl (lv_at hL 1 rfl) ?_
  refine lw_ldx (kv := 1) hz1 C hM hL dW_252 dW_253 dW_254 (by decide) dW_255 dW_256 h0 h6 (by decide) (by decide) ?_
  refine lw_call (us := [z1]) (a := 0) (rest := []) C hM hL.1 dW_257 zl_277 rfl wd_610 wd_611 wd_612 rfl (by decide) (hpre_of rfl (show hpr_277 1000 _ I from ⟨by decide, _, rfl, by omega, by omega⟩)) rfl rfl (Nat.le_of_ble_eq_true rfl) (by show cells + 0 ≤ 600000; omega) (by show slots + 0 ≤ 7302250; omega) (fun N1 I1 r1 v1 H1 locs1 μ1 hp1 hE1 hro1 hM1 => ?_)
  replace hp1 : hpo_277 _ _ _ _ := hpost_of rfl hp1
  obtain ⟨x1, rfl, hx1⟩ := hp1 _ rfl
  obtain ⟨u1, rfl, rfl⟩ := hro1
  have st1 : lwB I1 ∧ zf I1 10 = zf I 10 ∧ (((z1.toInt < 0 ∨ zf I 1 < z1.toInt) ∧ x1.toInt = -1 ∧ zf I1 1 = zf I 1) ∨ (0 ≤ z1.toInt ∧ z1.toInt ≤ zf I 1 ∧ x1.toInt = zf I 1 - z1.toInt ∧ zf I1 1 = zf I 1 - z1.toInt)) := by
    rcases hx1 with ⟨q1, q2, rfl⟩ | ⟨q0, q1, w, q2, q3, rfl⟩
    · exact ⟨hB, rfl, Or.inl ⟨q1, q2, rfl⟩⟩
    · exact ⟨lwB_upd hB rfl (by decide) (fun q hq e => by rw [tb1 q hq e]; exact ⟨by omega, by omega⟩), zf_ne (by decide), Or.inr ⟨q0, q1, q3, by rw [zf_same]; exact q2⟩⟩
  clear hx1
  obtain ⟨hB1, e1, d1⟩ := st1
  refine lv_pop hx hb dW_260 rfl ?_
  refine lv_aload_n hx hb dW_261 rfl (lv_at hL 2 rfl) ?_
  refine lw_ldx (kv := 1) hz1 C hM1 hL dW_262 dW_263 dW_264 (by decide) dW_265 dW_266 h0 h6 (by decide) (by decide) ?_
  refine lw_call (us := [z1]) (a := 75) (rest := []) C hM1 hL.1 dW_267 zl_278 rfl wd_1501 wd_1502 wd_1503 rfl (by decide) (hpre_of rfl (show hpr_278 1000 _ I1 from ⟨by decide, _, rfl, by omega, by omega⟩)) rfl rfl (Nat.le_of_ble_eq_true rfl) (by show cells + 0 + 0 ≤ 600000; omega) (by show slots + 0 + 0 ≤ 7302250; omega) (fun N2 I2 r2 v2 H2 locs2 μ2 hp2 hE2 hro2 hM2 => ?_)
  replace hp2 : hpo_278 _ _ _ _ := hpost_of rfl hp2
  obtain ⟨x2, rfl, hx2⟩ := hp2 _ rfl
  obtain ⟨u2, rfl, rfl⟩ := hro2
  have st2 : lwB I2 ∧ zf I2 1 = zf I1 1 ∧ (((z1.toInt < 0 ∨ zf I1 10 < z1.toInt) ∧ x2.toInt = -1 ∧ zf I2 10 = zf I1 10) ∨ (0 ≤ z1.toInt ∧ z1.toInt ≤ zf I1 10 ∧ x2.toInt = zf I1 10 - z1.toInt ∧ zf I2 10 = zf I1 10 - z1.toInt)) := by
    rcases hx2 with ⟨q1, q2, rfl⟩ | ⟨q0, q1, w, q2, q3, rfl⟩
    · exact ⟨hB1, rfl, Or.inl ⟨q1, q2, rfl⟩⟩
    · exact ⟨lwB_upd hB1 rfl (by decide) (fun q hq e => by rw [tb10 q hq e]; exact ⟨by omega, by omega⟩), zf_ne (by decide), Or.inr ⟨q0, q1, q3, by rw [zf_same]; exact q2⟩⟩
  clear hx2
  obtain ⟨hB2, e2, d2⟩ := st2
  refine lv_pop hx hb dW_270 rfl ?_
  refine lv_goto hx hb dW_271 (tgt := 1249) (by decide) ?_
  exact kk N2 I2 μ2 H2 locs2 _ _ hB2 (lwR_back hE1 hE2 hR) hM2 (by show cells + 0 + 0 ≤ cells + 6; omega) (by show slots + 0 + 0 ≤ slots + 396; omega)
section LX
variable {p : Program} {l : Launch} {e : Env} {s : State} {m : MethodId} {below : List Frame} {meth : Method} {c : Code} {b sl : Nat} {xs : Nat → Int32} {D : va_G} {tys : List (ClassId × FieldType)} {Q : State → Prop}
theorem lw_tabx {N pc cells slots j np ci index a : Nat} {I : zI} {μ : xM} {ls : Array Slot} {H : Heap} {locs : List Loc} {y : MethodName} {bytes : ByteArray} {maxL M : Nat} {ret : Option FieldType} {T : u_T} {us : List Int32} {st rest : List Value} {fts : List zT} {ct : aC} (C : lCx p s m meth c b sl xs D tys) (hM : zMem zG0 D tys s.heap.size N 0 s I μ H locs) (hls : ls.size = 4) (hB : lwB I) (hd : decode code pc = .ok (.invokevirtual index, 3)) (hq : xCal PZ j y bytes maxL ret np) (hcl : vwCl[ci]? = some (y.cls, T, M)) (hw1 : Cond.methodLink "CapitalCaseLaw" index y ∈ xTB) (hw2 : Cond.instanceMethod y ∈ xTB) (hw3 : Cond.selects y.cls y y ∈ xTB) (hkd : zG0.2.1 (zG0.1 a) = .inl (ci, fts)) (haN : a < 119) (hz : ZC j = some ct) (hch : lchk ct = true) (hin : lint ct = true) (hdep : ct.2.2.2.2 ≤ 1000) (hars : aArsOk zG0 ct.1 (.inr (.inl (some a)) :: us.map Sum.inl)) (hst : st = (us.map Value.int).reverse ++ .ref (s.heap.size + a) :: rest) (hcat : (rest.map fun v => v.category).sum ≤ 8) (hlen : us.length = np) (hbd : zbd j = (0, 0) ∨ zbd j = (6, 396)) (hc1 : cells + 6 ≤ 600000) (hc2 : slots + 396 ≤ 7302250)
    (k : ∀ (N' : Nat) (I' : zI) (μ' : xM) (x : Int32) (H' : Heap) (locs' : List Loc) (cells' slots' : Nat), Ex gx (y, bytes, maxL, ret) (.inr (.inl (some a)) :: us.map Sum.inl) μ (some (.inl x)) μ' → lwB I' → zMem zG0 D tys s.heap.size N' 0 s I' μ' H' locs' → cells' = cells + (zbd j).1 → slots' = slots + (zbd j).2 → W p l e room_1 s m #[Value.ref b] below meth c H' locs' cells' slots' Q (F0 m (pc + 3) ls (.int x :: rest))) : W p l e room_1 s m #[Value.ref b] below meth c H locs cells slots Q (F0 m pc ls st) := by
  have hbb : (zbd j).1 ≤ 6 ∧ (zbd j).2 ≤ 396 := by rcases hbd with h | h <;> rw [h] <;> decide
  refine lw_call (rest := rest) C hM hls hd hq hcl hw1 hw2 hw3 hkd haN (zpre_of hz ⟨hdep, hars, lwB_flds hch hB, fun _ => hB.1⟩) hst hlen hcat (by omega) (by omega) (fun N' I' r v H' locs' μ' hp hE hro hM' => ?_)
  have hp := zpost_of hz hp
  obtain ⟨x, rfl⟩ := lint_r hin hp
  obtain ⟨u, rfl, rfl⟩ := hro
  exact k N' I' μ' x H' locs' _ _ hE (lwB_post hch hB hp) hM' rfl rfl
end LX
set_option maxRecDepth 10000 in
set_option maxHeartbeats 4000000 in
theorem lc_10 {p : Program} {l : Launch} {e : Env} {s : State} {m : MethodId} {below : List Frame} {meth : Method} {c : Code} {b sl : Nat} {xs : Nat → Int32} {D : va_G} {tys : List (ClassId × FieldType)} {Q : State → Prop} {N cells slots : Nat} {I : zI} {μ : xM} {ls : Array Slot} {H : Heap} {locs : List Loc} {i : Int32} (C : lCx p s m meth c b sl xs D tys) (h0 : 0 ≤ i.toInt) (h6 : i.toInt + 6 ≤ (sl : Int)) (hM : zMem zG0 D tys s.heap.size N 0 s I μ H locs) (hL : lv_has ls 4 (lLv s.heap.size b i)) (hB : lwB I) (hR : lwR μ) (hce : cells + 12 ≤ 600000) (hsl : slots + 792 ≤ 7302250) (kk : ∀ (N' : Nat) (I' : zI) (μ' : xM) (H' : Heap) (locs' : List Loc) (cells' slots' : Nat), lwB I' → lwR μ' → zMem zG0 D tys s.heap.size N' 0 s I' μ' H' locs' → cells' ≤ cells + 6 → slots' ≤ slots + 396 → W p l e room_1 s m #[Value.ref b] below meth c H' locs' cells' slots' Q (F0 m 1249 ls [])) : W p l e room_1 s m #[Value.ref b] below meth c H locs cells slots Q (F0 m 508 ls []) := by
  obtain ⟨hx, hb, -⟩ := id C.1
  obtain ⟨z1, hz1⟩ : ∃ z, z = xs (i + 1).toNatClampNeg := ⟨_, rfl⟩
  obtain ⟨z2, hz2⟩ : ∃ z, z = xs (i + 2).toNatClampNeg := ⟨_, rfl⟩
  obtain ⟨z3, hz3⟩ : ∃ z, z = xs (i + 3).toNatClampNeg := ⟨_, rfl⟩
  refine lv_aload_n hx hb dW_508 rfl (lv_at hL 1 rfl) ?_
  refine lw_ldx (kv := 1) hz1 C hM hL dW_509 dW_510 dW_511 (by decide) dW_512 dW_513 h0 h6 (by decide) (by decide) ?_
  refine lw_ldx (kv := 2) hz2 C hM hL dW_514 dW_515 dW_516 (by decide) dW_517 dW_518 h0 h6 (by decide) (by decide) ?_
  refine lw_ldx (kv := 3) hz3 C hM hL dW_519 dW_520 dW_521 (by decide) dW_522 dW_523 h0 h6 (by decide) (by decide) ?_
  refine lw_tabx (us := [z1, z2, z3]) (a := 0) (rest := []) C hM hL.1 hB dW_524 zl_98 rfl wd_989 wd_990 wd_991 rfl (by decide) zh_98 (by decide +kernel) (by decide +kernel) (by decide) ⟨_, _, rfl, rfl, ⟨_, _, rfl, ⟨_, rfl, an_lo _, an_hi _⟩, ⟨_, _, rfl, ⟨_, rfl, an_lo _, an_hi _⟩, ⟨_, _, rfl, ⟨_, rfl, an_lo _, an_hi _⟩, rfl⟩⟩⟩⟩ rfl (Nat.le_of_ble_eq_true rfl) rfl (Or.inr rfl) (by omega) (by omega) (fun N1 I1 μ1 x1 H1 locs1 ce1 sl1 hE1 hB1 hM1 hc1 hs1 => ?_)
  rw [show zbd 98 = (6, 396) from rfl] at hc1 hs1
  replace hc1 : ce1 = cells + 6 := hc1
  replace hs1 : sl1 = slots + 396 := hs1
  refine lv_aload_n hx hb dW_527 rfl (lv_at hL 2 rfl) ?_
  refine lw_ldx (kv := 1) hz1 C hM1 hL dW_528 dW_529 dW_530 (by decide) dW_531 dW_532 h0 h6 (by decide) (by decide) ?_
  refine lw_ldx (kv := 2) hz2 C hM1 hL dW_533 dW_534 dW_535 (by decide) dW_536 dW_537 h0 h6 (by decide) (by decide) ?_
  refine lw_ldx (kv := 3) hz3 C hM1 hL dW_538 dW_539 dW_540 (by decide) dW_541 dW_542 h0 h6 (by decide) (by decide) ?_
  refine lw_tabx (us := [z1, z2, z3]) (a := 75) (rest := [.int x1]) C hM1 hL.1 hB1 dW_543 zl_186 rfl wd_1735 wd_1736 wd_1737 rfl (by decide) zh_186 (by decide +kernel) (by decide +kernel) (by decide) ⟨_, _, rfl, rfl, ⟨_, _, rfl, ⟨_, rfl, an_lo _, an_hi _⟩, ⟨_, _, rfl, ⟨_, rfl, an_lo _, an_hi _⟩, ⟨_, _, rfl, ⟨_, rfl, an_lo _, an_hi _⟩, rfl⟩⟩⟩⟩ rfl (Nat.le_of_ble_eq_true rfl) rfl (Or.inl rfl) (by omega) (by omega) (fun N2 I2 μ2 x2 H2 locs2 ce2 sl2 hE2 hB2 hM2 hc2 hs2 => ?_)
  rw [show zbd 186 = (0, 0) from rfl] at hc2 hs2
  replace hc2 : ce2 = ce1 + 0 := hc2
  replace hs2 : sl2 = sl1 + 0 := hs2
  obtain ⟨⟨x3, e1, e2⟩, hR2⟩ := lwR_lend hE1 hE2 hR
  have e3 : x1 = x2 := by cases e1; cases e2; rfl
  refine lv_icmp_eq hx hb dW_546 (tgt := 1249) (by decide) (fun _ => ?_) (fun hne => ?_)
  · exact kk N2 I2 μ2 H2 locs2 ce2 sl2 hB2 hR2 hM2 (by omega) (by omega)
  · exact absurd e3 (by first | exact hne | exact fun q => hne q.symm)
set_option maxRecDepth 10000 in
set_option maxHeartbeats 4000000 in
theorem lw_loop {p : Program} {l : Launch} {e : Env} {s : State} {m : MethodId} {below : List Frame} {meth : Method} {c : Code} {b sl : Nat} {xs : Nat → Int32} {D : va_G} {tys : List (ClassId × FieldType)} (C : lCx p s m meth c b sl xs D tys) (hret : meth.sig.returnType = ret) (hlocks : meth.locks = false) : ∀ (n N cells slots : Nat) (I : zI) (μ : xM) (ls : Array Slot) (H : Heap) (locs : List Loc) (i : Int32), (3080 - i.toInt).toNat = n → 0 ≤ i.toInt → i.toInt ≤ 3078 → zMem zG0 D tys s.heap.size N 0 s I μ H locs → lv_has ls 4 (lLv s.heap.size b i) → lwB I → lwR μ → (cells : Int) ≤ 119 + i.toInt → (slots : Int) ≤ 31658 + 66 * i.toInt → W p l e room_1 s m #[Value.ref b] below meth c H locs cells slots (lw_Z below #[Value.ref b] s) (F0 m 18 ls []) := by
  intro n
  induction n using Nat.strongRecOn with
  | ind n ih =>
    intro N cells slots I μ ls H locs i hn h0 hi hM hL hB hR hce hsl
    obtain ⟨hx, hb, -⟩ := id C.1
    obtain ⟨-, hX, hbl, hsl2⟩ := id C
    have el : (Int32.ofNat sl).toInt = (sl : Int) := Int32.toInt_ofNat_of_lt (by omega)
    have e6 : (6 : Int32).toInt = 6 := by decide
    have es : (Int32.ofNat sl - 6).toInt = (sl : Int) - 6 := by
      rw [Int32.toInt_sub, el, e6]
      exact an_bm (by omega) (by omega)
    refine lv_iload_n hx hb dW_18 rfl (lv_at hL 3 rfl) ?_
    refine lv_aload_n hx hb dW_19 rfl (lv_at hL 0 rfl) ?_
    refine va_slen hx hb hX hbl (by omega) hM.2.2.1 dW_20 ?_
    refine lv_bipush hx hb dW_21 (v := 6) (by decide) ?_
    refine lv_isub hx hb dW_23 ?_
    refine lv_icmp_gt hx hb dW_24 (tgt := 1255) (by decide) (fun _ => ?_) (fun hng => ?_)
    · refine lv_iconst hx hb dW_1255 (v := 1) (by decide) ?_
      refine va_forget (fun q hq => hM.2.2.1.2.2 q hq) ?_
      refine W.widen (k := 600000) (n := 7302250) (by omega) (by omega) ?_
      exact lw_ret hx hb hret hlocks dW_1256
    · have h6 : i.toInt + 6 ≤ (sl : Int) := by
        have h7 : ¬ (Int32.ofNat sl - 6).toInt < i.toInt := fun h => hng (Int32.lt_iff_toInt_lt.mpr h)
        omega
      have kk : ∀ (N' : Nat) (I' : zI) (μ' : xM) (H' : Heap) (locs' : List Loc) (cells' slots' : Nat), lwB I' → lwR μ' → zMem zG0 D tys s.heap.size N' 0 s I' μ' H' locs' → cells' ≤ cells + 6 → slots' ≤ slots + 396 → W p l e room_1 s m #[Value.ref b] below meth c H' locs' cells' slots' (lw_Z below #[Value.ref b] s) (F0 m 1249 ls []) := by
        intro N' I' μ' H' locs' cells' slots' hB' hR' hM' hc' hs'
        have ei : (i + 6).toInt = i.toInt + 6 := by
          rw [Int32.toInt_add, e6]
          exact an_bm (by omega) (by omega)
        refine lv_iinc hx hb dW_1249 hL (k := 3) rfl (v := i + 6) (by rw [show Int32.ofInt 6 = 6 by decide]) (by decide) rfl (fun ls' h' => ?_)
        refine lv_goto hx hb dW_1252 (tgt := 18) (by decide) ?_
        replace h' : lv_has ls' 4 [(3, .int (i + 6)), (0, .ref b), (1, .ref (s.heap.size + 0)), (2, .ref (s.heap.size + 75))] := h'
        have hL' : lv_has ls' 4 (lLv s.heap.size b (i + 6)) := ⟨h'.1, h'.2.1, fun q hq => h'.2.2 q (by
          simp only [lLv, List.mem_cons, List.not_mem_nil, or_false] at hq
          rcases hq with rfl | rfl | rfl | rfl
          · exact List.mem_cons_of_mem _ List.mem_cons_self
          · exact List.mem_cons_of_mem _ (List.mem_cons_of_mem _ List.mem_cons_self)
          · exact List.mem_cons_of_mem _ (List.mem_cons_of_mem _ (List.mem_cons_of_mem _ List.mem_cons_self))
          · exact List.mem_cons_self)⟩
        exact ih _ (by omega) N' cells' slots' I' μ' ls' H' locs' (i + 6) rfl (by omega) (by omega) hM' hL' hB' hR' (by omega) (by omega)
      have hc6 : cells + 12 ≤ 600000 := by omega
      have hs6 : slots + 792 ≤ 7302250 := by omega
      refine lv_aload_n hx hb dW_27 rfl (lv_at hL 0 rfl) ?_
      refine lv_iload_n hx hb dW_28 rfl (lv_at hL 3 rfl) ?_
      refine va_sld hx hb hX hbl (by omega) hM.2.2.1 (ix (n := sl) (by omega) (by omega)).1 dW_29 ?_
      refine lv_bipush hx hb dW_30 (v := 63) (by decide) ?_
      refine lv_iand hx hb dW_32 ?_
      generalize xs i.toNatClampNeg &&& 63 = x
      by_cases hout : x.toInt < 0 ∨ 34 < x.toInt
      · exact lv_tableOut hx hb dW_33 hout (tgt := 1249) (by decide) (kk N I μ H locs cells slots hB hR hM (by omega) (by omega))
      · have hcs : x.toInt = 0 ∨ x.toInt = 1 ∨ x.toInt = 2 ∨ x.toInt = 3 ∨ x.toInt = 4 ∨ x.toInt = 5 ∨ x.toInt = 6 ∨ x.toInt = 7 ∨ x.toInt = 8 ∨ x.toInt = 9 ∨ x.toInt = 10 ∨ x.toInt = 11 ∨ x.toInt = 12 ∨ x.toInt = 13 ∨ x.toInt = 14 ∨ x.toInt = 15 ∨ x.toInt = 16 ∨ x.toInt = 17 ∨ x.toInt = 18 ∨ x.toInt = 19 ∨ x.toInt = 20 ∨ x.toInt = 21 ∨ x.toInt = 22 ∨ x.toInt = 23 ∨ x.toInt = 24 ∨ x.toInt = 25 ∨ x.toInt = 26 ∨ x.toInt = 27 ∨ x.toInt = 28 ∨ x.toInt = 29 ∨ x.toInt = 30 ∨ x.toInt = 31 ∨ x.toInt = 32 ∨ x.toInt = 33 ∨ x.toInt = 34 := by omega
        rcases hcs with hv | hv | hv | hv | hv | hv | hv | hv | hv | hv | hv | hv | hv | hv | hv | hv | hv | hv | hv | hv | hv | hv | hv | hv | hv | hv | hv | hv | hv | hv | hv | hv | hv | hv | hv
        · exact lv_tableIn hx hb dW_33 (by omega) (by omega) (off := 155) (by rw [hv]; rfl) (tgt := 188) (by decide) (lc_0 C h0 h6 hM hL hB hR hc6 hs6 kk)
        · exact lv_tableIn hx hb dW_33 (by omega) (by omega) (off := 218) (by rw [hv]; rfl) (tgt := 251) (by decide) (lc_1 C h0 h6 hM hL hB hR hc6 hs6 kk)
        · exact lv_tableIn hx hb dW_33 (by omega) (by omega) (off := 241) (by rw [hv]; rfl) (tgt := 274) (by decide) (lc_2 C h0 h6 hM hL hB hR hc6 hs6 kk)
        · exact lv_tableIn hx hb dW_33 (by omega) (by omega) (off := 254) (by rw [hv]; rfl) (tgt := 287) (by decide) (lc_3 C h0 h6 hM hL hB hR hc6 hs6 kk)
        · exact lv_tableIn hx hb dW_33 (by omega) (by omega) (off := 267) (by rw [hv]; rfl) (tgt := 300) (by decide) (lc_4 C h0 h6 hM hL hB hR hc6 hs6 kk)
        · exact lv_tableIn hx hb dW_33 (by omega) (by omega) (off := 310) (by rw [hv]; rfl) (tgt := 343) (by decide) (lc_5 C h0 h6 hM hL hB hR hc6 hs6 kk)
        · exact lv_tableIn hx hb dW_33 (by omega) (by omega) (off := 343) (by rw [hv]; rfl) (tgt := 376) (by decide) (lc_6 C h0 h6 hM hL hB hR hc6 hs6 kk)
        · exact lv_tableIn hx hb dW_33 (by omega) (by omega) (off := 376) (by rw [hv]; rfl) (tgt := 409) (by decide) (lc_7 C h0 h6 hM hL hB hR hc6 hs6 kk)
        · exact lv_tableIn hx hb dW_33 (by omega) (by omega) (off := 429) (by rw [hv]; rfl) (tgt := 462) (by decide) (lc_8 C h0 h6 hM hL hB hR hc6 hs6 kk)
        · exact lv_tableIn hx hb dW_33 (by omega) (by omega) (off := 452) (by rw [hv]; rfl) (tgt := 485) (by decide) (lc_9 C h0 h6 hM hL hB hR hc6 hs6 kk)
        · exact lv_tableIn hx hb dW_33 (by omega) (by omega) (off := 475) (by rw [hv]; rfl) (tgt := 508) (by decide) (lc_10 C h0 h6 hM hL hB hR hc6 hs6 kk)
        · exact lv_tableIn hx hb dW_33 (by omega) (by omega) (off := 518) (by rw [hv]; rfl) (tgt := 551) (by decide) (lc_11 C h0 h6 hM hL hB hR hc6 hs6 kk)
        · exact lv_tableIn hx hb dW_33 (by omega) (by omega) (off := 561) (by rw [hv]; rfl) (tgt := 594) (by decide) (lc_12 C h0 h6 hM hL hB hR hc6 hs6 kk)
        · exact lv_tableIn hx hb dW_33 (by omega) (by omega) (off := 584) (by rw [hv]; rfl) (tgt := 617) (by decide) (lc_13 C h0 h6 hM hL hB hR hc6 hs6 kk)
        · exact lv_tableIn hx hb dW_33 (by omega) (by omega) (off := 597) (by rw [hv]; rfl) (tgt := 630) (by decide) (lc_14 C h0 h6 hM hL hB hR hc6 hs6 kk)
        · exact lv_tableIn hx hb dW_33 (by omega) (by omega) (off := 630) (by rw [hv]; rfl) (tgt := 663) (by decide) (lc_15 C h0 h6 hM hL hB hR hc6 hs6 kk)
        · exact lv_tableIn hx hb dW_33 (by omega) (by omega) (off := 653) (by rw [hv]; rfl) (tgt := 686) (by decide) (lc_16 C h0 h6 hM hL hB hR hc6 hs6 kk)
        · exact lv_tableIn hx hb dW_33 (by omega) (by omega) (off := 686) (by rw [hv]; rfl) (tgt := 719) (by decide) (lc_17 C h0 h6 hM hL hB hR hc6 hs6 kk)
        · exact lv_tableIn hx hb dW_33 (by omega) (by omega) (off := 709) (by rw [hv]; rfl) (tgt := 742) (by decide) (lc_18 C h0 h6 hM hL hB hR hc6 hs6 kk)
        · exact lv_tableIn hx hb dW_33 (by omega) (by omega) (off := 732) (by rw [hv]; rfl) (tgt := 765) (by decide) (lc_19 C h0 h6 hM hL hB hR hc6 hs6 kk)
        · exact lv_tableIn hx hb dW_33 (by omega) (by omega) (off := 765) (by rw [hv]; rfl) (tgt := 798) (by decide) (lc_20 C h0 h6 hM hL hB hR hc6 hs6 kk)
        · exact lv_tableIn hx hb dW_33 (by omega) (by omega) (off := 788) (by rw [hv]; rfl) (tgt := 821) (by decide) (lc_21 C h0 h6 hM hL hB hR hc6 hs6 kk)
        · exact lv_tableIn hx hb dW_33 (by omega) (by omega) (off := 811) (by rw [hv]; rfl) (tgt := 844) (by decide) (lc_22 C h0 h6 hM hL hB hR hc6 hs6 kk)
        · exact lv_tableIn hx hb dW_33 (by omega) (by omega) (off := 834) (by rw [hv]; rfl) (tgt := 867) (by decide) (lc_23 C h0 h6 hM hL hB hR hc6 hs6 kk)
        · exact lv_tableIn hx hb dW_33 (by omega) (by omega) (off := 847) (by rw [hv]; rfl) (tgt := 880) (by decide) (lc_24 C h0 h6 hM hL hB hR hc6 hs6 kk)
        · exact lv_tableIn hx hb dW_33 (by omega) (by omega) (off := 880) (by rw [hv]; rfl) (tgt := 913) (by decide) (lc_25 C h0 h6 hM hL hB hR hc6 hs6 kk)
        · exact lv_tableIn hx hb dW_33 (by omega) (by omega) (off := 933) (by rw [hv]; rfl) (tgt := 966) (by decide) (lc_26 C h0 h6 hM hL hB hR hc6 hs6 kk)
        · exact lv_tableIn hx hb dW_33 (by omega) (by omega) (off := 956) (by rw [hv]; rfl) (tgt := 989) (by decide) (lc_27 C h0 h6 hM hL hB hR hc6 hs6 kk)
        · exact lv_tableIn hx hb dW_33 (by omega) (by omega) (off := 1009) (by rw [hv]; rfl) (tgt := 1042) (by decide) (lc_28 C h0 h6 hM hL hB hR hc6 hs6 kk)
        · exact lv_tableIn hx hb dW_33 (by omega) (by omega) (off := 1068) (by rw [hv]; rfl) (tgt := 1101) (by decide) (lc_29 C h0 h6 hM hL hB hR hc6 hs6 kk)
        · exact lv_tableIn hx hb dW_33 (by omega) (by omega) (off := 1081) (by rw [hv]; rfl) (tgt := 1114) (by decide) (lc_30 C h0 h6 hM hL hB hR hc6 hs6 kk)
        · exact lv_tableIn hx hb dW_33 (by omega) (by omega) (off := 1114) (by rw [hv]; rfl) (tgt := 1147) (by decide) (lc_31 C h0 h6 hM hL hB hR hc6 hs6 kk)
        · exact lv_tableIn hx hb dW_33 (by omega) (by omega) (off := 1147) (by rw [hv]; rfl) (tgt := 1180) (by decide) (lc_32 C h0 h6 hM hL hB hR hc6 hs6 kk)
        · exact lv_tableIn hx hb dW_33 (by omega) (by omega) (off := 1170) (by rw [hv]; rfl) (tgt := 1203) (by decide) (lc_33 C h0 h6 hM hL hB hR hc6 hs6 kk)
        · exact lv_tableIn hx hb dW_33 (by omega) (by omega) (off := 1193) (by rw [hv]; rfl) (tgt := 1226) (by decide) (lc_34 C h0 h6 hM hL hB hR hc6 hs6 kk)
