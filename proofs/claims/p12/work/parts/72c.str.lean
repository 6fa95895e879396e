set_option maxRecDepth 100000 in
theorem wd_125 : Cond.initialized "java/lang/String" ∈ xTB := xw 125 (by decide +kernel) (by decide +kernel)
set_option maxRecDepth 100000 in
theorem wd_126 : Cond.initialized "java/lang/StringLatin1" ∈ xTB := xw 126 (by decide +kernel) (by decide +kernel)
set_option maxRecDepth 100000 in
theorem wd_127 : Cond.initialized "jdk/internal/util/Preconditions" ∈ xTB := xw 127 (by decide +kernel) (by decide +kernel)
set_option maxRecDepth 100000 in
theorem wd_649 : Cond.methodLink "CapitalCase$Tokens" 53 ⟨"java/lang/String", "charAt", "(I)C"⟩ ∈ xTB := xw 649 (by decide +kernel) (by decide +kernel)
set_option maxRecDepth 100000 in
theorem wd_650 : Cond.instanceMethod ⟨"java/lang/String", "charAt", "(I)C"⟩ ∈ xTB := xw 650 (by decide +kernel) (by decide +kernel)
set_option maxRecDepth 100000 in
theorem wd_651 : Cond.selects "java/lang/String" ⟨"java/lang/String", "charAt", "(I)C"⟩ ⟨"java/lang/String", "charAt", "(I)C"⟩ ∈ xTB := xw 651 (by decide +kernel) (by decide +kernel)
set_option maxRecDepth 100000 in
theorem wd_652 : Cond.code ⟨"java/lang/String", "charAt", "(I)C"⟩ prog_18_method_56_code 2 (some .char) ∈ xTB := xw 652 (rfl) (by decide +kernel)
set_option maxRecDepth 100000 in
theorem wd_653 : Cond.methodLink "java/lang/String" 492 ⟨"java/lang/String", "isLatin1", "()Z"⟩ ∈ xTB := xw 653 (by decide +kernel) (by decide +kernel)
set_option maxRecDepth 100000 in
theorem wd_654 : Cond.instanceMethod ⟨"java/lang/String", "isLatin1", "()Z"⟩ ∈ xTB := xw 654 (by decide +kernel) (by decide +kernel)
set_option maxRecDepth 100000 in
theorem wd_655 : Cond.selects "java/lang/String" ⟨"java/lang/String", "isLatin1", "()Z"⟩ ⟨"java/lang/String", "isLatin1", "()Z"⟩ ∈ xTB := xw 655 (by decide +kernel) (by decide +kernel)
set_option maxRecDepth 100000 in
theorem wd_656 : Cond.code ⟨"java/lang/String", "isLatin1", "()Z"⟩ prog_18_method_154_code 1 (some .boolean) ∈ xTB := xw 656 (rfl) (by decide +kernel)
set_option maxRecDepth 100000 in
theorem wd_657 : Cond.fieldLink "java/lang/String" 38 "java/lang/String" "COMPACT_STRINGS" "Z" ∈ xTB := xw 657 (by decide +kernel) (by decide +kernel)
set_option maxRecDepth 100000 in
theorem wd_659 : Cond.methodLink "java/lang/String" 495 ⟨"java/lang/StringLatin1", "charAt", "([BI)C"⟩ ∈ xTB := xw 659 (by decide +kernel) (by decide +kernel)
set_option maxRecDepth 100000 in
theorem wd_660 : Cond.static ⟨"java/lang/StringLatin1", "charAt", "([BI)C"⟩ ∈ xTB := xw 660 (by decide +kernel) (by decide +kernel)
set_option maxRecDepth 100000 in
theorem wd_661 : Cond.code ⟨"java/lang/StringLatin1", "charAt", "([BI)C"⟩ prog_19_method_2_code 2 (some .char) ∈ xTB := xw 661 (rfl) (by decide +kernel)
set_option maxRecDepth 100000 in
theorem wd_662 : Cond.methodLink "java/lang/StringLatin1" 9 ⟨"java/lang/String", "checkIndex", "(II)V"⟩ ∈ xTB := xw 662 (by decide +kernel) (by decide +kernel)
set_option maxRecDepth 100000 in
theorem wd_663 : Cond.static ⟨"java/lang/String", "checkIndex", "(II)V"⟩ ∈ xTB := xw 663 (by decide +kernel) (by decide +kernel)
set_option maxRecDepth 100000 in
theorem wd_664 : Cond.code ⟨"java/lang/String", "checkIndex", "(II)V"⟩ prog_18_method_155_code 2 none ∈ xTB := xw 664 (rfl) (by decide +kernel)
set_option maxRecDepth 100000 in
theorem wd_665 : Cond.fieldLink "java/lang/String" 1053 "jdk/internal/util/Preconditions" "SIOOBE_FORMATTER" "Ljava/util/function/BiFunction;" ∈ xTB := xw 665 (by decide +kernel) (by decide +kernel)
set_option maxRecDepth 100000 in
theorem wd_667 : Cond.methodLink "java/lang/String" 1059 ⟨"jdk/internal/util/Preconditions", "checkIndex", "(IILjava/util/function/BiFunction;)I"⟩ ∈ xTB := xw 667 (by decide +kernel) (by decide +kernel)
set_option maxRecDepth 100000 in
theorem wd_668 : Cond.static ⟨"jdk/internal/util/Preconditions", "checkIndex", "(IILjava/util/function/BiFunction;)I"⟩ ∈ xTB := xw 668 (by decide +kernel) (by decide +kernel)
set_option maxRecDepth 100000 in
theorem wd_669 : Cond.code ⟨"jdk/internal/util/Preconditions", "checkIndex", "(IILjava/util/function/BiFunction;)I"⟩ prog_23_method_11_code 3 (some .int) ∈ xTB := xw 669 (rfl) (by decide +kernel)
set_option maxRecDepth 100000 in
theorem wd_690 : Cond.methodLink "CapitalCase$Tokens" 41 ⟨"java/lang/String", "indexOf", "(I)I"⟩ ∈ xTB := xw 690 (by decide +kernel) (by decide +kernel)
set_option maxRecDepth 100000 in
theorem wd_691 : Cond.instanceMethod ⟨"java/lang/String", "indexOf", "(I)I"⟩ ∈ xTB := xw 691 (by decide +kernel) (by decide +kernel)
set_option maxRecDepth 100000 in
theorem wd_692 : Cond.selects "java/lang/String" ⟨"java/lang/String", "indexOf", "(I)I"⟩ ⟨"java/lang/String", "indexOf", "(I)I"⟩ ∈ xTB := xw 692 (by decide +kernel) (by decide +kernel)
set_option maxRecDepth 100000 in
theorem wd_693 : Cond.code ⟨"java/lang/String", "indexOf", "(I)I"⟩ prog_18_method_79_code 2 (some .int) ∈ xTB := xw 693 (rfl) (by decide +kernel)
set_option maxRecDepth 100000 in
theorem wd_694 : Cond.methodLink "java/lang/String" 633 ⟨"java/lang/String", "indexOf", "(II)I"⟩ ∈ xTB := xw 694 (by decide +kernel) (by decide +kernel)
set_option maxRecDepth 100000 in
theorem wd_695 : Cond.instanceMethod ⟨"java/lang/String", "indexOf", "(II)I"⟩ ∈ xTB := xw 695 (by decide +kernel) (by decide +kernel)
set_option maxRecDepth 100000 in
theorem wd_696 : Cond.selects "java/lang/String" ⟨"java/lang/String", "indexOf", "(II)I"⟩ ⟨"java/lang/String", "indexOf", "(II)I"⟩ ∈ xTB := xw 696 (by decide +kernel) (by decide +kernel)
set_option maxRecDepth 100000 in
theorem wd_697 : Cond.code ⟨"java/lang/String", "indexOf", "(II)I"⟩ prog_18_method_80_code 3 (some .int) ∈ xTB := xw 697 (rfl) (by decide +kernel)
set_option maxRecDepth 100000 in
theorem wd_698 : Cond.methodLink "java/lang/String" 505 ⟨"java/lang/String", "length", "()I"⟩ ∈ xTB := xw 698 (by decide +kernel) (by decide +kernel)
set_option maxRecDepth 100000 in
theorem wd_699 : Cond.instanceMethod ⟨"java/lang/String", "length", "()I"⟩ ∈ xTB := xw 699 (by decide +kernel) (by decide +kernel)
set_option maxRecDepth 100000 in
theorem wd_700 : Cond.selects "java/lang/String" ⟨"java/lang/String", "length", "()I"⟩ ⟨"java/lang/String", "length", "()I"⟩ ∈ xTB := xw 700 (by decide +kernel) (by decide +kernel)
set_option maxRecDepth 100000 in
theorem wd_701 : Cond.code ⟨"java/lang/String", "length", "()I"⟩ prog_18_method_54_code 1 (some .int) ∈ xTB := xw 701 (rfl) (by decide +kernel)
set_option maxRecDepth 100000 in
theorem wd_702 : Cond.methodLink "java/lang/String" 335 ⟨"java/lang/String", "coder", "()B"⟩ ∈ xTB := xw 702 (by decide +kernel) (by decide +kernel)
set_option maxRecDepth 100000 in
theorem wd_703 : Cond.instanceMethod ⟨"java/lang/String", "coder", "()B"⟩ ∈ xTB := xw 703 (by decide +kernel) (by decide +kernel)
set_option maxRecDepth 100000 in
theorem wd_704 : Cond.selects "java/lang/String" ⟨"java/lang/String", "coder", "()B"⟩ ⟨"java/lang/String", "coder", "()B"⟩ ∈ xTB := xw 704 (by decide +kernel) (by decide +kernel)
set_option maxRecDepth 100000 in
theorem wd_705 : Cond.code ⟨"java/lang/String", "coder", "()B"⟩ prog_18_method_152_code 1 (some .byte) ∈ xTB := xw 705 (rfl) (by decide +kernel)
set_option maxRecDepth 100000 in
theorem wd_706 : Cond.methodLink "java/lang/String" 637 ⟨"java/lang/StringLatin1", "indexOf", "([BIII)I"⟩ ∈ xTB := xw 706 (by decide +kernel) (by decide +kernel)
set_option maxRecDepth 100000 in
theorem wd_707 : Cond.static ⟨"java/lang/StringLatin1", "indexOf", "([BIII)I"⟩ ∈ xTB := xw 707 (by decide +kernel) (by decide +kernel)
set_option maxRecDepth 100000 in
theorem wd_708 : Cond.code ⟨"java/lang/StringLatin1", "indexOf", "([BIII)I"⟩ prog_19_method_22_code 4 (some .int) ∈ xTB := xw 708 (rfl) (by decide +kernel)
set_option maxRecDepth 100000 in
theorem wd_709 : Cond.methodLink "java/lang/StringLatin1" 88 ⟨"java/lang/StringLatin1", "canEncode", "(I)Z"⟩ ∈ xTB := xw 709 (by decide +kernel) (by decide +kernel)
set_option maxRecDepth 100000 in
theorem wd_710 : Cond.static ⟨"java/lang/StringLatin1", "canEncode", "(I)Z"⟩ ∈ xTB := xw 710 (by decide +kernel) (by decide +kernel)
set_option maxRecDepth 100000 in
theorem wd_711 : Cond.code ⟨"java/lang/StringLatin1", "canEncode", "(I)Z"⟩ prog_19_method_4_code 1 (some .boolean) ∈ xTB := xw 711 (rfl) (by decide +kernel)
set_option maxRecDepth 100000 in
theorem wd_712 : Cond.methodLink "java/lang/StringLatin1" 92 ⟨"java/lang/Math", "max", "(II)I"⟩ ∈ xTB := xw 712 (by decide +kernel) (by decide +kernel)
set_option maxRecDepth 100000 in
theorem wd_714 : Cond.code ⟨"java/lang/Math", "max", "(II)I"⟩ prog_17_method_65_code 2 (some .int) ∈ xTB := xw 714 (rfl) (by decide +kernel)
set_option maxRecDepth 100000 in
theorem wd_715 : Cond.methodLink "java/lang/StringLatin1" 38 ⟨"java/lang/Math", "min", "(II)I"⟩ ∈ xTB := xw 715 (by decide +kernel) (by decide +kernel)
set_option maxRecDepth 100000 in
theorem wd_717 : Cond.code ⟨"java/lang/Math", "min", "(II)I"⟩ prog_17_method_69_code 2 (some .int) ∈ xTB := xw 717 (rfl) (by decide +kernel)
set_option maxRecDepth 100000 in
theorem wd_718 : Cond.methodLink "java/lang/StringLatin1" 95 ⟨"java/lang/StringLatin1", "indexOfChar", "([BIII)I"⟩ ∈ xTB := xw 718 (by decide +kernel) (by decide +kernel)
set_option maxRecDepth 100000 in
theorem wd_719 : Cond.static ⟨"java/lang/StringLatin1", "indexOfChar", "([BIII)I"⟩ ∈ xTB := xw 719 (by decide +kernel) (by decide +kernel)
set_option maxRecDepth 100000 in
theorem wd_720 : Cond.code ⟨"java/lang/StringLatin1", "indexOfChar", "([BIII)I"⟩ prog_19_method_23_code 6 (some .int) ∈ xTB := xw 720 (rfl) (by decide +kernel)
set_option maxRecDepth 100000 in
theorem wd_1917 : Cond.fieldLink "java/lang/String" 15 "java/lang/String" "coder" "B" ∈ xTB := xw 1917 (by decide +kernel) (by decide +kernel)
set_option maxRecDepth 100000 in
theorem wd_1918 : Cond.fieldLink "java/lang/String" 9 "java/lang/String" "value" "[B" ∈ xTB := xw 1918 (by decide +kernel) (by decide +kernel)
/-! ===== TEXTS: the JDK's methods on the class's two texts, at the machine's own values ===== -/
def jtS (sz : Nat) (adK adV : Nat → Nat) (s : State) : Prop := vk_R "CapitalCase$Tokens" 39 zTx0 (adK 0) s ∧ vk_R "CapitalCase$Tokens" 51 zTx1 (adK 1) s ∧ vk_S 2 [9, 168] zByt adK adV (fun q => sz ≤ q) s s.heap ∧ va_Z "java/lang/String" "COMPACT_STRINGS" "Z" (.int 1) (fun q => sz ≤ q) s s.heap ∧ va_Zq "jdk/internal/util/Preconditions" "SIOOBE_FORMATTER" "Ljava/util/function/BiFunction;" (fun q => sz ≤ q) s s.heap
theorem jtS_mv {sz : Nat} {adK adV : Nat → Nat} {s U : State} {locs : List Loc} (hW : s.WarmedH U.vm) (hS : va_S (fun q => sz ≤ q) s.heap U.heap locs) (h : jtS sz adK adV s) : jtS sz adK adV U := by
  obtain ⟨h1, h2, h3, h4, h5⟩ := h
  exact ⟨vk_R.warm hW h1, vk_R.warm hW h2, vk_S.moved hW.alike (vk_S.kept h3 hS.2.1), va_Z.moved hW.alike (va_Z.kept h4 hS.2.1), va_Zq.moved hW.alike (va_Zq.kept h5 hS.2.1)⟩
theorem jtS_same {sz : Nat} {adK adV : Nat → Nat} {s U : State} (hv : U.vm = s.vm) (hh : U.heap = s.heap) (h : jtS sz adK adV s) : jtS sz adK adV U := by
  obtain ⟨h1, h2, h3, h4, h5⟩ := h
  have ha : s.vm.Alike U.vm := by rw [hv]; exact Vm.Alike.refl s.vm
  exact ⟨vk_R.same hv h1, vk_R.same hv h2, by rw [hh]; exact vk_S.moved ha h3, by rw [hh]; exact va_Z.moved ha h4, by rw [hh]; exact va_Zq.moved ha h5⟩
def jtPc (sz : Nat) (adK adV : Nat → Nat) (as : List Value) : Array Value → State → Prop := fun v U => v = as.toArray ∧ jtS sz adK adV U
def jtQc (P : Option Value → Prop) : Array Value → State → Outcome → State → Prop := fun _ st o t => ∃ v : Option Value, o = .returned v ∧ P v ∧ t.heap = st.heap
def jtMet (y : MethodName) (cc : ByteArray) (maxL : Nat) (ret : Option FieldType) (d sz : Nat) (adK adV : Nat → Nat) (as : List Value) (P : Option Value → Prop) : Prop := ∀ l : Launch, Met l y (.code y cc maxL ret :: xTB) (xRm d 0 0) (jtPc sz adK adV as) (jtQc P) 0 0 (fun a => sz ≤ a)
theorem jtPc_blind {sz : Nat} {adK adV : Nat → Nat} {as : List Value} : FrameBlind (jtPc sz adK adV as) := by
  intro a U g1 mk h
  exact ⟨h.1, jtS_same rfl rfl h.2⟩
section QC
variable {p : Program} {l : Launch} {e : Env} {R : Room} {s : State} {m : MethodId} {args : Array Value} {below : List Frame} {meth : Method} {c : Code} {H : Heap} {locs : List Loc} {cells slots : Nat} {Q : State → Prop} {cc : ByteArray} {own : String} {nL sz d pc : Nat} {adK adV : Nat → Nat} {ls : Array Slot}
theorem jt_back {P : Option Value → Prop} {a : Array Value} {st0 rest : List Value} (hr : va_Run p l e R s m args below meth c H locs cells slots 0 0 (F0 m pc ls st0) rest (jtQc P a) (fun q => sz ≤ q)) (hl : va_S (fun q => sz ≤ q) s.heap H locs) (k : ∀ (v : Option Value) (locs' : List Loc), P v → va_S (fun q => sz ≤ q) s.heap H locs' → W p l e R s m args below meth c H locs' cells slots Q (F0 m (pc + 3) ls (v.toList ++ rest))) : W p l e R s m args below meth c H locs cells slots Q (F0 m pc ls st0) := by
  intro T hT X
  obtain ⟨v, st₀, t, T', L1, h0, X', hL1, e1, e2, ⟨v2, hv, hP, hh⟩, go⟩ := hr T hT X
  cases hv
  have hT' : T'.heap = H := e1.trans (hh.trans h0)
  have hl' : va_S (fun q => sz ≤ q) s.heap H (locs ++ L1) := ⟨hl.1, hl.2.1, fun q hq => by
    rcases List.mem_append.mp hq with h | h
    · exact hl.2.2 q h
    · exact hL1 q h⟩
  obtain ⟨t2, a1, b1⟩ := k v _ hP hl' T' hT' X'
  exact ⟨t2, go t2 a1, b1⟩
theorem jt_callS {P : Option Value → Prop} {y : MethodName} {bytes : ByteArray} {maxL index np : Nat} {ret : Option FieldType} {As st0 rest : List Value} (C : CallFix p m c cc nL s args xTB own) (hQ : jtS sz adK adV s) (hl : va_S (fun q => sz ≤ q) s.heap H locs) (hmet : jtMet y bytes maxL ret d sz adK adV As P) (hcode : Cond.code y bytes maxL ret ∈ xTB) (hini : Cond.initialized y.cls ∈ xTB) (hml : maxL ≤ 45) (hdd : y.cls ≠ "java/lang/invoke/MethodHandle" ∧ y.cls ≠ "java/lang/invoke/VarHandle" ∧ (parseMethodDescriptor y.desc).map (fun d => d.parameters.length) = some np) (hw1 : Cond.methodLink own index y ∈ xTB) (hw2 : Cond.static y ∈ xTB) (hf : d + 1 ≤ R.frames) (hlo : 64 * (d + 1) ≤ R.locals) (hcs : cells ≤ R.cells ∧ slots ≤ R.slots) (hsz : ls.size = nL) (hst : st0 = As.reverse ++ rest) (hnp : As.length = np) (hcat : (rest.map fun v => v.category).sum ≤ 8) (hd : decode cc pc = .ok (.invokestatic index, 3)) (k : ∀ (v : Option Value) (locs' : List Loc), P v → va_S (fun q => sz ≤ q) s.heap H locs' → W p l e R s m args below meth c H locs' cells slots Q (F0 m (pc + 3) ls (v.toList ++ rest))) : W p l e R s m args below meth c H locs cells slots Q (F0 m pc ls st0) :=
  jt_back (a := As.toArray) (va_runS (As := As) (rest := rest) (Ts := xTB) C (hmet l) ⟨callB_of np C.2.2.2.2 (xGI hcode) rfl rfl rfl (C.2.2.2.2 _ hini) (C.2.2.2.2 _ hw1) hdd ⟨hf, by show 8 + (maxL + 11) + 64 * d ≤ _; omega⟩, C.2.2.2.2 _ hw2⟩ ⟨jtPc_blind, fun U hU hW => ⟨rfl, jtS_mv hW (by rw [hU]; exact hl) hQ⟩⟩ rfl hnp hsz hst (by show 2 * 0 + _ ≤ 8; omega) hd ⟨by omega, by omega⟩) hl k
theorem jt_callV {P : Option Value → Prop} {y : MethodName} {bytes : ByteArray} {maxL index np i : Nat} {ret : Option FieldType} {As st0 rest : List Value} (C : CallFix p m c cc nL s args xTB own) (hQ : jtS sz adK adV s) (hl : va_S (fun q => sz ≤ q) s.heap H locs) (hi : i < 2) (hmet : jtMet y bytes maxL ret d sz adK adV (.ref (adK i) :: As) P) (hcode : Cond.code y bytes maxL ret ∈ xTB) (hini : Cond.initialized y.cls ∈ xTB) (hml : maxL ≤ 45) (hdd : y.cls ≠ "java/lang/invoke/MethodHandle" ∧ y.cls ≠ "java/lang/invoke/VarHandle" ∧ (parseMethodDescriptor y.desc).map (fun d => d.parameters.length) = some np) (hyc : y.cls = "java/lang/String") (hw1 : Cond.methodLink own index y ∈ xTB) (hw2 : Cond.instanceMethod y ∈ xTB) (hw3 : Cond.selects y.cls y y ∈ xTB) (hf : d + 1 ≤ R.frames) (hlo : 64 * (d + 1) ≤ R.locals) (hcs : cells ≤ R.cells ∧ slots ≤ R.slots) (hsz : ls.size = nL) (hst : st0 = As.reverse ++ .ref (adK i) :: rest) (hnp : As.length = np) (hcat : (rest.map fun v => v.category).sum ≤ 8) (hd : decode cc pc = .ok (.invokevirtual index, 3)) (k : ∀ (v : Option Value) (locs' : List Loc), P v → va_S (fun q => sz ≤ q) s.heap H locs' → W p l e R s m args below meth c H locs' cells slots Q (F0 m (pc + 3) ls (v.toList ++ rest))) : W p l e R s m args below meth c H locs cells slots Q (F0 m pc ls st0) :=
  jt_back (a := (Value.ref (adK i) :: As).toArray) (va_runV (As := As) (rest := rest) (Ts := xTB) (C := y.cls) C (hmet l) ⟨callB_of np C.2.2.2.2 (xGI hcode) rfl rfl rfl (C.2.2.2.2 _ hini) (C.2.2.2.2 _ hw1) hdd ⟨hf, by show 8 + (maxL + 11) + 64 * d ≤ _; omega⟩, C.2.2.2.2 _ hw2, C.2.2.2.2 _ hw3⟩ ⟨jtPc_blind, by rw [hyc]; exact vk_recv hQ.2.2.1 hi hl, fun U hU hW => ⟨rfl, jtS_mv hW (by rw [hU]; exact hl) hQ⟩⟩ rfl hnp hsz hst (by show 2 * 0 + _ ≤ 8; omega) hd ⟨by omega, by omega⟩) hl k
end QC
theorem dj_isl_0 : decode prog_18_method_154_code 0 = .ok (.getstatic 38, 3) := by decide +kernel
theorem dj_isl_3 : decode prog_18_method_154_code 3 = .ok (.ifCond .eq 14, 3) := by decide +kernel
theorem dj_isl_6 : decode prog_18_method_154_code 6 = .ok (.aload_n 0, 1) := by decide +kernel
theorem dj_isl_7 : decode prog_18_method_154_code 7 = .ok (.getfield 15, 3) := by decide +kernel
theorem dj_isl_10 : decode prog_18_method_154_code 10 = .ok (.ifCond .ne 7, 3) := by decide +kernel
theorem dj_isl_13 : decode prog_18_method_154_code 13 = .ok (.iconst 1, 1) := by decide +kernel
theorem dj_isl_14 : decode prog_18_method_154_code 14 = .ok (.goto 4, 3) := by decide +kernel
theorem dj_isl_18 : decode prog_18_method_154_code 18 = .ok (.ireturn, 1) := by decide +kernel
theorem js_isl {sz d : Nat} {adK adV : Nat → Nat} {i : Nat} (hD : 1 ≤ d) (hi : i < 2) : jtMet ⟨"java/lang/String", "isLatin1", "()Z"⟩ prog_18_method_154_code 1 (some .boolean) d sz adK adV [.ref (adK i)] (fun v => v = some (.int 1)) := by
  obtain ⟨d, rfl⟩ : ∃ d0, d = d0 + 1 := ⟨d - 1, by omega⟩
  intro l
  refine Met.ofW (cc := prog_18_method_154_code) (maxL := 1) (ret := (some .boolean)) rfl rfl ?_
  intro p e s m args below meth c s₁ B hml hpc
  obtain ⟨rfl, hQ⟩ := hpc
  have hts0 := atoms_spec (ws := .code ⟨"java/lang/String", "isLatin1", "()Z"⟩ prog_18_method_154_code 1 (some .boolean) :: xTB) B.pre
  have hts : ∀ w ∈ xTB, w.before _ s = true := fun w hw => hts0 w (List.mem_cons_of_mem _ hw)
  have hown : s.vm.findClass "java/lang/String" = some m.cls := findClass_of_methodNamed B.named
  have hlocks := B.notSynchronized
  have hret := B.returns
  have hl : va_S (fun q => sz ≤ q) s.heap s.heap [] := va_S.rf
  rw [lg_entry_eq]
  have h0 := lv_entry [.ref (adK i)] (n := 1) (Nat.le_of_ble_eq_true rfl)
  generalize (lg_sl [.ref (adK i)] ++ List.replicate (1 - (lg_sl [.ref (adK i)]).length) Slot.unset).toArray = ls at *
  have C : CallFix p m c prog_18_method_154_code 1 s _ xTB "java/lang/String" := ⟨B.exec, B.bytes, hml, hown, hts⟩
  refine va_gets B.exec B.bytes hQ.2.2.2.1 hl hown (hts _ wd_657) (fun _ h => h) dj_isl_0 ?_
  refine lv_if_eq B.exec B.bytes dj_isl_3 (tgt := 17) (by decide) (fun h => absurd h (by decide)) (fun _ => ?_)
  refine lv_aload_n B.exec B.bytes dj_isl_6 rfl (lv_at h0 0 rfl) ?_
  refine vk_getf B.exec B.bytes (hQ.2.2.1.1 i hi).2.1 hl hown (hts _ wd_1917) (fun _ h => h) dj_isl_7 ?_
  refine lv_if_ne B.exec B.bytes dj_isl_10 (tgt := 17) (by decide) (fun h => absurd rfl h) (fun _ => ?_)
  refine lv_iconst B.exec B.bytes dj_isl_13 (v := 1) (by decide) ?_
  refine lv_goto B.exec B.bytes dj_isl_14 (tgt := 18) (by decide) ?_
  exact W.zret B.exec B.bytes hret (by decide) (fun t ht _ => ⟨_, rfl, rfl, ht⟩) (fun q hq => hl.2.2 q hq) dj_isl_18
theorem dj_pci_0 : decode prog_23_method_11_code 0 = .ok (.iload_n 0, 1) := by decide +kernel
theorem dj_pci_1 : decode prog_23_method_11_code 1 = .ok (.ifCond .lt 8, 3) := by decide +kernel
theorem dj_pci_4 : decode prog_23_method_11_code 4 = .ok (.iload_n 0, 1) := by decide +kernel
theorem dj_pci_5 : decode prog_23_method_11_code 5 = .ok (.iload_n 1, 1) := by decide +kernel
theorem dj_pci_6 : decode prog_23_method_11_code 6 = .ok (.if_icmp .lt 10, 3) := by decide +kernel
theorem dj_pci_16 : decode prog_23_method_11_code 16 = .ok (.iload_n 0, 1) := by decide +kernel
theorem dj_pci_17 : decode prog_23_method_11_code 17 = .ok (.ireturn, 1) := by decide +kernel
theorem js_pci {sz d : Nat} {adK adV : Nat → Nat} {x n : Int32} {b : Value} (hD : 1 ≤ d) (hb : b = .null ∨ ∃ t, b = .ref t) (hx0 : ¬ x < 0) (hx1 : x < n) : jtMet ⟨"jdk/internal/util/Preconditions", "checkIndex", "(IILjava/util/function/BiFunction;)I"⟩ prog_23_method_11_code 3 (some .int) d sz adK adV [.int x, .int n, b] (fun v => v = some (.int x)) := by
  obtain ⟨d, rfl⟩ : ∃ d0, d = d0 + 1 := ⟨d - 1, by omega⟩
  intro l
  refine Met.ofW (cc := prog_23_method_11_code) (maxL := 3) (ret := (some .int)) rfl rfl ?_
  intro p e s m args below meth c s₁ B hml hpc
  obtain ⟨rfl, hQ⟩ := hpc
  have hts0 := atoms_spec (ws := .code ⟨"jdk/internal/util/Preconditions", "checkIndex", "(IILjava/util/function/BiFunction;)I"⟩ prog_23_method_11_code 3 (some .int) :: xTB) B.pre
  have hts : ∀ w ∈ xTB, w.before _ s = true := fun w hw => hts0 w (List.mem_cons_of_mem _ hw)
  have hown : s.vm.findClass "jdk/internal/util/Preconditions" = some m.cls := findClass_of_methodNamed B.named
  have hlocks := B.notSynchronized
  have hret := B.returns
  have hl : va_S (fun q => sz ≤ q) s.heap s.heap [] := va_S.rf
  rw [lg_entry_eq]
  have hsl : (lg_sl [.int x, .int n, b]).length = 3 := by rcases hb with rfl | ⟨t, rfl⟩ <;> rfl
  have h0 : lv_has ((lg_sl [.int x, .int n, b] ++ List.replicate (3 - (lg_sl [.int x, .int n, b]).length) Slot.unset).toArray) 3 [(0, .int x), (1, .int n), (2, b)] := by rcases hb with rfl | ⟨t, rfl⟩ <;> exact lv_entry _ (Nat.le_of_ble_eq_true rfl)
  generalize (lg_sl [.int x, .int n, b] ++ List.replicate (3 - (lg_sl [.int x, .int n, b]).length) Slot.unset).toArray = ls at *
  have C : CallFix p m c prog_23_method_11_code 3 s _ xTB "jdk/internal/util/Preconditions" := ⟨B.exec, B.bytes, hml, hown, hts⟩
  refine lv_iload_n B.exec B.bytes dj_pci_0 rfl (lv_at h0 0 rfl) ?_
  refine lv_if_lt B.exec B.bytes dj_pci_1 (tgt := 9) (by decide) (fun h => absurd h hx0) (fun _ => ?_)
  refine lv_iload_n B.exec B.bytes dj_pci_4 rfl (lv_at h0 0 rfl) ?_
  refine lv_iload_n B.exec B.bytes dj_pci_5 rfl (lv_at h0 1 rfl) ?_
  refine lv_icmp_lt B.exec B.bytes dj_pci_6 (tgt := 16) (by decide) (fun _ => ?_) (fun h => absurd hx1 h)
  refine lv_iload_n B.exec B.bytes dj_pci_16 rfl (lv_at h0 0 rfl) ?_
  exact W.iret B.exec B.bytes hret (fun t ht _ => ⟨_, rfl, rfl, ht⟩) (fun q hq => hl.2.2 q hq) dj_pci_17
theorem dj_sci_0 : decode prog_18_method_155_code 0 = .ok (.iload_n 0, 1) := by decide +kernel
theorem dj_sci_1 : decode prog_18_method_155_code 1 = .ok (.iload_n 1, 1) := by decide +kernel
theorem dj_sci_2 : decode prog_18_method_155_code 2 = .ok (.getstatic 1053, 3) := by decide +kernel
theorem dj_sci_5 : decode prog_18_method_155_code 5 = .ok (.invokestatic 1059, 3) := by decide +kernel
theorem dj_sci_8 : decode prog_18_method_155_code 8 = .ok (.pop, 1) := by decide +kernel
theorem dj_sci_9 : decode prog_18_method_155_code 9 = .ok (.return_, 1) := by decide +kernel
theorem js_sci {sz d : Nat} {adK adV : Nat → Nat} {x n : Int32} (hD : 2 ≤ d) (hx0 : ¬ x < 0) (hx1 : x < n) : jtMet ⟨"java/lang/String", "checkIndex", "(II)V"⟩ prog_18_method_155_code 2 none d sz adK adV [.int x, .int n] (fun v => v = none) := by
  obtain ⟨d, rfl⟩ : ∃ d0, d = d0 + 1 := ⟨d - 1, by omega⟩
  intro l
  refine Met.ofW (cc := prog_18_method_155_code) (maxL := 2) (ret := none) rfl rfl ?_
  intro p e s m args below meth c s₁ B hml hpc
  obtain ⟨rfl, hQ⟩ := hpc
  have hts0 := atoms_spec (ws := .code ⟨"java/lang/String", "checkIndex", "(II)V"⟩ prog_18_method_155_code 2 none :: xTB) B.pre
  have hts : ∀ w ∈ xTB, w.before _ s = true := fun w hw => hts0 w (List.mem_cons_of_mem _ hw)
  have hown : s.vm.findClass "java/lang/String" = some m.cls := findClass_of_methodNamed B.named
  have hlocks := B.notSynchronized
  have hret := B.returns
  have hl : va_S (fun q => sz ≤ q) s.heap s.heap [] := va_S.rf
  rw [lg_entry_eq]
  have h0 := lv_entry [.int x, .int n] (n := 2) (Nat.le_of_ble_eq_true rfl)
  generalize (lg_sl [.int x, .int n] ++ List.replicate (2 - (lg_sl [.int x, .int n]).length) Slot.unset).toArray = ls at *
  have C : CallFix p m c prog_18_method_155_code 2 s _ xTB "java/lang/String" := ⟨B.exec, B.bytes, hml, hown, hts⟩
  refine lv_iload_n B.exec B.bytes dj_sci_0 rfl (lv_at h0 0 rfl) ?_
  refine lv_iload_n B.exec B.bytes dj_sci_1 rfl (lv_at h0 1 rfl) ?_
  have hgo : ∀ b : Value, (b = .null ∨ ∃ t, b = .ref t) → W p l e (headSpec (Cond.code ⟨"java/lang/String", "checkIndex", "(II)V"⟩ prog_18_method_155_code 2 none :: xTB) (xRm (d + 1) 0 0)).room s m [.int x, .int n].toArray below meth c s.heap [] 0 0 (MQ below (jtQc fun v => v = none) [.int x, .int n].toArray s 0 0 fun a => sz ≤ a) (F0 m 5 ls [b, .int n, .int x]) := by
    intro b hb
    refine jt_callS (As := [.int x, .int n, b]) (rest := []) (np := 3) C hQ hl (js_pci (by omega) hb hx0 hx1) wd_669 wd_127 (by decide) (by decide) wd_667 wd_668 (Nat.le_refl _) (Nat.le_refl _) ⟨Nat.zero_le _, Nat.zero_le _⟩ h0.1 rfl rfl (Nat.le_of_ble_eq_true rfl) dj_sci_5 (fun v locs hP hl => ?_)
    subst hP
    refine lv_pop B.exec B.bytes dj_sci_8 rfl ?_
    exact W.vret B.exec B.bytes hret (fun t ht _ => ⟨_, rfl, rfl, ht⟩) (fun q hq => hl.2.2 q hq) dj_sci_9
  rcases hQ.2.2.2.2 with hZ | ⟨t, hZ⟩
  · exact va_gets B.exec B.bytes hZ hl hown (hts _ wd_665) (fun _ h => h) dj_sci_2 (hgo _ (Or.inl rfl))
  · exact va_gets B.exec B.bytes hZ hl hown (hts _ wd_665) (fun _ h => h) dj_sci_2 (hgo _ (Or.inr ⟨_, rfl⟩))
theorem dj_lca_0 : decode prog_19_method_2_code 0 = .ok (.iload_n 1, 1) := by decide +kernel
theorem dj_lca_1 : decode prog_19_method_2_code 1 = .ok (.aload_n 0, 1) := by decide +kernel
theorem dj_lca_2 : decode prog_19_method_2_code 2 = .ok (.arraylength, 1) := by decide +kernel
theorem dj_lca_3 : decode prog_19_method_2_code 3 = .ok (.invokestatic 9, 3) := by decide +kernel
theorem dj_lca_6 : decode prog_19_method_2_code 6 = .ok (.aload_n 0, 1) := by decide +kernel
theorem dj_lca_7 : decode prog_19_method_2_code 7 = .ok (.iload_n 1, 1) := by decide +kernel
theorem dj_lca_8 : decode prog_19_method_2_code 8 = .ok (.baload, 1) := by decide +kernel
theorem dj_lca_9 : decode prog_19_method_2_code 9 = .ok (.sipush 255, 3) := by decide +kernel
theorem dj_lca_12 : decode prog_19_method_2_code 12 = .ok (.iand, 1) := by decide +kernel
theorem dj_lca_13 : decode prog_19_method_2_code 13 = .ok (.i2c, 1) := by decide +kernel
theorem dj_lca_14 : decode prog_19_method_2_code 14 = .ok (.ireturn, 1) := by decide +kernel
def jtch (k : Nat) : Int32 := ((((zByt.getD 1 []).getD k 0) &&& 255).toUInt32 % 65536).toInt32
theorem jtch_n : ∀ k, k < 168 → narrow .char (.int (jtch k)) = .int (jtch k) := by decide +kernel
theorem jt_ix {x : Int32} {n : Nat} (h0 : 0 ≤ x.toInt) (h1 : x.toInt < (n : Int)) (hn : n < 2147483648) : ¬ x < 0 ∧ x < Int32.ofNat n ∧ vp_in x n ∧ x.toNatClampNeg < n := by
  have e0 : (0 : Int32).toInt = 0 := rfl
  have en : (Int32.ofNat n).toInt = (n : Int) := Int32.toInt_ofNat_of_lt (by omega)
  refine ⟨fun h => ?_, Int32.lt_iff_toInt_lt.mpr (by rw [en]; exact h1), (ix h0 h1).1, ?_⟩
  · have := Int32.lt_iff_toInt_lt.mp h
    omega
  · show x.toInt.toNat < n
    omega
theorem js_lca {sz d : Nat} {adK adV : Nat → Nat} {x : Int32} (hD : 3 ≤ d) (hx0 : 0 ≤ x.toInt) (hx1 : x.toInt < 168) : jtMet ⟨"java/lang/StringLatin1", "charAt", "([BI)C"⟩ prog_19_method_2_code 2 (some .char) d sz adK adV [.ref (adV 1), .int x] (fun v => ∃ z : Int32, v = some (.int z) ∧ narrow .char (.int z) = .int z ∧ z = jtch x.toNatClampNeg) := by
  obtain ⟨d, rfl⟩ : ∃ d0, d = d0 + 1 := ⟨d - 1, by omega⟩
  intro l
  refine Met.ofW (cc := prog_19_method_2_code) (maxL := 2) (ret := (some .char)) rfl rfl ?_
  intro p e s m args below meth c s₁ B hml hpc
  obtain ⟨rfl, hQ⟩ := hpc
  have hts0 := atoms_spec (ws := .code ⟨"java/lang/StringLatin1", "charAt", "([BI)C"⟩ prog_19_method_2_code 2 (some .char) :: xTB) B.pre
  have hts : ∀ w ∈ xTB, w.before _ s = true := fun w hw => hts0 w (List.mem_cons_of_mem _ hw)
  have hown : s.vm.findClass "java/lang/StringLatin1" = some m.cls := findClass_of_methodNamed B.named
  have hlocks := B.notSynchronized
  have hret := B.returns
  have hl : va_S (fun q => sz ≤ q) s.heap s.heap [] := va_S.rf
  rw [lg_entry_eq]
  have h0 := lv_entry [.ref (adV 1), .int x] (n := 2) (Nat.le_of_ble_eq_true rfl)
  generalize (lg_sl [.ref (adV 1), .int x] ++ List.replicate (2 - (lg_sl [.ref (adV 1), .int x]).length) Slot.unset).toArray = ls at *
  have C : CallFix p m c prog_19_method_2_code 2 s _ xTB "java/lang/StringLatin1" := ⟨B.exec, B.bytes, hml, hown, hts⟩
  obtain ⟨q0, q1, q2, q3⟩ := jt_ix (n := 168) hx0 hx1 (by decide)
  refine lv_iload_n B.exec B.bytes dj_lca_0 rfl (lv_at h0 1 rfl) ?_
  refine lv_aload_n B.exec B.bytes dj_lca_1 rfl (lv_at h0 0 rfl) ?_
  refine va_tlen B.exec B.bytes (hQ.2.2.1.1 1 (by decide)).2.2.2 hl (v := Int32.ofNat 168) rfl dj_lca_2 ?_
  refine jt_callS (As := [.int x, .int (Int32.ofNat 168)]) (rest := []) (np := 2) C hQ hl (js_sci (by omega) q0 q1) wd_664 wd_125 (by decide) (by decide) wd_662 wd_663 (Nat.le_refl _) (Nat.le_refl _) ⟨Nat.zero_le _, Nat.zero_le _⟩ h0.1 rfl rfl (Nat.le_of_ble_eq_true rfl) dj_lca_3 (fun v locs hP hl => ?_)
  subst hP
  refine lv_aload_n B.exec B.bytes dj_lca_6 rfl (lv_at h0 0 rfl) ?_
  refine lv_iload_n B.exec B.bytes dj_lca_7 rfl (lv_at h0 1 rfl) ?_
  refine va_tb B.exec B.bytes (hQ.2.2.1.1 1 (by decide)).2.2.2 hl q2 rfl dj_lca_8 ?_
  refine lv_sipush B.exec B.bytes dj_lca_9 (v := 255) (by decide) ?_
  refine lv_iand B.exec B.bytes dj_lca_12 ?_
  refine lv_i2c B.exec B.bytes dj_lca_13 rfl ?_
  exact W.zret B.exec B.bytes hret (jtch_n _ q3) (fun t ht _ => ⟨_, rfl, ⟨_, rfl, jtch_n _ q3, rfl⟩, ht⟩) (fun q hq => hl.2.2 q hq) dj_lca_14
theorem dj_sca_0 : decode prog_18_method_56_code 0 = .ok (.aload_n 0, 1) := by decide +kernel
theorem dj_sca_1 : decode prog_18_method_56_code 1 = .ok (.invokevirtual 492, 3) := by decide +kernel
theorem dj_sca_4 : decode prog_18_method_56_code 4 = .ok (.ifCond .eq 12, 3) := by decide +kernel
theorem dj_sca_7 : decode prog_18_method_56_code 7 = .ok (.aload_n 0, 1) := by decide +kernel
theorem dj_sca_8 : decode prog_18_method_56_code 8 = .ok (.getfield 9, 3) := by decide +kernel
theorem dj_sca_11 : decode prog_18_method_56_code 11 = .ok (.iload_n 1, 1) := by decide +kernel
theorem dj_sca_12 : decode prog_18_method_56_code 12 = .ok (.invokestatic 495, 3) := by decide +kernel
theorem dj_sca_15 : decode prog_18_method_56_code 15 = .ok (.ireturn, 1) := by decide +kernel
theorem js_sca {sz d : Nat} {adK adV : Nat → Nat} {x : Int32} (hD : 4 ≤ d) (hx0 : 0 ≤ x.toInt) (hx1 : x.toInt < 168) : jtMet ⟨"java/lang/String", "charAt", "(I)C"⟩ prog_18_method_56_code 2 (some .char) d sz adK adV [.ref (adK 1), .int x] (fun v => ∃ z : Int32, v = some (.int z) ∧ z = jtch x.toNatClampNeg) := by
  obtain ⟨d, rfl⟩ : ∃ d0, d = d0 + 1 := ⟨d - 1, by omega⟩
  intro l
  refine Met.ofW (cc := prog_18_method_56_code) (maxL := 2) (ret := (some .char)) rfl rfl ?_
  intro p e s m args below meth c s₁ B hml hpc
  obtain ⟨rfl, hQ⟩ := hpc
  have hts0 := atoms_spec (ws := .code ⟨"java/lang/String", "charAt", "(I)C"⟩ prog_18_method_56_code 2 (some .char) :: xTB) B.pre
  have hts : ∀ w ∈ xTB, w.before _ s = true := fun w hw => hts0 w (List.mem_cons_of_mem _ hw)
  have hown : s.vm.findClass "java/lang/String" = some m.cls := findClass_of_methodNamed B.named
  have hlocks := B.notSynchronized
  have hret := B.returns
  have hl : va_S (fun q => sz ≤ q) s.heap s.heap [] := va_S.rf
  rw [lg_entry_eq]
  have h0 := lv_entry [.ref (adK 1), .int x] (n := 2) (Nat.le_of_ble_eq_true rfl)
  generalize (lg_sl [.ref (adK 1), .int x] ++ List.replicate (2 - (lg_sl [.ref (adK 1), .int x]).length) Slot.unset).toArray = ls at *
  have C : CallFix p m c prog_18_method_56_code 2 s _ xTB "java/lang/String" := ⟨B.exec, B.bytes, hml, hown, hts⟩
  refine lv_aload_n B.exec B.bytes dj_sca_0 rfl (lv_at h0 0 rfl) ?_
  refine jt_callV (i := 1) (As := []) (rest := []) (np := 0) C hQ hl (by decide) (js_isl (by omega) (by decide)) wd_656 wd_125 (by decide) (by decide) rfl wd_653 wd_654 wd_655 (Nat.le_refl _) (Nat.le_refl _) ⟨Nat.zero_le _, Nat.zero_le _⟩ h0.1 rfl rfl (Nat.le_of_ble_eq_true rfl) dj_sca_1 (fun v locs hP hl => ?_)
  subst hP
  refine lv_if_eq B.exec B.bytes dj_sca_4 (tgt := 16) (by decide) (fun h => absurd h (by decide)) (fun _ => ?_)
  refine lv_aload_n B.exec B.bytes dj_sca_7 rfl (lv_at h0 0 rfl) ?_
  refine vk_getf B.exec B.bytes (hQ.2.2.1.1 1 (by decide)).2.2.1 hl hown (hts _ wd_1918) (fun _ h => h) dj_sca_8 ?_
  refine lv_iload_n B.exec B.bytes dj_sca_11 rfl (lv_at h0 1 rfl) ?_
  refine jt_callS (As := [.ref (adV 1), .int x]) (rest := []) (np := 2) C hQ hl (js_lca (by omega) hx0 hx1) wd_661 wd_126 (by decide) (by decide) wd_659 wd_660 (Nat.le_refl _) (Nat.le_refl _) ⟨Nat.zero_le _, Nat.zero_le _⟩ h0.1 rfl rfl (Nat.le_of_ble_eq_true rfl) dj_sca_12 (fun v locs hP hl => ?_)
  obtain ⟨z, rfl, hz, hzz⟩ := hP
  exact W.zret B.exec B.bytes hret hz (fun t ht _ => ⟨_, rfl, ⟨_, rfl, hzz⟩, ht⟩) (fun q hq => hl.2.2 q hq) dj_sca_15
theorem dj_cod_0 : decode prog_18_method_152_code 0 = .ok (.getstatic 38, 3) := by decide +kernel
theorem dj_cod_3 : decode prog_18_method_152_code 3 = .ok (.ifCond .eq 10, 3) := by decide +kernel
theorem dj_cod_6 : decode prog_18_method_152_code 6 = .ok (.aload_n 0, 1) := by decide +kernel
theorem dj_cod_7 : decode prog_18_method_152_code 7 = .ok (.getfield 15, 3) := by decide +kernel
theorem dj_cod_10 : decode prog_18_method_152_code 10 = .ok (.goto 4, 3) := by decide +kernel
theorem dj_cod_14 : decode prog_18_method_152_code 14 = .ok (.ireturn, 1) := by decide +kernel
theorem js_cod {sz d : Nat} {adK adV : Nat → Nat} {i : Nat} (hD : 1 ≤ d) (hi : i < 2) : jtMet ⟨"java/lang/String", "coder", "()B"⟩ prog_18_method_152_code 1 (some .byte) d sz adK adV [.ref (adK i)] (fun v => v = some (.int 0)) := by
  obtain ⟨d, rfl⟩ : ∃ d0, d = d0 + 1 := ⟨d - 1, by omega⟩
  intro l
  refine Met.ofW (cc := prog_18_method_152_code) (maxL := 1) (ret := (some .byte)) rfl rfl ?_
  intro p e s m args below meth c s₁ B hml hpc
  obtain ⟨rfl, hQ⟩ := hpc
  have hts0 := atoms_spec (ws := .code ⟨"java/lang/String", "coder", "()B"⟩ prog_18_method_152_code 1 (some .byte) :: xTB) B.pre
  have hts : ∀ w ∈ xTB, w.before _ s = true := fun w hw => hts0 w (List.mem_cons_of_mem _ hw)
  have hown : s.vm.findClass "java/lang/String" = some m.cls := findClass_of_methodNamed B.named
  have hlocks := B.notSynchronized
  have hret := B.returns
  have hl : va_S (fun q => sz ≤ q) s.heap s.heap [] := va_S.rf
  rw [lg_entry_eq]
  have h0 := lv_entry [.ref (adK i)] (n := 1) (Nat.le_of_ble_eq_true rfl)
  generalize (lg_sl [.ref (adK i)] ++ List.replicate (1 - (lg_sl [.ref (adK i)]).length) Slot.unset).toArray = ls at *
  have C : CallFix p m c prog_18_method_152_code 1 s _ xTB "java/lang/String" := ⟨B.exec, B.bytes, hml, hown, hts⟩
  refine va_gets B.exec B.bytes hQ.2.2.2.1 hl hown (hts _ wd_657) (fun _ h => h) dj_cod_0 ?_
  refine lv_if_eq B.exec B.bytes dj_cod_3 (tgt := 13) (by decide) (fun h => absurd h (by decide)) (fun _ => ?_)
  refine lv_aload_n B.exec B.bytes dj_cod_6 rfl (lv_at h0 0 rfl) ?_
  refine vk_getf B.exec B.bytes (hQ.2.2.1.1 i hi).2.1 hl hown (hts _ wd_1917) (fun _ h => h) dj_cod_7 ?_
  refine lv_goto B.exec B.bytes dj_cod_10 (tgt := 14) (by decide) ?_
  exact W.zret B.exec B.bytes hret (by decide) (fun t ht _ => ⟨_, rfl, rfl, ht⟩) (fun q hq => hl.2.2 q hq) dj_cod_14
theorem dj_len_0 : decode prog_18_method_54_code 0 = .ok (.aload_n 0, 1) := by decide +kernel
theorem dj_len_1 : decode prog_18_method_54_code 1 = .ok (.getfield 9, 3) := by decide +kernel
theorem dj_len_4 : decode prog_18_method_54_code 4 = .ok (.arraylength, 1) := by decide +kernel
theorem dj_len_5 : decode prog_18_method_54_code 5 = .ok (.aload_n 0, 1) := by decide +kernel
theorem dj_len_6 : decode prog_18_method_54_code 6 = .ok (.invokevirtual 335, 3) := by decide +kernel
theorem dj_len_9 : decode prog_18_method_54_code 9 = .ok (.ishr, 1) := by decide +kernel
theorem dj_len_10 : decode prog_18_method_54_code 10 = .ok (.ireturn, 1) := by decide +kernel
theorem js_len {sz d : Nat} {adK adV : Nat → Nat} (hD : 2 ≤ d) : jtMet ⟨"java/lang/String", "length", "()I"⟩ prog_18_method_54_code 1 (some .int) d sz adK adV [.ref (adK 0)] (fun v => v = some (.int 9)) := by
  obtain ⟨d, rfl⟩ : ∃ d0, d = d0 + 1 := ⟨d - 1, by omega⟩
  intro l
  refine Met.ofW (cc := prog_18_method_54_code) (maxL := 1) (ret := (some .int)) rfl rfl ?_
  intro p e s m args below meth c s₁ B hml hpc
  obtain ⟨rfl, hQ⟩ := hpc
  have hts0 := atoms_spec (ws := .code ⟨"java/lang/String", "length", "()I"⟩ prog_18_method_54_code 1 (some .int) :: xTB) B.pre
  have hts : ∀ w ∈ xTB, w.before _ s = true := fun w hw => hts0 w (List.mem_cons_of_mem _ hw)
  have hown : s.vm.findClass "java/lang/String" = some m.cls := findClass_of_methodNamed B.named
  have hlocks := B.notSynchronized
  have hret := B.returns
  have hl : va_S (fun q => sz ≤ q) s.heap s.heap [] := va_S.rf
  rw [lg_entry_eq]
  have h0 := lv_entry [.ref (adK 0)] (n := 1) (Nat.le_of_ble_eq_true rfl)
  generalize (lg_sl [.ref (adK 0)] ++ List.replicate (1 - (lg_sl [.ref (adK 0)]).length) Slot.unset).toArray = ls at *
  have C : CallFix p m c prog_18_method_54_code 1 s _ xTB "java/lang/String" := ⟨B.exec, B.bytes, hml, hown, hts⟩
  refine lv_aload_n B.exec B.bytes dj_len_0 rfl (lv_at h0 0 rfl) ?_
  refine vk_getf B.exec B.bytes (hQ.2.2.1.1 0 (by decide)).2.2.1 hl hown (hts _ wd_1918) (fun _ h => h) dj_len_1 ?_
  refine va_tlen B.exec B.bytes (hQ.2.2.1.1 0 (by decide)).2.2.2 hl (v := 9) rfl dj_len_4 ?_
  refine lv_aload_n B.exec B.bytes dj_len_5 rfl (lv_at h0 0 rfl) ?_
  refine jt_callV (i := 0) (As := []) (rest := [.int 9]) (np := 0) C hQ hl (by decide) (js_cod (by omega) (by decide)) wd_705 wd_125 (by decide) (by decide) rfl wd_702 wd_703 wd_704 (Nat.le_refl _) (Nat.le_refl _) ⟨Nat.zero_le _, Nat.zero_le _⟩ h0.1 rfl rfl (Nat.le_of_ble_eq_true rfl) dj_len_6 (fun v locs hP hl => ?_)
  subst hP
  refine lv_ishr B.exec B.bytes dj_len_9 ?_
  exact W.iret B.exec B.bytes hret (fun t ht _ => ⟨_, rfl, (by decide), ht⟩) (fun q hq => hl.2.2 q hq) dj_len_10
theorem dj_can_0 : decode prog_19_method_4_code 0 = .ok (.iload_n 0, 1) := by decide +kernel
theorem dj_can_1 : decode prog_19_method_4_code 1 = .ok (.ifCond .lt 14, 3) := by decide +kernel
theorem dj_can_4 : decode prog_19_method_4_code 4 = .ok (.iload_n 0, 1) := by decide +kernel
theorem dj_can_5 : decode prog_19_method_4_code 5 = .ok (.sipush 255, 3) := by decide +kernel
theorem dj_can_8 : decode prog_19_method_4_code 8 = .ok (.if_icmp .gt 7, 3) := by decide +kernel
theorem dj_can_11 : decode prog_19_method_4_code 11 = .ok (.iconst 1, 1) := by decide +kernel
theorem dj_can_12 : decode prog_19_method_4_code 12 = .ok (.goto 4, 3) := by decide +kernel
theorem dj_can_16 : decode prog_19_method_4_code 16 = .ok (.ireturn, 1) := by decide +kernel
theorem js_can {sz d : Nat} {adK adV : Nat → Nat} {x : Int32} (hD : 1 ≤ d) (hx0 : ¬ x < 0) (hx1 : ¬ x > 255) : jtMet ⟨"java/lang/StringLatin1", "canEncode", "(I)Z"⟩ prog_19_method_4_code 1 (some .boolean) d sz adK adV [.int x] (fun v => v = some (.int 1)) := by
  obtain ⟨d, rfl⟩ : ∃ d0, d = d0 + 1 := ⟨d - 1, by omega⟩
  intro l
  refine Met.ofW (cc := prog_19_method_4_code) (maxL := 1) (ret := (some .boolean)) rfl rfl ?_
  intro p e s m args below meth c s₁ B hml hpc
  obtain ⟨rfl, hQ⟩ := hpc
  have hts0 := atoms_spec (ws := .code ⟨"java/lang/StringLatin1", "canEncode", "(I)Z"⟩ prog_19_method_4_code 1 (some .boolean) :: xTB) B.pre
  have hts : ∀ w ∈ xTB, w.before _ s = true := fun w hw => hts0 w (List.mem_cons_of_mem _ hw)
  have hown : s.vm.findClass "java/lang/StringLatin1" = some m.cls := findClass_of_methodNamed B.named
  have hlocks := B.notSynchronized
  have hret := B.returns
  have hl : va_S (fun q => sz ≤ q) s.heap s.heap [] := va_S.rf
  rw [lg_entry_eq]
  have h0 := lv_entry [.int x] (n := 1) (Nat.le_of_ble_eq_true rfl)
  generalize (lg_sl [.int x] ++ List.replicate (1 - (lg_sl [.int x]).length) Slot.unset).toArray = ls at *
  have C : CallFix p m c prog_19_method_4_code 1 s _ xTB "java/lang/StringLatin1" := ⟨B.exec, B.bytes, hml, hown, hts⟩
  refine lv_iload_n B.exec B.bytes dj_can_0 rfl (lv_at h0 0 rfl) ?_
  refine lv_if_lt B.exec B.bytes dj_can_1 (tgt := 15) (by decide) (fun h => absurd h hx0) (fun _ => ?_)
  refine lv_iload_n B.exec B.bytes dj_can_4 rfl (lv_at h0 0 rfl) ?_
  refine lv_sipush B.exec B.bytes dj_can_5 (v := 255) (by decide) ?_
  refine lv_icmp_gt B.exec B.bytes dj_can_8 (tgt := 15) (by decide) (fun h => absurd h hx1) (fun _ => ?_)
  refine lv_iconst B.exec B.bytes dj_can_11 (v := 1) (by decide) ?_
  refine lv_goto B.exec B.bytes dj_can_12 (tgt := 16) (by decide) ?_
  exact W.zret B.exec B.bytes hret (by decide) (fun t ht _ => ⟨_, rfl, rfl, ht⟩) (fun q hq => hl.2.2 q hq) dj_can_16
theorem dj_ioc_0 : decode prog_19_method_23_code 0 = .ok (.iload_n 1, 1) := by decide +kernel
theorem dj_ioc_1 : decode prog_19_method_23_code 1 = .ok (.i2b, 1) := by decide +kernel
theorem dj_ioc_2 : decode prog_19_method_23_code 2 = .ok (.istore 4, 2) := by decide +kernel
theorem dj_ioc_4 : decode prog_19_method_23_code 4 = .ok (.iload_n 2, 1) := by decide +kernel
theorem dj_ioc_5 : decode prog_19_method_23_code 5 = .ok (.istore 5, 2) := by decide +kernel
theorem dj_ioc_7 : decode prog_19_method_23_code 7 = .ok (.iload 5, 2) := by decide +kernel
theorem dj_ioc_9 : decode prog_19_method_23_code 9 = .ok (.iload_n 3, 1) := by decide +kernel
theorem dj_ioc_10 : decode prog_19_method_23_code 10 = .ok (.if_icmp .ge 21, 3) := by decide +kernel
theorem dj_ioc_13 : decode prog_19_method_23_code 13 = .ok (.aload_n 0, 1) := by decide +kernel
theorem dj_ioc_14 : decode prog_19_method_23_code 14 = .ok (.iload 5, 2) := by decide +kernel
theorem dj_ioc_16 : decode prog_19_method_23_code 16 = .ok (.baload, 1) := by decide +kernel
theorem dj_ioc_17 : decode prog_19_method_23_code 17 = .ok (.iload 4, 2) := by decide +kernel
theorem dj_ioc_19 : decode prog_19_method_23_code 19 = .ok (.if_icmp .ne 6, 3) := by decide +kernel
theorem dj_ioc_22 : decode prog_19_method_23_code 22 = .ok (.iload 5, 2) := by decide +kernel
theorem dj_ioc_24 : decode prog_19_method_23_code 24 = .ok (.ireturn, 1) := by decide +kernel
theorem dj_ioc_25 : decode prog_19_method_23_code 25 = .ok (.iinc 5 1, 3) := by decide +kernel
theorem dj_ioc_28 : decode prog_19_method_23_code 28 = .ok (.goto (-21), 3) := by decide +kernel
theorem dj_ioc_31 : decode prog_19_method_23_code 31 = .ok (.iconst (-1), 1) := by decide +kernel
theorem dj_ioc_32 : decode prog_19_method_23_code 32 = .ok (.ireturn, 1) := by decide +kernel
def jtIn (c : Int32) (z : Int32) : Prop := 0 ≤ z.toInt ↔ c ∈ (zByt.getD 0 [])
theorem jt_mem : ∀ y ∈ zByt.getD 0 [], ∃ j, j < 9 ∧ (zByt.getD 0 []).getD j 0 = y := by decide
theorem js_ioc {sz d : Nat} {adK adV : Nat → Nat} {x : Int32} (hD : 1 ≤ d) (hb : x.toInt8.toInt32 = x) : jtMet ⟨"java/lang/StringLatin1", "indexOfChar", "([BIII)I"⟩ prog_19_method_23_code 6 (some .int) d sz adK adV [.ref (adV 0), .int x, .int 0, .int 9] (fun v => ∃ z : Int32, v = some (.int z) ∧ jtIn x z) := by
  obtain ⟨d, rfl⟩ : ∃ d0, d = d0 + 1 := ⟨d - 1, by omega⟩
  intro l
  refine Met.ofW (cc := prog_19_method_23_code) (maxL := 6) (ret := (some .int)) rfl rfl ?_
  intro p e s m args below meth c s₁ B hml hpc
  obtain ⟨rfl, hQ⟩ := hpc
  have hts0 := atoms_spec (ws := .code ⟨"java/lang/StringLatin1", "indexOfChar", "([BIII)I"⟩ prog_19_method_23_code 6 (some .int) :: xTB) B.pre
  have hts : ∀ w ∈ xTB, w.before _ s = true := fun w hw => hts0 w (List.mem_cons_of_mem _ hw)
  have hown : s.vm.findClass "java/lang/StringLatin1" = some m.cls := findClass_of_methodNamed B.named
  have hlocks := B.notSynchronized
  have hret := B.returns
  have hl : va_S (fun q => sz ≤ q) s.heap s.heap [] := va_S.rf
  rw [lg_entry_eq]
  have h0 := lv_entry [.ref (adV 0), .int x, .int 0, .int 9] (n := 6) (Nat.le_of_ble_eq_true rfl)
  generalize (lg_sl [.ref (adV 0), .int x, .int 0, .int 9] ++ List.replicate (6 - (lg_sl [.ref (adV 0), .int x, .int 0, .int 9]).length) Slot.unset).toArray = ls at *
  have C : CallFix p m c prog_19_method_23_code 6 s _ xTB "java/lang/StringLatin1" := ⟨B.exec, B.bytes, hml, hown, hts⟩
  have loop : ∀ (n k : Nat) (ls : Array Slot), k + n = 9 → (∀ j, j < k → ¬ (zByt.getD 0 []).getD j 0 = x) → lv_has ls 6 [(5, .int (Int32.ofNat k)), (4, .int x), (0, .ref (adV 0)), (1, .int x), (2, .int 0), (3, .int 9)] → W p l e (headSpec (Cond.code ⟨"java/lang/StringLatin1", "indexOfChar", "([BIII)I"⟩ prog_19_method_23_code 6 (some .int) :: xTB) (xRm (d + 1) 0 0)).room s m [.ref (adV 0), .int x, .int 0, .int 9].toArray below meth c s.heap [] 0 0 (MQ below (jtQc fun v => ∃ z : Int32, v = some (.int z) ∧ jtIn x z) [.ref (adV 0), .int x, .int 0, .int 9].toArray s 0 0 fun a => sz ≤ a) (F0 m 7 ls []) := by
    intro n
    induction n with
    | zero =>
      intro k ls hk hno h0
      have hk : k = 9 := by omega
      subst hk
      refine lv_iload B.exec B.bytes dj_ioc_7 (lv_at h0 0 rfl) ?_
      refine lv_iload_n B.exec B.bytes dj_ioc_9 rfl (lv_at h0 5 rfl) ?_
      refine lv_icmp_ge B.exec B.bytes dj_ioc_10 (tgt := 31) (by decide) (fun _ => ?_) (fun h => absurd (by decide) h)
      refine lv_iconst B.exec B.bytes dj_ioc_31 (v := -1) (by decide) ?_
      exact W.iret B.exec B.bytes hret (fun t ht _ => ⟨_, rfl, ⟨_, rfl, ⟨fun h => absurd h (by decide), fun h => by obtain ⟨j, hj, ej⟩ := jt_mem _ h; exact absurd ej (hno j hj)⟩⟩, ht⟩) (fun q hq => hl.2.2 q hq) dj_ioc_32
    | succ n ih =>
      intro k ls hk hno h0
      have hk9 : k < 9 := by omega
      have hkk : k = 0 ∨ k = 1 ∨ k = 2 ∨ k = 3 ∨ k = 4 ∨ k = 5 ∨ k = 6 ∨ k = 7 ∨ k = 8 := by omega
      refine lv_iload B.exec B.bytes dj_ioc_7 (lv_at h0 0 rfl) ?_
      refine lv_iload_n B.exec B.bytes dj_ioc_9 rfl (lv_at h0 5 rfl) ?_
      refine lv_icmp_ge B.exec B.bytes dj_ioc_10 (tgt := 31) (by decide) (fun h => absurd h (by rcases hkk with rfl | rfl | rfl | rfl | rfl | rfl | rfl | rfl | rfl <;> decide)) (fun _ => ?_)
      refine lv_aload_n B.exec B.bytes dj_ioc_13 rfl (lv_at h0 2 rfl) ?_
      refine lv_iload B.exec B.bytes dj_ioc_14 (lv_at h0 0 rfl) ?_
      refine va_tb B.exec B.bytes (hQ.2.2.1.1 0 (by decide)).2.2.2 hl (by show vp_in (Int32.ofNat k) 9; unfold vp_in; rcases hkk with rfl | rfl | rfl | rfl | rfl | rfl | rfl | rfl | rfl <;> decide) rfl dj_ioc_16 ?_
      refine lv_iload B.exec B.bytes dj_ioc_17 (lv_at h0 1 rfl) ?_
      refine lv_icmp_ne B.exec B.bytes dj_ioc_19 (tgt := 25) (by decide) (fun hne => ?_) (fun h => ?_)
      · have hno' : ∀ j, j < k + 1 → ¬ (zByt.getD 0 []).getD j 0 = x := by
          intro j hj
          by_cases e : j = k
          · subst e
            rcases hkk with rfl | rfl | rfl | rfl | rfl | rfl | rfl | rfl | rfl <;> exact hne
          · exact hno j (by omega)
        refine lv_iinc B.exec B.bytes dj_ioc_25 h0 (k := 0) rfl (v := Int32.ofNat (k + 1)) (by rcases hkk with rfl | rfl | rfl | rfl | rfl | rfl | rfl | rfl | rfl <;> decide) (by decide) rfl (fun ls' h' => ?_)
        refine lv_goto B.exec B.bytes dj_ioc_28 (tgt := 7) (by decide) ?_
        exact ih (k + 1) ls' (by omega) hno' h'
      · refine lv_iload B.exec B.bytes dj_ioc_22 (lv_at h0 0 rfl) ?_
        have hx := h
        refine W.iret B.exec B.bytes hret (fun t ht _ => ⟨_, rfl, ⟨_, rfl, ⟨fun _ => ?_, fun _ => ?_⟩⟩, ht⟩) (fun q hq => hl.2.2 q hq) dj_ioc_24
        rotate_left
        · rcases hkk with rfl | rfl | rfl | rfl | rfl | rfl | rfl | rfl | rfl <;> decide
        rw [← hx]
        rcases hkk with rfl | rfl | rfl | rfl | rfl | rfl | rfl | rfl | rfl <;> decide
  refine lv_iload_n B.exec B.bytes dj_ioc_0 rfl (lv_at h0 1 rfl) ?_
  refine lv_i2b B.exec B.bytes dj_ioc_1 (v := x) hb ?_
  refine lv_istore B.exec B.bytes dj_ioc_2 h0 (by decide) rfl (fun ls1 h1 => ?_)
  refine lv_iload_n B.exec B.bytes dj_ioc_4 rfl (lv_at h1 3 rfl) ?_
  refine lv_istore B.exec B.bytes dj_ioc_5 h1 (by decide) rfl (fun ls2 h2 => ?_)
  exact loop 9 0 ls2 rfl (fun j hj => by omega) h2
theorem dj_lio_0 : decode prog_19_method_22_code 0 = .ok (.iload_n 1, 1) := by decide +kernel
theorem dj_lio_1 : decode prog_19_method_22_code 1 = .ok (.invokestatic 88, 3) := by decide +kernel
theorem dj_lio_4 : decode prog_19_method_22_code 4 = .ok (.ifCond .ne 5, 3) := by decide +kernel
theorem dj_lio_9 : decode prog_19_method_22_code 9 = .ok (.iload_n 2, 1) := by decide +kernel
theorem dj_lio_10 : decode prog_19_method_22_code 10 = .ok (.iconst 0, 1) := by decide +kernel
theorem dj_lio_11 : decode prog_19_method_22_code 11 = .ok (.invokestatic 92, 3) := by decide +kernel
theorem dj_lio_14 : decode prog_19_method_22_code 14 = .ok (.istore_n 2, 1) := by decide +kernel
theorem dj_lio_15 : decode prog_19_method_22_code 15 = .ok (.iload_n 3, 1) := by decide +kernel
theorem dj_lio_16 : decode prog_19_method_22_code 16 = .ok (.aload_n 0, 1) := by decide +kernel
theorem dj_lio_17 : decode prog_19_method_22_code 17 = .ok (.arraylength, 1) := by decide +kernel
theorem dj_lio_18 : decode prog_19_method_22_code 18 = .ok (.invokestatic 38, 3) := by decide +kernel
theorem dj_lio_21 : decode prog_19_method_22_code 21 = .ok (.istore_n 3, 1) := by decide +kernel
theorem dj_lio_22 : decode prog_19_method_22_code 22 = .ok (.iload_n 2, 1) := by decide +kernel
theorem dj_lio_23 : decode prog_19_method_22_code 23 = .ok (.iload_n 3, 1) := by decide +kernel
theorem dj_lio_24 : decode prog_19_method_22_code 24 = .ok (.if_icmp .lt 5, 3) := by decide +kernel
theorem dj_lio_29 : decode prog_19_method_22_code 29 = .ok (.aload_n 0, 1) := by decide +kernel
theorem dj_lio_30 : decode prog_19_method_22_code 30 = .ok (.iload_n 1, 1) := by decide +kernel
theorem dj_lio_31 : decode prog_19_method_22_code 31 = .ok (.iload_n 2, 1) := by decide +kernel
theorem dj_lio_32 : decode prog_19_method_22_code 32 = .ok (.iload_n 3, 1) := by decide +kernel
theorem dj_lio_33 : decode prog_19_method_22_code 33 = .ok (.invokestatic 95, 3) := by decide +kernel
theorem dj_lio_36 : decode prog_19_method_22_code 36 = .ok (.ireturn, 1) := by decide +kernel
theorem js_lio {sz d : Nat} {adK adV : Nat → Nat} {x : Int32} (hD : 2 ≤ d) (hx0 : ¬ x < 0) (hx1 : ¬ x > 255) (hb : x.toInt8.toInt32 = x) : jtMet ⟨"java/lang/StringLatin1", "indexOf", "([BIII)I"⟩ prog_19_method_22_code 4 (some .int) d sz adK adV [.ref (adV 0), .int x, .int 0, .int 9] (fun v => ∃ z : Int32, v = some (.int z) ∧ jtIn x z) := by
  obtain ⟨d, rfl⟩ : ∃ d0, d = d0 + 1 := ⟨d - 1, by omega⟩
  intro l
  refine Met.ofW (cc := prog_19_method_22_code) (maxL := 4) (ret := (some .int)) rfl rfl ?_
  intro p e s m args below meth c s₁ B hml hpc
  obtain ⟨rfl, hQ⟩ := hpc
  have hts0 := atoms_spec (ws := .code ⟨"java/lang/StringLatin1", "indexOf", "([BIII)I"⟩ prog_19_method_22_code 4 (some .int) :: xTB) B.pre
  have hts : ∀ w ∈ xTB, w.before _ s = true := fun w hw => hts0 w (List.mem_cons_of_mem _ hw)
  have hown : s.vm.findClass "java/lang/StringLatin1" = some m.cls := findClass_of_methodNamed B.named
  have hlocks := B.notSynchronized
  have hret := B.returns
  have hl : va_S (fun q => sz ≤ q) s.heap s.heap [] := va_S.rf
  rw [lg_entry_eq]
  have h0 := lv_entry [.ref (adV 0), .int x, .int 0, .int 9] (n := 4) (Nat.le_of_ble_eq_true rfl)
  generalize (lg_sl [.ref (adV 0), .int x, .int 0, .int 9] ++ List.replicate (4 - (lg_sl [.ref (adV 0), .int x, .int 0, .int 9]).length) Slot.unset).toArray = ls at *
  have C : CallFix p m c prog_19_method_22_code 4 s _ xTB "java/lang/StringLatin1" := ⟨B.exec, B.bytes, hml, hown, hts⟩
  refine lv_iload_n B.exec B.bytes dj_lio_0 rfl (lv_at h0 1 rfl) ?_
  refine jt_callS (As := [.int x]) (rest := []) (np := 1) C hQ hl (js_can (by omega) hx0 hx1) wd_711 wd_126 (by decide) (by decide) wd_709 wd_710 (Nat.le_refl _) (Nat.le_refl _) ⟨Nat.zero_le _, Nat.zero_le _⟩ h0.1 rfl rfl (Nat.le_of_ble_eq_true rfl) dj_lio_1 (fun v locs hP hl => ?_)
  subst hP
  refine lv_if_ne B.exec B.bytes dj_lio_4 (tgt := 9) (by decide) (fun _ => ?_) (fun h => absurd h (by decide))
  refine lv_iload_n B.exec B.bytes dj_lio_9 rfl (lv_at h0 2 rfl) ?_
  refine lv_iconst B.exec B.bytes dj_lio_10 (v := 0) (by decide) ?_
  refine va_mmax B.exec B.bytes (by rw [hml]; exact h0.1.symm) hown (hts _ wd_712) (hts _ wd_713) (hts _ wd_129) (hts _ wd_714) (by show 1 ≤ d + 1; omega) (by show _ ≤ 64 * (d + 1); simp; omega) (Nat.zero_le _) (Nat.zero_le _) dj_lio_11 ?_
  refine lv_istore_n B.exec B.bytes dj_lio_14 rfl h0 (by decide) rfl (fun ls1 h1 => ?_)
  replace h1 : lv_has ls1 4 [(2, .int 0), (0, .ref (adV 0)), (1, .int x), (3, .int 9)] := h1
  clear h0
  have h0 := h1
  refine lv_iload_n B.exec B.bytes dj_lio_15 rfl (lv_at h0 3 rfl) ?_
  refine lv_aload_n B.exec B.bytes dj_lio_16 rfl (lv_at h0 1 rfl) ?_
  refine va_tlen B.exec B.bytes (hQ.2.2.1.1 0 (by decide)).2.2.2 hl (v := 9) rfl dj_lio_17 ?_
  refine va_mmin B.exec B.bytes (by rw [hml]; exact h0.1.symm) hown (hts _ wd_715) (hts _ wd_716) (hts _ wd_129) (hts _ wd_717) (by show 1 ≤ d + 1; omega) (by show _ ≤ 64 * (d + 1); simp; omega) (Nat.zero_le _) (Nat.zero_le _) dj_lio_18 ?_
  refine lv_istore_n B.exec B.bytes dj_lio_21 rfl h0 (by decide) rfl (fun ls2 h2 => ?_)
  replace h2 : lv_has ls2 4 [(3, .int 9), (2, .int 0), (0, .ref (adV 0)), (1, .int x)] := h2
  clear h0
  have h0 := h2
  refine lv_iload_n B.exec B.bytes dj_lio_22 rfl (lv_at h0 1 rfl) ?_
  refine lv_iload_n B.exec B.bytes dj_lio_23 rfl (lv_at h0 0 rfl) ?_
  refine lv_icmp_lt B.exec B.bytes dj_lio_24 (tgt := 29) (by decide) (fun _ => ?_) (fun h => absurd (by decide) h)
  refine lv_aload_n B.exec B.bytes dj_lio_29 rfl (lv_at h0 2 rfl) ?_
  refine lv_iload_n B.exec B.bytes dj_lio_30 rfl (lv_at h0 3 rfl) ?_
  refine lv_iload_n B.exec B.bytes dj_lio_31 rfl (lv_at h0 1 rfl) ?_
  refine lv_iload_n B.exec B.bytes dj_lio_32 rfl (lv_at h0 0 rfl) ?_
  refine jt_callS (As := [.ref (adV 0), .int x, .int 0, .int 9]) (rest := []) (np := 4) C hQ hl (js_ioc (by omega) hb) wd_720 wd_126 (by decide) (by decide) wd_718 wd_719 (Nat.le_refl _) (Nat.le_refl _) ⟨Nat.zero_le _, Nat.zero_le _⟩ h0.1 rfl rfl (Nat.le_of_ble_eq_true rfl) dj_lio_33 (fun v locs hP hl => ?_)
  obtain ⟨z, rfl, hz⟩ := hP
  exact W.iret B.exec B.bytes hret (fun t ht _ => ⟨_, rfl, ⟨_, rfl, hz⟩, ht⟩) (fun q hq => hl.2.2 q hq) dj_lio_36
theorem dj_sii_0 : decode prog_18_method_80_code 0 = .ok (.aload_n 0, 1) := by decide +kernel
theorem dj_sii_1 : decode prog_18_method_80_code 1 = .ok (.invokevirtual 492, 3) := by decide +kernel
theorem dj_sii_4 : decode prog_18_method_80_code 4 = .ok (.ifCond .eq 19, 3) := by decide +kernel
theorem dj_sii_7 : decode prog_18_method_80_code 7 = .ok (.aload_n 0, 1) := by decide +kernel
theorem dj_sii_8 : decode prog_18_method_80_code 8 = .ok (.getfield 9, 3) := by decide +kernel
theorem dj_sii_11 : decode prog_18_method_80_code 11 = .ok (.iload_n 1, 1) := by decide +kernel
theorem dj_sii_12 : decode prog_18_method_80_code 12 = .ok (.iload_n 2, 1) := by decide +kernel
theorem dj_sii_13 : decode prog_18_method_80_code 13 = .ok (.aload_n 0, 1) := by decide +kernel
theorem dj_sii_14 : decode prog_18_method_80_code 14 = .ok (.invokevirtual 505, 3) := by decide +kernel
theorem dj_sii_17 : decode prog_18_method_80_code 17 = .ok (.invokestatic 637, 3) := by decide +kernel
theorem dj_sii_20 : decode prog_18_method_80_code 20 = .ok (.goto 16, 3) := by decide +kernel
theorem dj_sii_36 : decode prog_18_method_80_code 36 = .ok (.ireturn, 1) := by decide +kernel
theorem js_sii {sz d : Nat} {adK adV : Nat → Nat} {x : Int32} (hD : 3 ≤ d) (hx0 : ¬ x < 0) (hx1 : ¬ x > 255) (hb : x.toInt8.toInt32 = x) : jtMet ⟨"java/lang/String", "indexOf", "(II)I"⟩ prog_18_method_80_code 3 (some .int) d sz adK adV [.ref (adK 0), .int x, .int 0] (fun v => ∃ z : Int32, v = some (.int z) ∧ jtIn x z) := by
  obtain ⟨d, rfl⟩ : ∃ d0, d = d0 + 1 := ⟨d - 1, by omega⟩
  intro l
  refine Met.ofW (cc := prog_18_method_80_code) (maxL := 3) (ret := (some .int)) rfl rfl ?_
  intro p e s m args below meth c s₁ B hml hpc
  obtain ⟨rfl, hQ⟩ := hpc
  have hts0 := atoms_spec (ws := .code ⟨"java/lang/String", "indexOf", "(II)I"⟩ prog_18_method_80_code 3 (some .int) :: xTB) B.pre
  have hts : ∀ w ∈ xTB, w.before _ s = true := fun w hw => hts0 w (List.mem_cons_of_mem _ hw)
  have hown : s.vm.findClass "java/lang/String" = some m.cls := findClass_of_methodNamed B.named
  have hlocks := B.notSynchronized
  have hret := B.returns
  have hl : va_S (fun q => sz ≤ q) s.heap s.heap [] := va_S.rf
  rw [lg_entry_eq]
  have h0 := lv_entry [.ref (adK 0), .int x, .int 0] (n := 3) (Nat.le_of_ble_eq_true rfl)
  generalize (lg_sl [.ref (adK 0), .int x, .int 0] ++ List.replicate (3 - (lg_sl [.ref (adK 0), .int x, .int 0]).length) Slot.unset).toArray = ls at *
  have C : CallFix p m c prog_18_method_80_code 3 s _ xTB "java/lang/String" := ⟨B.exec, B.bytes, hml, hown, hts⟩
  refine lv_aload_n B.exec B.bytes dj_sii_0 rfl (lv_at h0 0 rfl) ?_
  refine jt_callV (i := 0) (As := []) (rest := []) (np := 0) C hQ hl (by decide) (js_isl (by omega) (by decide)) wd_656 wd_125 (by decide) (by decide) rfl wd_653 wd_654 wd_655 (Nat.le_refl _) (Nat.le_refl _) ⟨Nat.zero_le _, Nat.zero_le _⟩ h0.1 rfl rfl (Nat.le_of_ble_eq_true rfl) dj_sii_1 (fun v locs hP hl => ?_)
  subst hP
  refine lv_if_eq B.exec B.bytes dj_sii_4 (tgt := 23) (by decide) (fun h => absurd h (by decide)) (fun _ => ?_)
  refine lv_aload_n B.exec B.bytes dj_sii_7 rfl (lv_at h0 0 rfl) ?_
  refine vk_getf B.exec B.bytes (hQ.2.2.1.1 0 (by decide)).2.2.1 hl hown (hts _ wd_1918) (fun _ h => h) dj_sii_8 ?_
  refine lv_iload_n B.exec B.bytes dj_sii_11 rfl (lv_at h0 1 rfl) ?_
  refine lv_iload_n B.exec B.bytes dj_sii_12 rfl (lv_at h0 2 rfl) ?_
  refine lv_aload_n B.exec B.bytes dj_sii_13 rfl (lv_at h0 0 rfl) ?_
  refine jt_callV (i := 0) (As := []) (rest := [.int 0, .int x, .ref (adV 0)]) (np := 0) C hQ hl (by decide) (js_len (by omega)) wd_701 wd_125 (by decide) (by decide) rfl wd_698 wd_699 wd_700 (Nat.le_refl _) (Nat.le_refl _) ⟨Nat.zero_le _, Nat.zero_le _⟩ h0.1 rfl rfl (Nat.le_of_ble_eq_true rfl) dj_sii_14 (fun v locs hP hl => ?_)
  subst hP
  refine jt_callS (As := [.ref (adV 0), .int x, .int 0, .int 9]) (rest := []) (np := 4) C hQ hl (js_lio (by omega) hx0 hx1 hb) wd_708 wd_126 (by decide) (by decide) wd_706 wd_707 (Nat.le_refl _) (Nat.le_refl _) ⟨Nat.zero_le _, Nat.zero_le _⟩ h0.1 rfl rfl (Nat.le_of_ble_eq_true rfl) dj_sii_17 (fun v locs hP hl => ?_)
  obtain ⟨z, rfl, hz⟩ := hP
  refine lv_goto B.exec B.bytes dj_sii_20 (tgt := 36) (by decide) ?_
  exact W.iret B.exec B.bytes hret (fun t ht _ => ⟨_, rfl, ⟨_, rfl, hz⟩, ht⟩) (fun q hq => hl.2.2 q hq) dj_sii_36
theorem dj_sio_0 : decode prog_18_method_79_code 0 = .ok (.aload_n 0, 1) := by decide +kernel
theorem dj_sio_1 : decode prog_18_method_79_code 1 = .ok (.iload_n 1, 1) := by decide +kernel
theorem dj_sio_2 : decode prog_18_method_79_code 2 = .ok (.iconst 0, 1) := by decide +kernel
theorem dj_sio_3 : decode prog_18_method_79_code 3 = .ok (.invokevirtual 633, 3) := by decide +kernel
theorem dj_sio_6 : decode prog_18_method_79_code 6 = .ok (.ireturn, 1) := by decide +kernel
theorem js_sio {sz d : Nat} {adK adV : Nat → Nat} {x : Int32} (hD : 4 ≤ d) (hx0 : ¬ x < 0) (hx1 : ¬ x > 255) (hb : x.toInt8.toInt32 = x) : jtMet ⟨"java/lang/String", "indexOf", "(I)I"⟩ prog_18_method_79_code 2 (some .int) d sz adK adV [.ref (adK 0), .int x] (fun v => ∃ z : Int32, v = some (.int z) ∧ jtIn x z) := by
  obtain ⟨d, rfl⟩ : ∃ d0, d = d0 + 1 := ⟨d - 1, by omega⟩
  intro l
  refine Met.ofW (cc := prog_18_method_79_code) (maxL := 2) (ret := (some .int)) rfl rfl ?_
  intro p e s m args below meth c s₁ B hml hpc
  obtain ⟨rfl, hQ⟩ := hpc
  have hts0 := atoms_spec (ws := .code ⟨"java/lang/String", "indexOf", "(I)I"⟩ prog_18_method_79_code 2 (some .int) :: xTB) B.pre
  have hts : ∀ w ∈ xTB, w.before _ s = true := fun w hw => hts0 w (List.mem_cons_of_mem _ hw)
  have hown : s.vm.findClass "java/lang/String" = some m.cls := findClass_of_methodNamed B.named
  have hlocks := B.notSynchronized
  have hret := B.returns
  have hl : va_S (fun q => sz ≤ q) s.heap s.heap [] := va_S.rf
  rw [lg_entry_eq]
  have h0 := lv_entry [.ref (adK 0), .int x] (n := 2) (Nat.le_of_ble_eq_true rfl)
  generalize (lg_sl [.ref (adK 0), .int x] ++ List.replicate (2 - (lg_sl [.ref (adK 0), .int x]).length) Slot.unset).toArray = ls at *
  have C : CallFix p m c prog_18_method_79_code 2 s _ xTB "java/lang/String" := ⟨B.exec, B.bytes, hml, hown, hts⟩
  refine lv_aload_n B.exec B.bytes dj_sio_0 rfl (lv_at h0 0 rfl) ?_
  refine lv_iload_n B.exec B.bytes dj_sio_1 rfl (lv_at h0 1 rfl) ?_
  refine lv_iconst B.exec B.bytes dj_sio_2 (v := 0) (by decide) ?_
  refine jt_callV (i := 0) (As := [.int x, .int 0]) (rest := []) (np := 2) C hQ hl (by decide) (js_sii (by omega) hx0 hx1 hb) wd_697 wd_125 (by decide) (by decide) rfl wd_694 wd_695 wd_696 (Nat.le_refl _) (Nat.le_refl _) ⟨Nat.zero_le _, Nat.zero_le _⟩ h0.1 rfl rfl (Nat.le_of_ble_eq_true rfl) dj_sio_3 (fun v locs hP hl => ?_)
  obtain ⟨z, rfl, hz⟩ := hP
  exact W.iret B.exec B.bytes hret (fun t ht _ => ⟨_, rfl, ⟨_, rfl, hz⟩, ht⟩) (fun q hq => hl.2.2 q hq) dj_sio_6
theorem jt_w1 : ∀ k, k < 168 → xW1[k]? = some (jtch k) := by decide +kernel
/-- a text's indexOf of a local's char -/
def z_ixof (n : Nat) : zF := fun K L S I B => match (L[3]? : Option (Option zV)) with
  | some (some (.inl x)) => S = [] ∧ (0 ≤ x.toInt ∧ x.toInt ≤ 127) ∧ ∀ z : Int32, jtIn x z → K n L [.inl z] I B
  | _ => False
theorem jt_small : ∀ k : Nat, k < 128 → ((Int32.ofNat k).toUInt32 % 65536).toInt32 = Int32.ofNat k ∧ (Int32.ofNat k).toInt8.toInt32 = Int32.ofNat k ∧ ¬ Int32.ofNat k < 0 ∧ ¬ Int32.ofNat k > 255 := by decide +kernel
theorem jt_sm {x : Int32} (h0 : 0 ≤ x.toInt) (h1 : x.toInt ≤ 127) : (x.toUInt32 % 65536).toInt32 = x ∧ x.toInt8.toInt32 = x ∧ ¬ x < 0 ∧ ¬ x > 255 := by
  have e : x = Int32.ofNat x.toInt.toNat := by
    apply Int32.toInt_inj.mp
    rw [Int32.toInt_ofNat_of_lt (by omega)]
    omega
  rw [e]
  exact jt_small _ (by omega)
section QZ
variable {g : zG} {PX : xPX} {bd : Nat → Nat × Nat} {pre : zPre} {post : zPost} {d : Nat × Nat × Nat} {cc : ByteArray} {pc : Nat}
theorem zRL_int {sz N nL : Nat} {L : zL} {ls : Array Slot} {i : Nat} {x : Int32} (hL : zRL sz N L ls nL) (h : L[i]? = some (some (.inl x))) : ls[i]? = some (.val (.int x)) := by
  obtain ⟨-, lv, h1, h2⟩ := hL
  obtain ⟨u, h3, h4⟩ := h2 i _ h
  cases h4
  exact h1.2.2 _ h3
theorem zs_ixof (hd4 : 4 ≤ d.1) (h1 : decode cc pc = .ok (.ldc 39, 2)) (h2 : decode cc (pc + 2) = .ok (.iload_n 3, 1)) (h3 : decode cc (pc + 3) = .ok (.i2c, 1)) (h4 : decode cc (pc + 4) = .ok (.invokevirtual 41, 3)) : zSound g PX bd pre post d cc "CapitalCase$Tokens" pc (z_ixof (pc + 7)) := by
  intro K L S I B h hc p l e R s m args below meth c Q nL D tys sz sc TT hT C1 hf hlo kk N ls st H locs μ hM hL hS hB1 hB2 hτ
  unfold z_ixof at h
  split at h
  · rename_i x hx
    obtain ⟨rfl, ⟨hx0, hx1⟩, hK⟩ := h
    obtain ⟨adK, adV, hq⟩ := id hM.2.2.2.2
    have hQ : jtS sz adK adV s := hq
    obtain ⟨q1, q2, q3, q4⟩ := jt_sm hx0 hx1
    cases hS
    obtain ⟨hlo1, hlo2, hlo3⟩ := hlo
    refine va_ldcS C1.1 C1.2.1 C1.2.2.2.1 hQ.1 h1 ?_
    refine lv_iload_n C1.1 C1.2.1 h2 rfl (zRL_int hL hx) ?_
    refine lv_i2c C1.1 C1.2.1 h3 (v := x) q1 ?_
    refine jt_callV (i := 0) (As := [.int x]) (rest := []) (np := 1) (d := d.1) ⟨C1.1, C1.2.1, C1.2.2.1, C1.2.2.2.1, C1.2.2.2.2.1⟩ hQ hM.2.2.1 (by decide) (js_sio hd4 q3 q4 q2) wd_693 wd_125 (by decide) (by decide) rfl wd_690 wd_691 wd_692 hf (by omega) ⟨hB1, hB2⟩ (by obtain ⟨-, lv, w, -⟩ := hL; exact w.1) rfl rfl (by decide) h4 (fun v locs' hP hl' => ?_)
    obtain ⟨z, rfl, hz⟩ := hP
    exact kk _ _ _ _ _ (hK z hz) N ls _ _ _ _ ⟨hM.1, hM.2.1, hl', hM.2.2.2.1, hM.2.2.2.2⟩ hL ⟨_, _, rfl, rfl, rfl⟩ hB1 hB2 (hT _ _ hτ (est h1 (Or.inr (Or.inl ⟨rfl, _, z, hx, rfl, hz, rfl⟩))))
  · exact h.elim
/-- the char at i * 8 + k of the words -/
def z_chat (n : Nat) : zF := fun K L S I B => match (L[0]? : Option (Option zV)), (L[4]? : Option (Option zV)) with
  | some (some (.inl x)), some (some (.inl y)) => S = [] ∧ (0 ≤ x.toInt ∧ x.toInt ≤ 20) ∧ (0 ≤ y.toInt ∧ y.toInt ≤ 7) ∧ ∀ z : Int32, K n L [.inl z] I B
  | _, _ => False
theorem zs_chat (hd4 : 4 ≤ d.1) (h1 : decode cc pc = .ok (.ldc 51, 2)) (h2 : decode cc (pc + 2) = .ok (.iload_n 0, 1)) (h3 : decode cc (pc + 3) = .ok (.bipush 8, 2)) (h4 : decode cc (pc + 5) = .ok (.imul, 1)) (h5 : decode cc (pc + 6) = .ok (.iload 4, 2)) (h6 : decode cc (pc + 8) = .ok (.iadd, 1)) (h7 : decode cc (pc + 9) = .ok (.invokevirtual 53, 3)) : zSound g PX bd pre post d cc "CapitalCase$Tokens" pc (z_chat (pc + 12)) := by
  intro K L S I B h hc p l e R s m args below meth c Q nL D tys sz sc TT hT C1 hf hlo kk N ls st H locs μ hM hL hS hB1 hB2 hτ
  unfold z_chat at h
  split at h
  · rename_i x y hx hy
    obtain ⟨rfl, ⟨hx0, hx1⟩, ⟨hy0, hy1⟩, hK⟩ := h
    obtain ⟨adK, adV, hq⟩ := id hM.2.2.2.2
    have hQ : jtS sz adK adV s := hq
    cases hS
    obtain ⟨hlo1, hlo2, hlo3⟩ := hlo
    have e8 : (8 : Int32).toInt = 8 := by decide
    have em : (x * 8).toInt = x.toInt * 8 := by
      rw [Int32.toInt_mul, e8]
      exact an_bm (by omega) (by omega)
    have ea : (x * 8 + y).toInt = x.toInt * 8 + y.toInt := by
      rw [Int32.toInt_add, em]
      exact an_bm (by omega) (by omega)
    refine va_ldcS C1.1 C1.2.1 C1.2.2.2.1 hQ.2.1 h1 ?_
    refine lv_iload_n C1.1 C1.2.1 h2 rfl (zRL_int hL hx) ?_
    refine lv_bipush C1.1 C1.2.1 h3 (v := 8) (by decide) ?_
    refine lv_imul C1.1 C1.2.1 h4 ?_
    refine lv_iload C1.1 C1.2.1 h5 (zRL_int hL hy) ?_
    refine lv_iadd C1.1 C1.2.1 h6 ?_
    refine jt_callV (i := 1) (As := [.int (x * 8 + y)]) (rest := []) (np := 1) (d := d.1) ⟨C1.1, C1.2.1, C1.2.2.1, C1.2.2.2.1, C1.2.2.2.2.1⟩ hQ hM.2.2.1 (by decide) (js_sca hd4 (by omega) (by omega)) wd_652 wd_125 (by decide) (by decide) rfl wd_649 wd_650 wd_651 hf (by omega) ⟨hB1, hB2⟩ (by obtain ⟨-, lv, w, -⟩ := hL; exact w.1) rfl rfl (by decide) h7 (fun v locs' hP hl' => ?_)
    obtain ⟨z, rfl, hz⟩ := hP
    have hzw : xW1[(x.toInt * 8 + y.toInt).toNat]? = some z := by
      rw [hz, show (x * 8 + y).toNatClampNeg = (x.toInt * 8 + y.toInt).toNat by show (x * 8 + y).toInt.toNat = _; rw [ea]]
      exact jt_w1 _ (by omega)
    exact kk _ _ _ _ _ (hK z) N ls _ _ _ _ ⟨hM.1, hM.2.1, hl', hM.2.2.2.1, hM.2.2.2.2⟩ hL ⟨_, _, rfl, rfl, rfl⟩ hB1 hB2 (hT _ _ hτ (est h1 (Or.inr (Or.inr ⟨rfl, _, _, z, hx, hy, rfl, hzw, rfl⟩))))
  · exact h.elim
end QZ
