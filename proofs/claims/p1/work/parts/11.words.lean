/-! ===== THE PROGRAM: words of the tables by their places, the methods by number ===== -/
noncomputable def bn {α : Type} (k : Nat) (a b : Nat → Option α) : Nat → Option α := fun pc => xif (Nat.ble (Nat.succ pc) k) (a pc) (b pc)
noncomputable def bl {α : Type} (k : Nat) (v : α) : Nat → Option α := fun pc => xif (Nat.beq pc k) (some v) none
theorem xB_n {α : Type} {P : Nat → α → Prop} {k : Nat} {a b : Nat → Option α} (ha : ∀ pc f, a pc = some f → P pc f) (hb : ∀ pc f, b pc = some f → P pc f) : ∀ pc f, bn k a b pc = some f → P pc f := by
  intro pc f h
  unfold bn at h
  cases hc : Nat.ble (Nat.succ pc) k with
  | true => rw [hc] at h; exact ha pc f h
  | false => rw [hc] at h; exact hb pc f h
theorem xB_l {α : Type} {P : Nat → α → Prop} {k : Nat} {v : α} (h0 : P k v) : ∀ pc f, bl k v pc = some f → P pc f := by
  intro pc f h
  unfold bl at h
  cases hc : Nat.beq pc k with
  | true =>
    rw [hc] at h
    have e := Nat.eq_of_beq_eq_true hc
    cases h
    rw [e]
    exact h0
  | false => rw [hc] at h; cases h
theorem xT_n {PX : xPX} {G : State → Nat → Nat → Prop} {cc : ByteArray} {own : String} {ini : Bool} {k : Nat} {a b : Nat → Option xF} (ha : xTree PX G cc own ini a) (hb : xTree PX G cc own ini b) : xTree PX G cc own ini (bn k a b) := xB_n ha hb
theorem xT_l {PX : xPX} {G : State → Nat → Nat → Prop} {cc : ByteArray} {own : String} {ini : Bool} {k : Nat} {f : xF} (h : xSound PX G cc own ini k f) : xTree PX G cc own ini (bl k f) := xB_l h
theorem xR_n {cc : ByteArray} {ret : Option FieldType} : ∀ q ∈ ([] : List (Nat × Nat)), xretok cc ret q.1 q.2 := fun _ h => absurd h List.not_mem_nil
theorem xR_c {cc : ByteArray} {ret : Option FieldType} {pc k : Nat} {l : List (Nat × Nat)} (h : xretok cc ret pc k) (hl : ∀ q ∈ l, xretok cc ret q.1 q.2) : ∀ q ∈ ((pc, k) :: l), xretok cc ret q.1 q.2 := by
  intro q hq
  rcases List.mem_cons.mp hq with rfl | hq
  · exact h
  · exact hl q hq
theorem xrt_ok {cc : ByteArray} {ret : Option FieldType} : ∀ {l : List (Nat × Nat)}, (∀ q ∈ l, xretok cc ret q.1 q.2) → ∀ pc, ¬ xrt l pc = 0 → xretok cc ret pc (xrt l pc)
  | [], _, pc, h => absurd rfl h
  | q :: l, hl, pc, h => by
    have e : xrt (q :: l) pc = bif Nat.beq q.1 pc then q.2 else xrt l pc := rfl
    rw [e] at h ⊢
    cases hc : Nat.beq q.1 pc with
    | true =>
      have e2 := Nat.eq_of_beq_eq_true hc
      rw [← e2]
      exact hl q List.mem_cons_self
    | false =>
      rw [hc] at h
      exact xrt_ok (fun q hq => hl q (List.mem_cons_of_mem _ hq)) pc h
theorem xTsw {pc : Nat} {offs : Array Int} {ts : List Nat} (hl : offs.size = ts.length) (h : (List.range ts.length).all (fun i => decide ((pc : Int) + offs.getD i 0 = ((ts.getD i 0 : Nat) : Int))) = true) : ∀ (i t : Nat), xget ts i = some t → ∃ off, offs[i]? = some off ∧ (pc : Int) + off = (t : Int) := by
  intro i t hi
  rw [xget_eq] at hi
  have hlt : i < ts.length := (List.getElem?_eq_some_iff.mp hi).1
  have h2 := List.all_eq_true.mp h i (List.mem_range.mpr hlt)
  have hlt2 : i < offs.size := by omega
  refine ⟨offs[i], Array.getElem?_eq_getElem hlt2, ?_⟩
  have e1 : offs.getD i 0 = offs[i] := by simp [Array.getD, hlt2]
  have e2 : ts.getD i 0 = t := by simp [List.getD, hi]
  rw [e1, e2] at h2
  exact of_decide_eq_true h2
set_option maxRecDepth 100000 in
theorem wd_0 : Cond.selects "CapitalCase$Script" ⟨"CapitalCase$Script", "layDown", "(III)V"⟩ ⟨"CapitalCase$Script", "layDown", "(III)V"⟩ ∈ xTB := xw 0 (by decide +kernel) (by decide +kernel)
set_option maxRecDepth 100000 in
theorem wd_1 : Cond.selects "CapitalCase" ⟨"CapitalCase", "append", "(I)V"⟩ ⟨"CapitalCase", "append", "(I)V"⟩ ∈ xTB := xw 1 (by decide +kernel) (by decide +kernel)
set_option maxRecDepth 100000 in
theorem wd_2 : Cond.selects "CapitalCase$Parser" ⟨"CapitalCase$Parser", "next", "()I"⟩ ⟨"CapitalCase$Parser", "next", "()I"⟩ ∈ xTB := xw 2 (by decide +kernel) (by decide +kernel)
set_option maxRecDepth 100000 in
theorem wd_18 : Cond.selects "CapitalCase" ⟨"CapitalCase", "beginAnew", "()V"⟩ ⟨"CapitalCase", "beginAnew", "()V"⟩ ∈ xTB := xw 18 (by decide +kernel) (by decide +kernel)
set_option maxRecDepth 100000 in
theorem wd_19 : Cond.selects "CapitalCase" ⟨"CapitalCase", "isCell", "(II)Z"⟩ ⟨"CapitalCase", "isCell", "(II)Z"⟩ ∈ xTB := xw 19 (by decide +kernel) (by decide +kernel)
set_option maxRecDepth 100000 in
theorem wd_20 : Cond.selects "CapitalCase" ⟨"CapitalCase", "isHouse", "(I)Z"⟩ ⟨"CapitalCase", "isHouse", "(I)Z"⟩ ∈ xTB := xw 20 (by decide +kernel) (by decide +kernel)
set_option maxRecDepth 100000 in
theorem wd_23 : Cond.selects "CapitalCase" ⟨"CapitalCase", "isVerse", "(I)Z"⟩ ⟨"CapitalCase", "isVerse", "(I)Z"⟩ ∈ xTB := xw 23 (by decide +kernel) (by decide +kernel)
set_option maxRecDepth 100000 in
theorem wd_31 : Cond.selects "CapitalCase$Press" ⟨"CapitalCase$Press", "steal", "(LCapitalCase$Town;I)V"⟩ ⟨"CapitalCase$Press", "steal", "(LCapitalCase$Town;I)V"⟩ ∈ xTB := xw 31 (by decide +kernel) (by decide +kernel)
set_option maxRecDepth 100000 in
theorem wd_32 : Cond.selects "CapitalCase$Planner" ⟨"CapitalCase$Planner", "search", "()V"⟩ ⟨"CapitalCase$Planner", "search", "()V"⟩ ∈ xTB := xw 32 (by decide +kernel) (by decide +kernel)
set_option maxRecDepth 100000 in
theorem wd_33 : Cond.selects "CapitalCase$Planner" ⟨"CapitalCase$Planner", "keepIfMore", "(II)V"⟩ ⟨"CapitalCase$Planner", "keepIfMore", "(II)V"⟩ ∈ xTB := xw 33 (by decide +kernel) (by decide +kernel)
set_option maxRecDepth 100000 in
theorem wd_34 : Cond.selects "CapitalCase$TwoDays" ⟨"CapitalCase$TwoDays", "total", "([II)I"⟩ ⟨"CapitalCase$TwoDays", "total", "([II)I"⟩ ∈ xTB := xw 34 (by decide +kernel) (by decide +kernel)
set_option maxRecDepth 100000 in
theorem wd_35 : Cond.selects "CapitalCase$TwoDays" ⟨"CapitalCase$TwoDays", "takeAll", "(I)Z"⟩ ⟨"CapitalCase$TwoDays", "takeAll", "(I)Z"⟩ ∈ xTB := xw 35 (by decide +kernel) (by decide +kernel)
set_option maxRecDepth 100000 in
theorem wd_36 : Cond.selects "CapitalCase$TwoDays" ⟨"CapitalCase$TwoDays", "giveUpAll", "(I)V"⟩ ⟨"CapitalCase$TwoDays", "giveUpAll", "(I)V"⟩ ∈ xTB := xw 36 (by decide +kernel) (by decide +kernel)
set_option maxRecDepth 100000 in
theorem wd_37 : Cond.selects "CapitalCase$TwoDays" ⟨"CapitalCase$TwoDays", "passFirst", "(LCapitalCase$Town;I)V"⟩ ⟨"CapitalCase$TwoDays", "passFirst", "(LCapitalCase$Town;I)V"⟩ ∈ xTB := xw 37 (by decide +kernel) (by decide +kernel)
set_option maxRecDepth 100000 in
theorem wd_42 : Cond.selects "CapitalCase" ⟨"CapitalCase", "heldSlots", "()I"⟩ ⟨"CapitalCase", "heldSlots", "()I"⟩ ∈ xTB := xw 42 (by decide +kernel) (by decide +kernel)
set_option maxRecDepth 100000 in
theorem wd_43 : Cond.selects "CapitalCase" ⟨"CapitalCase", "settable", "()I"⟩ ⟨"CapitalCase", "settable", "()I"⟩ ∈ xTB := xw 43 (by decide +kernel) (by decide +kernel)
set_option maxRecDepth 100000 in
theorem wd_44 : Cond.selects "CapitalCaseModel" ⟨"CapitalCaseModel", "plain", "(I)V"⟩ ⟨"CapitalCaseModel", "plain", "(I)V"⟩ ∈ xTB := xw 44 (by decide +kernel) (by decide +kernel)
set_option maxRecDepth 100000 in
theorem wd_45 : Cond.selects "CapitalCaseModel" ⟨"CapitalCaseModel", "begins", "()V"⟩ ⟨"CapitalCaseModel", "begins", "()V"⟩ ∈ xTB := xw 45 (by decide +kernel) (by decide +kernel)
set_option maxRecDepth 100000 in
theorem wd_46 : Cond.selects "CapitalCaseModel" ⟨"CapitalCaseModel", "keepsRow", "()V"⟩ ⟨"CapitalCaseModel", "keepsRow", "()V"⟩ ∈ xTB := xw 46 (by decide +kernel) (by decide +kernel)
set_option maxRecDepth 100000 in
theorem wd_47 : Cond.selects "CapitalCaseModel" ⟨"CapitalCaseModel", "put", "(I)V"⟩ ⟨"CapitalCaseModel", "put", "(I)V"⟩ ∈ xTB := xw 47 (by decide +kernel) (by decide +kernel)
set_option maxRecDepth 100000 in
theorem wd_48 : Cond.selects "CapitalCaseModel" ⟨"CapitalCaseModel", "cut", "()V"⟩ ⟨"CapitalCaseModel", "cut", "()V"⟩ ∈ xTB := xw 48 (by decide +kernel) (by decide +kernel)
set_option maxRecDepth 100000 in
theorem wd_49 : Cond.selects "CapitalCaseModel" ⟨"CapitalCaseModel", "byteAt", "(I)I"⟩ ⟨"CapitalCaseModel", "byteAt", "(I)I"⟩ ∈ xTB := xw 49 (by decide +kernel) (by decide +kernel)
set_option maxRecDepth 100000 in
theorem wd_50 : Cond.selects "CapitalCaseModel" ⟨"CapitalCaseModel", "token", "(IIIJ)V"⟩ ⟨"CapitalCaseModel", "token", "(IIIJ)V"⟩ ∈ xTB := xw 50 (by decide +kernel) (by decide +kernel)
set_option maxRecDepth 100000 in
theorem wd_52 : Cond.selects "CapitalCaseModel" ⟨"CapitalCaseModel", "is", "(I)Z"⟩ ⟨"CapitalCaseModel", "is", "(I)Z"⟩ ∈ xTB := xw 52 (by decide +kernel) (by decide +kernel)
set_option maxRecDepth 100000 in
theorem wd_72 : Cond.selects "CapitalCaseModel" ⟨"CapitalCaseModel", "isHouse", "(I)Z"⟩ ⟨"CapitalCaseModel", "isHouse", "(I)Z"⟩ ∈ xTB := xw 72 (by decide +kernel) (by decide +kernel)
set_option maxRecDepth 100000 in
theorem wd_73 : Cond.selects "CapitalCaseModel" ⟨"CapitalCaseModel", "copies", "()V"⟩ ⟨"CapitalCaseModel", "copies", "()V"⟩ ∈ xTB := xw 73 (by decide +kernel) (by decide +kernel)
set_option maxRecDepth 100000 in
theorem wd_82 : Cond.selects "CapitalCaseModel" ⟨"CapitalCaseModel", "isVerse", "(I)Z"⟩ ⟨"CapitalCaseModel", "isVerse", "(I)Z"⟩ ∈ xTB := xw 82 (by decide +kernel) (by decide +kernel)
set_option maxRecDepth 100000 in
theorem wd_91 : Cond.selects "CapitalCaseModel" ⟨"CapitalCaseModel", "records", "()V"⟩ ⟨"CapitalCaseModel", "records", "()V"⟩ ∈ xTB := xw 91 (by decide +kernel) (by decide +kernel)
set_option maxRecDepth 100000 in
theorem wd_92 : Cond.selects "CapitalCaseModel" ⟨"CapitalCaseModel", "areTwo", "(III)Z"⟩ ⟨"CapitalCaseModel", "areTwo", "(III)Z"⟩ ∈ xTB := xw 92 (by decide +kernel) (by decide +kernel)
set_option maxRecDepth 100000 in
theorem wd_93 : Cond.selects "CapitalCaseModel" ⟨"CapitalCaseModel", "goes", "(I)V"⟩ ⟨"CapitalCaseModel", "goes", "(I)V"⟩ ∈ xTB := xw 93 (by decide +kernel) (by decide +kernel)
set_option maxRecDepth 100000 in
theorem wd_94 : Cond.selects "CapitalCaseModel" ⟨"CapitalCaseModel", "dayGoes", "()V"⟩ ⟨"CapitalCaseModel", "dayGoes", "()V"⟩ ∈ xTB := xw 94 (by decide +kernel) (by decide +kernel)
set_option maxRecDepth 100000 in
theorem wd_96 : Cond.selects "CapitalCaseModel" ⟨"CapitalCaseModel", "areThieves", "()Z"⟩ ⟨"CapitalCaseModel", "areThieves", "()Z"⟩ ∈ xTB := xw 96 (by decide +kernel) (by decide +kernel)
set_option maxRecDepth 100000 in
theorem wd_97 : Cond.selects "CapitalCaseModel" ⟨"CapitalCaseModel", "lotOf", "(II)I"⟩ ⟨"CapitalCaseModel", "lotOf", "(II)I"⟩ ∈ xTB := xw 97 (by decide +kernel) (by decide +kernel)
set_option maxRecDepth 100000 in
theorem wd_99 : Cond.selects "CapitalCaseModel" ⟨"CapitalCaseModel", "findsBest", "()V"⟩ ⟨"CapitalCaseModel", "findsBest", "()V"⟩ ∈ xTB := xw 99 (by decide +kernel) (by decide +kernel)
set_option maxRecDepth 100000 in
theorem wd_100 : Cond.selects "CapitalCaseModel" ⟨"CapitalCaseModel", "openBits", "()I"⟩ ⟨"CapitalCaseModel", "openBits", "()I"⟩ ∈ xTB := xw 100 (by decide +kernel) (by decide +kernel)
set_option maxRecDepth 100000 in
theorem wd_101 : Cond.selects "CapitalCaseModel" ⟨"CapitalCaseModel", "keepsAhead", "()V"⟩ ⟨"CapitalCaseModel", "keepsAhead", "()V"⟩ ∈ xTB := xw 101 (by decide +kernel) (by decide +kernel)
set_option maxRecDepth 100000 in
theorem wd_103 : Cond.selects "CapitalCaseModel" ⟨"CapitalCaseModel", "firstDay", "(I)I"⟩ ⟨"CapitalCaseModel", "firstDay", "(I)I"⟩ ∈ xTB := xw 103 (by decide +kernel) (by decide +kernel)
set_option maxRecDepth 100000 in
theorem wd_107 : Cond.selects "CapitalCaseModel" ⟨"CapitalCaseModel", "whoseBits", "(I)I"⟩ ⟨"CapitalCaseModel", "whoseBits", "(I)I"⟩ ∈ xTB := xw 107 (by decide +kernel) (by decide +kernel)
set_option maxRecDepth 100000 in
theorem wd_108 : Cond.selects "CapitalCaseModel" ⟨"CapitalCaseModel", "versesSo", "(II)I"⟩ ⟨"CapitalCaseModel", "versesSo", "(II)I"⟩ ∈ xTB := xw 108 (by decide +kernel) (by decide +kernel)
set_option maxRecDepth 100000 in
theorem wd_109 : Cond.selects "CapitalCaseModel" ⟨"CapitalCaseModel", "sumNow", "(II)I"⟩ ⟨"CapitalCaseModel", "sumNow", "(II)I"⟩ ∈ xTB := xw 109 (by decide +kernel) (by decide +kernel)
set_option maxRecDepth 100000 in
theorem wd_111 : Cond.initialized "CapitalCase" ∈ xTB := xw 111 (by decide +kernel) (by decide +kernel)
set_option maxRecDepth 100000 in
theorem wd_112 : Cond.initialized "CapitalCase$Script" ∈ xTB := xw 112 (by decide +kernel) (by decide +kernel)
set_option maxRecDepth 100000 in
theorem wd_113 : Cond.initialized "java/util/Arrays" ∈ xTB := xw 113 (by decide +kernel) (by decide +kernel)
set_option maxRecDepth 100000 in
theorem wd_114 : Cond.initialized "CapitalCase$Parser" ∈ xTB := xw 114 (by decide +kernel) (by decide +kernel)
set_option maxRecDepth 100000 in
theorem wd_115 : Cond.initialized "CapitalCase$Tokens" ∈ xTB := xw 115 (by decide +kernel) (by decide +kernel)
set_option maxRecDepth 100000 in
theorem wd_116 : Cond.initialized "CapitalCase$Town" ∈ xTB := xw 116 (by decide +kernel) (by decide +kernel)
set_option maxRecDepth 100000 in
theorem wd_117 : Cond.initialized "CapitalCase$History" ∈ xTB := xw 117 (by decide +kernel) (by decide +kernel)
set_option maxRecDepth 100000 in
theorem wd_118 : Cond.initialized "CapitalCase$Prints" ∈ xTB := xw 118 (by decide +kernel) (by decide +kernel)
set_option maxRecDepth 100000 in
theorem wd_119 : Cond.initialized "CapitalCase$Judge" ∈ xTB := xw 119 (by decide +kernel) (by decide +kernel)
set_option maxRecDepth 100000 in
theorem wd_120 : Cond.initialized "CapitalCase$Press" ∈ xTB := xw 120 (by decide +kernel) (by decide +kernel)
set_option maxRecDepth 100000 in
theorem wd_121 : Cond.initialized "CapitalCase$Planner" ∈ xTB := xw 121 (by decide +kernel) (by decide +kernel)
set_option maxRecDepth 100000 in
theorem wd_122 : Cond.initialized "CapitalCase$TwoDays" ∈ xTB := xw 122 (by decide +kernel) (by decide +kernel)
set_option maxRecDepth 100000 in
theorem wd_123 : Cond.initialized "CapitalCase$Trade" ∈ xTB := xw 123 (by decide +kernel) (by decide +kernel)
set_option maxRecDepth 100000 in
theorem wd_124 : Cond.initialized "CapitalCaseModel" ∈ xTB := xw 124 (by decide +kernel) (by decide +kernel)
set_option maxRecDepth 100000 in
theorem wd_129 : Cond.initialized "java/lang/Math" ∈ xTB := xw 129 (by decide +kernel) (by decide +kernel)
set_option maxRecDepth 100000 in
theorem wd_131 : Cond.initialized "java/lang/System" ∈ xTB := xw 131 (by decide +kernel) (by decide +kernel)
set_option maxRecDepth 100000 in
theorem wd_132 : Cond.initialized "java/lang/Integer" ∈ xTB := xw 132 (by decide +kernel) (by decide +kernel)
set_option maxRecDepth 100000 in
theorem wd_133 : Cond.classLink "CapitalCaseLaw" 7 "CapitalCase" ∈ xTB := xw 133 (by decide +kernel) (by decide +kernel)
set_option maxRecDepth 100000 in
theorem wd_134 : Cond.instantiable "CapitalCase" 16 ∈ xTB := xw 134 (by decide +kernel) (by decide +kernel)
set_option maxRecDepth 100000 in
theorem wd_135 : Cond.methodLink "CapitalCaseLaw" 9 ⟨"CapitalCase", "<init>", "()V"⟩ ∈ xTB := xw 135 (by decide +kernel) (by decide +kernel)
set_option maxRecDepth 100000 in
theorem wd_136 : Cond.instanceMethod ⟨"CapitalCase", "<init>", "()V"⟩ ∈ xTB := xw 136 (by decide +kernel) (by decide +kernel)
set_option maxRecDepth 100000 in
theorem wd_138 : Cond.methodLink "CapitalCase" 3 ⟨"java/lang/Object", "<init>", "()V"⟩ ∈ xTB := xw 138 (by decide +kernel) (by decide +kernel)
set_option maxRecDepth 100000 in
theorem wd_139 : Cond.instanceMethod ⟨"java/lang/Object", "<init>", "()V"⟩ ∈ xTB := xw 139 (by decide +kernel) (by decide +kernel)
set_option maxRecDepth 100000 in
theorem wd_141 : Cond.classLink "CapitalCase" 20 "CapitalCase$Script" ∈ xTB := xw 141 (by decide +kernel) (by decide +kernel)
set_option maxRecDepth 100000 in
theorem wd_142 : Cond.instantiable "CapitalCase$Script" 15 ∈ xTB := xw 142 (by decide +kernel) (by decide +kernel)
set_option maxRecDepth 100000 in
theorem wd_143 : Cond.methodLink "CapitalCase" 22 ⟨"CapitalCase$Script", "<init>", "()V"⟩ ∈ xTB := xw 143 (by decide +kernel) (by decide +kernel)
set_option maxRecDepth 100000 in
theorem wd_144 : Cond.instanceMethod ⟨"CapitalCase$Script", "<init>", "()V"⟩ ∈ xTB := xw 144 (by decide +kernel) (by decide +kernel)
set_option maxRecDepth 100000 in
theorem wd_146 : Cond.methodLink "CapitalCase$Script" 7 ⟨"java/lang/Object", "<init>", "()V"⟩ ∈ xTB := xw 146 (by decide +kernel) (by decide +kernel)
set_option maxRecDepth 100000 in
theorem wd_147 : Cond.methodLink "CapitalCase$Script" 41 ⟨"CapitalCase$Script", "wipe", "()V"⟩ ∈ xTB := xw 147 (by decide +kernel) (by decide +kernel)
set_option maxRecDepth 100000 in
theorem wd_148 : Cond.instanceMethod ⟨"CapitalCase$Script", "wipe", "()V"⟩ ∈ xTB := xw 148 (by decide +kernel) (by decide +kernel)
set_option maxRecDepth 100000 in
theorem wd_149 : Cond.selects "CapitalCase$Script" ⟨"CapitalCase$Script", "wipe", "()V"⟩ ⟨"CapitalCase$Script", "wipe", "()V"⟩ ∈ xTB := xw 149 (by decide +kernel) (by decide +kernel)
set_option maxRecDepth 100000 in
theorem wd_151 : Cond.methodLink "CapitalCase$Script" 60 ⟨"java/util/Arrays", "fill", "([II)V"⟩ ∈ xTB := xw 151 (by decide +kernel) (by decide +kernel)
set_option maxRecDepth 100000 in
theorem wd_152 : Cond.static ⟨"java/util/Arrays", "fill", "([II)V"⟩ ∈ xTB := xw 152 (by decide +kernel) (by decide +kernel)
set_option maxRecDepth 100000 in
theorem wd_154 : Cond.methodLink "CapitalCase$Script" 69 ⟨"CapitalCase$Script", "layDown", "(III)V"⟩ ∈ xTB := xw 154 (by decide +kernel) (by decide +kernel)
set_option maxRecDepth 100000 in
theorem wd_156 : Cond.instanceMethod ⟨"CapitalCase$Script", "layDown", "(III)V"⟩ ∈ xTB := xw 156 (by decide +kernel) (by decide +kernel)
set_option maxRecDepth 100000 in
theorem wd_158 : Cond.methodLink "CapitalCase$Script" 75 ⟨"CapitalCase$Script", "add", "(II)V"⟩ ∈ xTB := xw 158 (by decide +kernel) (by decide +kernel)
set_option maxRecDepth 100000 in
theorem wd_159 : Cond.instanceMethod ⟨"CapitalCase$Script", "add", "(II)V"⟩ ∈ xTB := xw 159 (by decide +kernel) (by decide +kernel)
set_option maxRecDepth 100000 in
theorem wd_160 : Cond.selects "CapitalCase$Script" ⟨"CapitalCase$Script", "add", "(II)V"⟩ ⟨"CapitalCase$Script", "add", "(II)V"⟩ ∈ xTB := xw 160 (by decide +kernel) (by decide +kernel)
set_option maxRecDepth 100000 in
theorem wd_162 : Cond.fieldLink "CapitalCase$Script" 44 "CapitalCase$Script" "houses" "I" ∈ xTB := xw 162 (by decide +kernel) (by decide +kernel)
set_option maxRecDepth 100000 in
theorem wd_163 : Cond.fieldLink "CapitalCase$Trade" 33 "CapitalCase$Script" "houses" "I" ∈ xTB := xw 163 (by decide +kernel) (by decide +kernel)
set_option maxRecDepth 100000 in
theorem wd_165 : Cond.fieldLink "CapitalCase$Press" 57 "CapitalCase$Script" "houses" "I" ∈ xTB := xw 165 (by decide +kernel) (by decide +kernel)
set_option maxRecDepth 100000 in
theorem wd_167 : Cond.fieldLink "CapitalCase" 134 "CapitalCase$Script" "houses" "I" ∈ xTB := xw 167 (by decide +kernel) (by decide +kernel)
set_option maxRecDepth 100000 in
theorem wd_168 : Cond.fieldLink "CapitalCase$TwoDays" 46 "CapitalCase$Script" "verses" "I" ∈ xTB := xw 168 (by decide +kernel) (by decide +kernel)
set_option maxRecDepth 100000 in
theorem wd_169 : Cond.fieldLink "CapitalCase$Script" 48 "CapitalCase$Script" "verses" "I" ∈ xTB := xw 169 (by decide +kernel) (by decide +kernel)
set_option maxRecDepth 100000 in
theorem wd_170 : Cond.fieldLink "CapitalCase$Planner" 53 "CapitalCase$Script" "verses" "I" ∈ xTB := xw 170 (by decide +kernel) (by decide +kernel)
set_option maxRecDepth 100000 in
theorem wd_171 : Cond.fieldLink "CapitalCase$Press" 33 "CapitalCase$Script" "verses" "I" ∈ xTB := xw 171 (by decide +kernel) (by decide +kernel)
set_option maxRecDepth 100000 in
theorem wd_174 : Cond.fieldLink "CapitalCase" 141 "CapitalCase$Script" "verses" "I" ∈ xTB := xw 174 (by decide +kernel) (by decide +kernel)
set_option maxRecDepth 100000 in
theorem wd_175 : Cond.fieldLink "CapitalCase$Script" 51 "CapitalCase$Script" "spoils" "I" ∈ xTB := xw 175 (by decide +kernel) (by decide +kernel)
set_option maxRecDepth 100000 in
theorem wd_178 : Cond.fieldLink "CapitalCase$Script" 54 "CapitalCase$Script" "thieves" "I" ∈ xTB := xw 178 (by decide +kernel) (by decide +kernel)
set_option maxRecDepth 100000 in
theorem wd_179 : Cond.fieldLink "CapitalCase$Press" 91 "CapitalCase$Script" "thieves" "I" ∈ xTB := xw 179 (by decide +kernel) (by decide +kernel)
set_option maxRecDepth 100000 in
theorem wd_181 : Cond.fieldLink "CapitalCase$Script" 57 "CapitalCase$Script" "seed" "I" ∈ xTB := xw 181 (by decide +kernel) (by decide +kernel)
set_option maxRecDepth 100000 in
theorem wd_183 : Cond.fieldLink "CapitalCase" 249 "CapitalCase$Script" "seed" "I" ∈ xTB := xw 183 (by decide +kernel) (by decide +kernel)
set_option maxRecDepth 100000 in
theorem wd_184 : Cond.fieldLink "CapitalCase$Script" 13 "CapitalCase$Script" "pieces" "[I" ∈ xTB := xw 184 (by decide +kernel) (by decide +kernel)
set_option maxRecDepth 100000 in
theorem wd_185 : Cond.fieldLink "CapitalCase$Town" 27 "CapitalCase$Script" "pieces" "[I" ∈ xTB := xw 185 (by decide +kernel) (by decide +kernel)
set_option maxRecDepth 100000 in
theorem wd_187 : Cond.fieldLink "CapitalCase$Script" 17 "CapitalCase$Script" "value" "[I" ∈ xTB := xw 187 (by decide +kernel) (by decide +kernel)
set_option maxRecDepth 100000 in
theorem wd_191 : Cond.fieldLink "CapitalCase$Script" 20 "CapitalCase$Script" "due" "[I" ∈ xTB := xw 191 (by decide +kernel) (by decide +kernel)
set_option maxRecDepth 100000 in
theorem wd_195 : Cond.fieldLink "CapitalCase$Script" 23 "CapitalCase$Script" "wide" "[I" ∈ xTB := xw 195 (by decide +kernel) (by decide +kernel)
set_option maxRecDepth 100000 in
theorem wd_202 : Cond.fieldLink "CapitalCase$Script" 26 "CapitalCase$Script" "wanted" "[I" ∈ xTB := xw 202 (by decide +kernel) (by decide +kernel)
set_option maxRecDepth 100000 in
theorem wd_207 : Cond.fieldLink "CapitalCase$Script" 29 "CapitalCase$Script" "needs" "[I" ∈ xTB := xw 207 (by decide +kernel) (by decide +kernel)
set_option maxRecDepth 100000 in
theorem wd_211 : Cond.fieldLink "CapitalCase$Script" 32 "CapitalCase$Script" "lawStart" "[I" ∈ xTB := xw 211 (by decide +kernel) (by decide +kernel)
set_option maxRecDepth 100000 in
theorem wd_214 : Cond.fieldLink "CapitalCase$Script" 35 "CapitalCase$Script" "step" "[I" ∈ xTB := xw 214 (by decide +kernel) (by decide +kernel)
set_option maxRecDepth 100000 in
theorem wd_216 : Cond.fieldLink "CapitalCase$Script" 38 "CapitalCase$Script" "operand" "[I" ∈ xTB := xw 216 (by decide +kernel) (by decide +kernel)
set_option maxRecDepth 100000 in
theorem wd_218 : Cond.fieldLink "CapitalCase$Script" 66 "CapitalCase$Script" "steps" "I" ∈ xTB := xw 218 (by decide +kernel) (by decide +kernel)
set_option maxRecDepth 100000 in
theorem wd_252 : Cond.arrayClass .byte ∈ xTB := xw 252 (by decide +kernel) (by decide +kernel)
set_option maxRecDepth 100000 in
theorem wd_253 : Cond.arrayClass .int ∈ xTB := xw 253 (by decide +kernel) (by decide +kernel)
set_option maxRecDepth 100000 in
theorem wd_254 : Cond.classLink "CapitalCase" 27 "CapitalCase$Parser" ∈ xTB := xw 254 (by decide +kernel) (by decide +kernel)
set_option maxRecDepth 100000 in
theorem wd_255 : Cond.instantiable "CapitalCase$Parser" 10 ∈ xTB := xw 255 (by decide +kernel) (by decide +kernel)
set_option maxRecDepth 100000 in
theorem wd_256 : Cond.methodLink "CapitalCase" 29 ⟨"CapitalCase$Parser", "<init>", "([B)V"⟩ ∈ xTB := xw 256 (by decide +kernel) (by decide +kernel)
set_option maxRecDepth 100000 in
theorem wd_257 : Cond.instanceMethod ⟨"CapitalCase$Parser", "<init>", "([B)V"⟩ ∈ xTB := xw 257 (by decide +kernel) (by decide +kernel)
set_option maxRecDepth 100000 in
theorem wd_259 : Cond.methodLink "CapitalCase$Parser" 3 ⟨"java/lang/Object", "<init>", "()V"⟩ ∈ xTB := xw 259 (by decide +kernel) (by decide +kernel)
set_option maxRecDepth 100000 in
theorem wd_260 : Cond.classLink "CapitalCase$Parser" 9 "CapitalCase$Script" ∈ xTB := xw 260 (by decide +kernel) (by decide +kernel)
set_option maxRecDepth 100000 in
theorem wd_261 : Cond.methodLink "CapitalCase$Parser" 11 ⟨"CapitalCase$Script", "<init>", "()V"⟩ ∈ xTB := xw 261 (by decide +kernel) (by decide +kernel)
set_option maxRecDepth 100000 in
theorem wd_262 : Cond.classLink "CapitalCase$Parser" 18 "CapitalCase$Tokens" ∈ xTB := xw 262 (by decide +kernel) (by decide +kernel)
set_option maxRecDepth 100000 in
theorem wd_263 : Cond.instantiable "CapitalCase$Tokens" 3 ∈ xTB := xw 263 (by decide +kernel) (by decide +kernel)
set_option maxRecDepth 100000 in
theorem wd_265 : Cond.instanceMethod ⟨"CapitalCase$Tokens", "<init>", "()V"⟩ ∈ xTB := xw 265 (by decide +kernel) (by decide +kernel)
set_option maxRecDepth 100000 in
theorem wd_267 : Cond.methodLink "CapitalCase$Tokens" 3 ⟨"java/lang/Object", "<init>", "()V"⟩ ∈ xTB := xw 267 (by decide +kernel) (by decide +kernel)
set_option maxRecDepth 100000 in
theorem wd_268 : Cond.fieldLink "CapitalCase$Tokens" 9 "CapitalCase$Tokens" "kind" "[I" ∈ xTB := xw 268 (by decide +kernel) (by decide +kernel)
set_option maxRecDepth 100000 in
theorem wd_269 : Cond.fieldLink "CapitalCase$Parser" 80 "CapitalCase$Tokens" "kind" "[I" ∈ xTB := xw 269 (by decide +kernel) (by decide +kernel)
set_option maxRecDepth 100000 in
theorem wd_270 : Cond.fieldLink "CapitalCase$Tokens" 13 "CapitalCase$Tokens" "place" "[I" ∈ xTB := xw 270 (by decide +kernel) (by decide +kernel)
set_option maxRecDepth 100000 in
theorem wd_272 : Cond.fieldLink "CapitalCase$Tokens" 16 "CapitalCase$Tokens" "size" "[I" ∈ xTB := xw 272 (by decide +kernel) (by decide +kernel)
set_option maxRecDepth 100000 in
theorem wd_281 : Cond.fieldLink "CapitalCase$Parser" 12 "CapitalCase$Parser" "script" "LCapitalCase$Script;" ∈ xTB := xw 281 (by decide +kernel) (by decide +kernel)
set_option maxRecDepth 100000 in
theorem wd_282 : Cond.fieldLink "CapitalCase" 120 "CapitalCase$Parser" "script" "LCapitalCase$Script;" ∈ xTB := xw 282 (by decide +kernel) (by decide +kernel)
set_option maxRecDepth 100000 in
theorem wd_283 : Cond.fieldLink "CapitalCase$Parser" 21 "CapitalCase$Parser" "tokens" "LCapitalCase$Tokens;" ∈ xTB := xw 283 (by decide +kernel) (by decide +kernel)
set_option maxRecDepth 100000 in
theorem wd_284 : Cond.fieldLink "CapitalCase$Parser" 29 "CapitalCase$Parser" "text" "[B" ∈ xTB := xw 284 (by decide +kernel) (by decide +kernel)
set_option maxRecDepth 100000 in
theorem wd_285 : Cond.fieldLink "CapitalCase$Parser" 40 "CapitalCase$Parser" "at" "I" ∈ xTB := xw 285 (by decide +kernel) (by decide +kernel)
set_option maxRecDepth 100000 in
theorem wd_286 : Cond.fieldLink "CapitalCase$Parser" 44 "CapitalCase$Parser" "fault" "I" ∈ xTB := xw 286 (by decide +kernel) (by decide +kernel)
set_option maxRecDepth 100000 in
theorem wd_287 : Cond.fieldLink "CapitalCase$Parser" 77 "CapitalCase$Parser" "faultAt" "I" ∈ xTB := xw 287 (by decide +kernel) (by decide +kernel)
set_option maxRecDepth 100000 in
theorem wd_289 : Cond.fieldLink "CapitalCase$Parser" 47 "CapitalCase$Parser" "laterFault" "I" ∈ xTB := xw 289 (by decide +kernel) (by decide +kernel)
set_option maxRecDepth 100000 in
theorem wd_290 : Cond.fieldLink "CapitalCase$Parser" 74 "CapitalCase$Parser" "laterFaultAt" "I" ∈ xTB := xw 290 (by decide +kernel) (by decide +kernel)
set_option maxRecDepth 100000 in
theorem wd_291 : Cond.fieldLink "CapitalCase$Parser" 25 "CapitalCase$Parser" "names" "[I" ∈ xTB := xw 291 (by decide +kernel) (by decide +kernel)
set_option maxRecDepth 100000 in
theorem wd_292 : Cond.fieldLink "CapitalCase$Parser" 50 "CapitalCase$Parser" "nameCount" "I" ∈ xTB := xw 292 (by decide +kernel) (by decide +kernel)
set_option maxRecDepth 100000 in
theorem wd_314 : Cond.classLink "CapitalCase" 36 "CapitalCase$Town" ∈ xTB := xw 314 (by decide +kernel) (by decide +kernel)
set_option maxRecDepth 100000 in
theorem wd_315 : Cond.instantiable "CapitalCase$Town" 10 ∈ xTB := xw 315 (by decide +kernel) (by decide +kernel)
set_option maxRecDepth 100000 in
theorem wd_317 : Cond.instanceMethod ⟨"CapitalCase$Town", "<init>", "()V"⟩ ∈ xTB := xw 317 (by decide +kernel) (by decide +kernel)
set_option maxRecDepth 100000 in
theorem wd_319 : Cond.methodLink "CapitalCase$Town" 3 ⟨"java/lang/Object", "<init>", "()V"⟩ ∈ xTB := xw 319 (by decide +kernel) (by decide +kernel)
set_option maxRecDepth 100000 in
theorem wd_320 : Cond.fieldLink "CapitalCase$Town" 9 "CapitalCase$Town" "has" "[I" ∈ xTB := xw 320 (by decide +kernel) (by decide +kernel)
set_option maxRecDepth 100000 in
theorem wd_324 : Cond.fieldLink "CapitalCase" 151 "CapitalCase$Town" "has" "[I" ∈ xTB := xw 324 (by decide +kernel) (by decide +kernel)
set_option maxRecDepth 100000 in
theorem wd_325 : Cond.fieldLink "CapitalCase$Town" 15 "CapitalCase$Town" "used" "[I" ∈ xTB := xw 325 (by decide +kernel) (by decide +kernel)
set_option maxRecDepth 100000 in
theorem wd_328 : Cond.fieldLink "CapitalCase" 155 "CapitalCase$Town" "used" "[I" ∈ xTB := xw 328 (by decide +kernel) (by decide +kernel)
set_option maxRecDepth 100000 in
theorem wd_329 : Cond.fieldLink "CapitalCase$Town" 18 "CapitalCase$Town" "worn" "[I" ∈ xTB := xw 329 (by decide +kernel) (by decide +kernel)
set_option maxRecDepth 100000 in
theorem wd_334 : Cond.fieldLink "CapitalCase$Town" 21 "CapitalCase$Town" "lent" "[I" ∈ xTB := xw 334 (by decide +kernel) (by decide +kernel)
set_option maxRecDepth 100000 in
theorem wd_335 : Cond.fieldLink "CapitalCase" 246 "CapitalCase$Town" "lent" "[I" ∈ xTB := xw 335 (by decide +kernel) (by decide +kernel)
set_option maxRecDepth 100000 in
theorem wd_336 : Cond.fieldLink "CapitalCase$Town" 24 "CapitalCase$Town" "from" "[I" ∈ xTB := xw 336 (by decide +kernel) (by decide +kernel)
set_option maxRecDepth 100000 in
theorem wd_338 : Cond.fieldLink "CapitalCase$Town" 44 "CapitalCase$Town" "set" "I" ∈ xTB := xw 338 (by decide +kernel) (by decide +kernel)
set_option maxRecDepth 100000 in
theorem wd_339 : Cond.fieldLink "CapitalCase$Press" 38 "CapitalCase$Town" "set" "I" ∈ xTB := xw 339 (by decide +kernel) (by decide +kernel)
set_option maxRecDepth 100000 in
theorem wd_340 : Cond.fieldLink "CapitalCase" 196 "CapitalCase$Town" "set" "I" ∈ xTB := xw 340 (by decide +kernel) (by decide +kernel)
set_option maxRecDepth 100000 in
theorem wd_341 : Cond.fieldLink "CapitalCase$Town" 48 "CapitalCase$Town" "done" "I" ∈ xTB := xw 341 (by decide +kernel) (by decide +kernel)
set_option maxRecDepth 100000 in
theorem wd_342 : Cond.fieldLink "CapitalCase$Press" 41 "CapitalCase$Town" "done" "I" ∈ xTB := xw 342 (by decide +kernel) (by decide +kernel)
set_option maxRecDepth 100000 in
theorem wd_343 : Cond.fieldLink "CapitalCase" 199 "CapitalCase$Town" "done" "I" ∈ xTB := xw 343 (by decide +kernel) (by decide +kernel)
set_option maxRecDepth 100000 in
theorem wd_344 : Cond.fieldLink "CapitalCase$Press" 27 "CapitalCase$Town" "day" "I" ∈ xTB := xw 344 (by decide +kernel) (by decide +kernel)
set_option maxRecDepth 100000 in
theorem wd_345 : Cond.fieldLink "CapitalCase$TwoDays" 60 "CapitalCase$Town" "day" "I" ∈ xTB := xw 345 (by decide +kernel) (by decide +kernel)
set_option maxRecDepth 100000 in
theorem wd_346 : Cond.fieldLink "CapitalCase$Town" 51 "CapitalCase$Town" "day" "I" ∈ xTB := xw 346 (by decide +kernel) (by decide +kernel)
set_option maxRecDepth 100000 in
theorem wd_349 : Cond.fieldLink "CapitalCase" 190 "CapitalCase$Town" "day" "I" ∈ xTB := xw 349 (by decide +kernel) (by decide +kernel)
set_option maxRecDepth 100000 in
theorem wd_350 : Cond.fieldLink "CapitalCase$Town" 54 "CapitalCase$Town" "paid" "I" ∈ xTB := xw 350 (by decide +kernel) (by decide +kernel)
set_option maxRecDepth 100000 in
theorem wd_351 : Cond.fieldLink "CapitalCase$Press" 50 "CapitalCase$Town" "paid" "I" ∈ xTB := xw 351 (by decide +kernel) (by decide +kernel)
set_option maxRecDepth 100000 in
theorem wd_352 : Cond.fieldLink "CapitalCase" 304 "CapitalCase$Town" "paid" "I" ∈ xTB := xw 352 (by decide +kernel) (by decide +kernel)
set_option maxRecDepth 100000 in
theorem wd_353 : Cond.fieldLink "CapitalCase$Town" 57 "CapitalCase$Town" "gone" "I" ∈ xTB := xw 353 (by decide +kernel) (by decide +kernel)
set_option maxRecDepth 100000 in
theorem wd_354 : Cond.fieldLink "CapitalCase" 326 "CapitalCase$Town" "gone" "I" ∈ xTB := xw 354 (by decide +kernel) (by decide +kernel)
set_option maxRecDepth 100000 in
theorem wd_376 : Cond.classLink "CapitalCase" 46 "CapitalCase$History" ∈ xTB := xw 376 (by decide +kernel) (by decide +kernel)
set_option maxRecDepth 100000 in
theorem wd_377 : Cond.instantiable "CapitalCase$History" 3 ∈ xTB := xw 377 (by decide +kernel) (by decide +kernel)
set_option maxRecDepth 100000 in
theorem wd_379 : Cond.instanceMethod ⟨"CapitalCase$History", "<init>", "()V"⟩ ∈ xTB := xw 379 (by decide +kernel) (by decide +kernel)
set_option maxRecDepth 100000 in
theorem wd_381 : Cond.methodLink "CapitalCase$History" 1 ⟨"java/lang/Object", "<init>", "()V"⟩ ∈ xTB := xw 381 (by decide +kernel) (by decide +kernel)
set_option maxRecDepth 100000 in
theorem wd_382 : Cond.classLink "CapitalCase$History" 9 "CapitalCase$Town" ∈ xTB := xw 382 (by decide +kernel) (by decide +kernel)
set_option maxRecDepth 100000 in
theorem wd_384 : Cond.fieldLink "CapitalCase$History" 11 "CapitalCase$History" "rows" "[LCapitalCase$Town;" ∈ xTB := xw 384 (by decide +kernel) (by decide +kernel)
set_option maxRecDepth 100000 in
theorem wd_385 : Cond.fieldLink "CapitalCase$History" 15 "CapitalCase$History" "next" "I" ∈ xTB := xw 385 (by decide +kernel) (by decide +kernel)
set_option maxRecDepth 100000 in
theorem wd_386 : Cond.fieldLink "CapitalCase$History" 24 "CapitalCase$History" "count" "I" ∈ xTB := xw 386 (by decide +kernel) (by decide +kernel)
set_option maxRecDepth 100000 in
theorem wd_387 : Cond.fieldLink "CapitalCase" 130 "CapitalCase$History" "count" "I" ∈ xTB := xw 387 (by decide +kernel) (by decide +kernel)
set_option maxRecDepth 100000 in
theorem wd_395 : Cond.classLink "CapitalCase" 61 "CapitalCase$Prints" ∈ xTB := xw 395 (by decide +kernel) (by decide +kernel)
set_option maxRecDepth 100000 in
theorem wd_396 : Cond.instantiable "CapitalCase$Prints" 4 ∈ xTB := xw 396 (by decide +kernel) (by decide +kernel)
set_option maxRecDepth 100000 in
theorem wd_398 : Cond.instanceMethod ⟨"CapitalCase$Prints", "<init>", "()V"⟩ ∈ xTB := xw 398 (by decide +kernel) (by decide +kernel)
set_option maxRecDepth 100000 in
theorem wd_400 : Cond.methodLink "CapitalCase$Prints" 3 ⟨"java/lang/Object", "<init>", "()V"⟩ ∈ xTB := xw 400 (by decide +kernel) (by decide +kernel)
set_option maxRecDepth 100000 in
theorem wd_401 : Cond.fieldLink "CapitalCase$Prints" 11 "CapitalCase$Prints" "letters" "[I" ∈ xTB := xw 401 (by decide +kernel) (by decide +kernel)
set_option maxRecDepth 100000 in
theorem wd_402 : Cond.fieldLink "CapitalCase$Prints" 15 "CapitalCase$Prints" "wears" "[I" ∈ xTB := xw 402 (by decide +kernel) (by decide +kernel)
set_option maxRecDepth 100000 in
theorem wd_403 : Cond.fieldLink "CapitalCase$Prints" 18 "CapitalCase$Prints" "sos" "[Z" ∈ xTB := xw 403 (by decide +kernel) (by decide +kernel)
set_option maxRecDepth 100000 in
theorem wd_404 : Cond.fieldLink "CapitalCase$Prints" 22 "CapitalCase$Prints" "count" "I" ∈ xTB := xw 404 (by decide +kernel) (by decide +kernel)
set_option maxRecDepth 100000 in
theorem wd_405 : Cond.fieldLink "CapitalCase" 133 "CapitalCase$Prints" "count" "I" ∈ xTB := xw 405 (by decide +kernel) (by decide +kernel)
set_option maxRecDepth 100000 in
theorem wd_415 : Cond.arrayClass .boolean ∈ xTB := xw 415 (by decide +kernel) (by decide +kernel)
set_option maxRecDepth 100000 in
theorem wd_416 : Cond.classLink "CapitalCase" 68 "CapitalCase$Judge" ∈ xTB := xw 416 (by decide +kernel) (by decide +kernel)
set_option maxRecDepth 100000 in
theorem wd_417 : Cond.instantiable "CapitalCase$Judge" 3 ∈ xTB := xw 417 (by decide +kernel) (by decide +kernel)
set_option maxRecDepth 100000 in
theorem wd_418 : Cond.methodLink "CapitalCase" 70 ⟨"CapitalCase$Judge", "<init>", "(LCapitalCase$Script;)V"⟩ ∈ xTB := xw 418 (by decide +kernel) (by decide +kernel)
set_option maxRecDepth 100000 in
theorem wd_419 : Cond.instanceMethod ⟨"CapitalCase$Judge", "<init>", "(LCapitalCase$Script;)V"⟩ ∈ xTB := xw 419 (by decide +kernel) (by decide +kernel)
set_option maxRecDepth 100000 in
theorem wd_421 : Cond.methodLink "CapitalCase$Judge" 3 ⟨"java/lang/Object", "<init>", "()V"⟩ ∈ xTB := xw 421 (by decide +kernel) (by decide +kernel)
set_option maxRecDepth 100000 in
theorem wd_422 : Cond.fieldLink "CapitalCase$Judge" 18 "CapitalCase$Judge" "script" "LCapitalCase$Script;" ∈ xTB := xw 422 (by decide +kernel) (by decide +kernel)
set_option maxRecDepth 100000 in
theorem wd_423 : Cond.fieldLink "CapitalCase$Judge" 11 "CapitalCase$Judge" "vars" "[I" ∈ xTB := xw 423 (by decide +kernel) (by decide +kernel)
set_option maxRecDepth 100000 in
theorem wd_424 : Cond.fieldLink "CapitalCase$Judge" 15 "CapitalCase$Judge" "stack" "[I" ∈ xTB := xw 424 (by decide +kernel) (by decide +kernel)
set_option maxRecDepth 100000 in
theorem wd_432 : Cond.classLink "CapitalCase" 77 "CapitalCase$Press" ∈ xTB := xw 432 (by decide +kernel) (by decide +kernel)
set_option maxRecDepth 100000 in
theorem wd_433 : Cond.instantiable "CapitalCase$Press" 2 ∈ xTB := xw 433 (by decide +kernel) (by decide +kernel)
set_option maxRecDepth 100000 in
theorem wd_434 : Cond.methodLink "CapitalCase" 79 ⟨"CapitalCase$Press", "<init>", "(LCapitalCase$Script;LCapitalCase$Judge;)V"⟩ ∈ xTB := xw 434 (by decide +kernel) (by decide +kernel)
set_option maxRecDepth 100000 in
theorem wd_435 : Cond.instanceMethod ⟨"CapitalCase$Press", "<init>", "(LCapitalCase$Script;LCapitalCase$Judge;)V"⟩ ∈ xTB := xw 435 (by decide +kernel) (by decide +kernel)
set_option maxRecDepth 100000 in
theorem wd_437 : Cond.methodLink "CapitalCase$Press" 3 ⟨"java/lang/Object", "<init>", "()V"⟩ ∈ xTB := xw 437 (by decide +kernel) (by decide +kernel)
set_option maxRecDepth 100000 in
theorem wd_438 : Cond.fieldLink "CapitalCase$Press" 9 "CapitalCase$Press" "script" "LCapitalCase$Script;" ∈ xTB := xw 438 (by decide +kernel) (by decide +kernel)
set_option maxRecDepth 100000 in
theorem wd_439 : Cond.fieldLink "CapitalCase$Press" 15 "CapitalCase$Press" "judge" "LCapitalCase$Judge;" ∈ xTB := xw 439 (by decide +kernel) (by decide +kernel)
set_option maxRecDepth 100000 in
theorem wd_445 : Cond.classLink "CapitalCase" 86 "CapitalCase$Planner" ∈ xTB := xw 445 (by decide +kernel) (by decide +kernel)
set_option maxRecDepth 100000 in
theorem wd_446 : Cond.instantiable "CapitalCase$Planner" 12 ∈ xTB := xw 446 (by decide +kernel) (by decide +kernel)
set_option maxRecDepth 100000 in
theorem wd_447 : Cond.methodLink "CapitalCase" 88 ⟨"CapitalCase$Planner", "<init>", "(LCapitalCase$Script;LCapitalCase$Judge;)V"⟩ ∈ xTB := xw 447 (by decide +kernel) (by decide +kernel)
set_option maxRecDepth 100000 in
theorem wd_448 : Cond.instanceMethod ⟨"CapitalCase$Planner", "<init>", "(LCapitalCase$Script;LCapitalCase$Judge;)V"⟩ ∈ xTB := xw 448 (by decide +kernel) (by decide +kernel)
set_option maxRecDepth 100000 in
theorem wd_450 : Cond.methodLink "CapitalCase$Planner" 3 ⟨"java/lang/Object", "<init>", "()V"⟩ ∈ xTB := xw 450 (by decide +kernel) (by decide +kernel)
set_option maxRecDepth 100000 in
theorem wd_451 : Cond.fieldLink "CapitalCase$Planner" 30 "CapitalCase$Planner" "script" "LCapitalCase$Script;" ∈ xTB := xw 451 (by decide +kernel) (by decide +kernel)
set_option maxRecDepth 100000 in
theorem wd_452 : Cond.fieldLink "CapitalCase$Planner" 34 "CapitalCase$Planner" "judge" "LCapitalCase$Judge;" ∈ xTB := xw 452 (by decide +kernel) (by decide +kernel)
set_option maxRecDepth 100000 in
theorem wd_453 : Cond.fieldLink "CapitalCase$Planner" 9 "CapitalCase$Planner" "free" "[I" ∈ xTB := xw 453 (by decide +kernel) (by decide +kernel)
set_option maxRecDepth 100000 in
theorem wd_454 : Cond.fieldLink "CapitalCase$Planner" 15 "CapitalCase$Planner" "picks" "[I" ∈ xTB := xw 454 (by decide +kernel) (by decide +kernel)
set_option maxRecDepth 100000 in
theorem wd_457 : Cond.fieldLink "CapitalCase$Planner" 18 "CapitalCase$Planner" "pays" "[I" ∈ xTB := xw 457 (by decide +kernel) (by decide +kernel)
set_option maxRecDepth 100000 in
theorem wd_458 : Cond.fieldLink "CapitalCase$TwoDays" 81 "CapitalCase$Planner" "pays" "[I" ∈ xTB := xw 458 (by decide +kernel) (by decide +kernel)
set_option maxRecDepth 100000 in
theorem wd_461 : Cond.fieldLink "CapitalCase$Planner" 42 "CapitalCase$Planner" "most" "I" ∈ xTB := xw 461 (by decide +kernel) (by decide +kernel)
set_option maxRecDepth 100000 in
theorem wd_462 : Cond.fieldLink "CapitalCase$TwoDays" 102 "CapitalCase$Planner" "most" "I" ∈ xTB := xw 462 (by decide +kernel) (by decide +kernel)
set_option maxRecDepth 100000 in
theorem wd_463 : Cond.fieldLink "CapitalCase" 269 "CapitalCase$Planner" "most" "I" ∈ xTB := xw 463 (by decide +kernel) (by decide +kernel)
set_option maxRecDepth 100000 in
theorem wd_464 : Cond.fieldLink "CapitalCase$Planner" 45 "CapitalCase$Planner" "mask" "I" ∈ xTB := xw 464 (by decide +kernel) (by decide +kernel)
set_option maxRecDepth 100000 in
theorem wd_465 : Cond.fieldLink "CapitalCase" 272 "CapitalCase$Planner" "mask" "I" ∈ xTB := xw 465 (by decide +kernel) (by decide +kernel)
set_option maxRecDepth 100000 in
theorem wd_466 : Cond.fieldLink "CapitalCase$Planner" 38 "CapitalCase$Planner" "looked" "I" ∈ xTB := xw 466 (by decide +kernel) (by decide +kernel)
set_option maxRecDepth 100000 in
theorem wd_467 : Cond.fieldLink "CapitalCase$Planner" 21 "CapitalCase$Planner" "givers" "[I" ∈ xTB := xw 467 (by decide +kernel) (by decide +kernel)
set_option maxRecDepth 100000 in
theorem wd_468 : Cond.fieldLink "CapitalCase$Planner" 24 "CapitalCase$Planner" "ranks" "[I" ∈ xTB := xw 468 (by decide +kernel) (by decide +kernel)
set_option maxRecDepth 100000 in
theorem wd_469 : Cond.fieldLink "CapitalCase$Planner" 27 "CapitalCase$Planner" "giverCount" "[I" ∈ xTB := xw 469 (by decide +kernel) (by decide +kernel)
set_option maxRecDepth 100000 in
theorem wd_495 : Cond.classLink "CapitalCase" 93 "CapitalCase$TwoDays" ∈ xTB := xw 495 (by decide +kernel) (by decide +kernel)
set_option maxRecDepth 100000 in
theorem wd_496 : Cond.instantiable "CapitalCase$TwoDays" 9 ∈ xTB := xw 496 (by decide +kernel) (by decide +kernel)
set_option maxRecDepth 100000 in
theorem wd_497 : Cond.methodLink "CapitalCase" 95 ⟨"CapitalCase$TwoDays", "<init>", "(LCapitalCase$Script;LCapitalCase$Judge;LCapitalCase$Press;LCapitalCase$Planner;)V"⟩ ∈ xTB := xw 497 (by decide +kernel) (by decide +kernel)
set_option maxRecDepth 100000 in
theorem wd_498 : Cond.instanceMethod ⟨"CapitalCase$TwoDays", "<init>", "(LCapitalCase$Script;LCapitalCase$Judge;LCapitalCase$Press;LCapitalCase$Planner;)V"⟩ ∈ xTB := xw 498 (by decide +kernel) (by decide +kernel)
set_option maxRecDepth 100000 in
theorem wd_500 : Cond.methodLink "CapitalCase$TwoDays" 3 ⟨"java/lang/Object", "<init>", "()V"⟩ ∈ xTB := xw 500 (by decide +kernel) (by decide +kernel)
set_option maxRecDepth 100000 in
theorem wd_501 : Cond.classLink "CapitalCase$TwoDays" 9 "CapitalCase$Town" ∈ xTB := xw 501 (by decide +kernel) (by decide +kernel)
set_option maxRecDepth 100000 in
theorem wd_503 : Cond.classLink "CapitalCase$TwoDays" 38 "CapitalCase$Planner" ∈ xTB := xw 503 (by decide +kernel) (by decide +kernel)
set_option maxRecDepth 100000 in
theorem wd_504 : Cond.methodLink "CapitalCase$TwoDays" 40 ⟨"CapitalCase$Planner", "<init>", "(LCapitalCase$Script;LCapitalCase$Judge;)V"⟩ ∈ xTB := xw 504 (by decide +kernel) (by decide +kernel)
set_option maxRecDepth 100000 in
theorem wd_505 : Cond.fieldLink "CapitalCase$TwoDays" 22 "CapitalCase$TwoDays" "script" "LCapitalCase$Script;" ∈ xTB := xw 505 (by decide +kernel) (by decide +kernel)
set_option maxRecDepth 100000 in
theorem wd_506 : Cond.fieldLink "CapitalCase$TwoDays" 26 "CapitalCase$TwoDays" "judge" "LCapitalCase$Judge;" ∈ xTB := xw 506 (by decide +kernel) (by decide +kernel)
set_option maxRecDepth 100000 in
theorem wd_507 : Cond.fieldLink "CapitalCase$TwoDays" 30 "CapitalCase$TwoDays" "press" "LCapitalCase$Press;" ∈ xTB := xw 507 (by decide +kernel) (by decide +kernel)
set_option maxRecDepth 100000 in
theorem wd_508 : Cond.fieldLink "CapitalCase$TwoDays" 34 "CapitalCase$TwoDays" "first" "LCapitalCase$Planner;" ∈ xTB := xw 508 (by decide +kernel) (by decide +kernel)
set_option maxRecDepth 100000 in
theorem wd_509 : Cond.fieldLink "CapitalCase$TwoDays" 43 "CapitalCase$TwoDays" "second" "LCapitalCase$Planner;" ∈ xTB := xw 509 (by decide +kernel) (by decide +kernel)
set_option maxRecDepth 100000 in
theorem wd_510 : Cond.fieldLink "CapitalCase$TwoDays" 12 "CapitalCase$TwoDays" "after" "LCapitalCase$Town;" ∈ xTB := xw 510 (by decide +kernel) (by decide +kernel)
set_option maxRecDepth 100000 in
theorem wd_511 : Cond.fieldLink "CapitalCase$TwoDays" 75 "CapitalCase$TwoDays" "most" "I" ∈ xTB := xw 511 (by decide +kernel) (by decide +kernel)
set_option maxRecDepth 100000 in
theorem wd_512 : Cond.fieldLink "CapitalCase" 281 "CapitalCase$TwoDays" "most" "I" ∈ xTB := xw 512 (by decide +kernel) (by decide +kernel)
set_option maxRecDepth 100000 in
theorem wd_513 : Cond.fieldLink "CapitalCase$TwoDays" 78 "CapitalCase$TwoDays" "mask" "I" ∈ xTB := xw 513 (by decide +kernel) (by decide +kernel)
set_option maxRecDepth 100000 in
theorem wd_514 : Cond.fieldLink "CapitalCase" 282 "CapitalCase$TwoDays" "mask" "I" ∈ xTB := xw 514 (by decide +kernel) (by decide +kernel)
set_option maxRecDepth 100000 in
theorem wd_515 : Cond.fieldLink "CapitalCase$TwoDays" 18 "CapitalCase$TwoDays" "paysLater" "[I" ∈ xTB := xw 515 (by decide +kernel) (by decide +kernel)
set_option maxRecDepth 100000 in
theorem wd_535 : Cond.classLink "CapitalCase" 102 "CapitalCase$Trade" ∈ xTB := xw 535 (by decide +kernel) (by decide +kernel)
set_option maxRecDepth 100000 in
theorem wd_536 : Cond.instantiable "CapitalCase$Trade" 3 ∈ xTB := xw 536 (by decide +kernel) (by decide +kernel)
set_option maxRecDepth 100000 in
theorem wd_537 : Cond.methodLink "CapitalCase" 104 ⟨"CapitalCase$Trade", "<init>", "(LCapitalCase$Script;)V"⟩ ∈ xTB := xw 537 (by decide +kernel) (by decide +kernel)
set_option maxRecDepth 100000 in
theorem wd_538 : Cond.instanceMethod ⟨"CapitalCase$Trade", "<init>", "(LCapitalCase$Script;)V"⟩ ∈ xTB := xw 538 (by decide +kernel) (by decide +kernel)
set_option maxRecDepth 100000 in
theorem wd_540 : Cond.methodLink "CapitalCase$Trade" 3 ⟨"java/lang/Object", "<init>", "()V"⟩ ∈ xTB := xw 540 (by decide +kernel) (by decide +kernel)
set_option maxRecDepth 100000 in
theorem wd_541 : Cond.fieldLink "CapitalCase$Trade" 9 "CapitalCase$Trade" "script" "LCapitalCase$Script;" ∈ xTB := xw 541 (by decide +kernel) (by decide +kernel)
set_option maxRecDepth 100000 in
theorem wd_542 : Cond.fieldLink "CapitalCase$Trade" 41 "CapitalCase$Trade" "bargains" "I" ∈ xTB := xw 542 (by decide +kernel) (by decide +kernel)
set_option maxRecDepth 100000 in
theorem wd_543 : Cond.fieldLink "CapitalCase" 289 "CapitalCase$Trade" "bargains" "I" ∈ xTB := xw 543 (by decide +kernel) (by decide +kernel)
set_option maxRecDepth 100000 in
theorem wd_544 : Cond.fieldLink "CapitalCase$Trade" 44 "CapitalCase$Trade" "first" "I" ∈ xTB := xw 544 (by decide +kernel) (by decide +kernel)
set_option maxRecDepth 100000 in
theorem wd_545 : Cond.fieldLink "CapitalCase" 292 "CapitalCase$Trade" "first" "I" ∈ xTB := xw 545 (by decide +kernel) (by decide +kernel)
set_option maxRecDepth 100000 in
theorem wd_553 : Cond.fieldLink "CapitalCase" 9 "CapitalCase" "tape" "[B" ∈ xTB := xw 553 (by decide +kernel) (by decide +kernel)
set_option maxRecDepth 100000 in
theorem wd_554 : Cond.fieldLink "CapitalCase" 13 "CapitalCase" "tapeSize" "I" ∈ xTB := xw 554 (by decide +kernel) (by decide +kernel)
set_option maxRecDepth 100000 in
theorem wd_555 : Cond.fieldLink "CapitalCase" 17 "CapitalCase" "faultPlace" "I" ∈ xTB := xw 555 (by decide +kernel) (by decide +kernel)
set_option maxRecDepth 100000 in
theorem wd_556 : Cond.fieldLink "CapitalCase" 23 "CapitalCase" "script" "LCapitalCase$Script;" ∈ xTB := xw 556 (by decide +kernel) (by decide +kernel)
set_option maxRecDepth 100000 in
theorem wd_557 : Cond.fieldLink "CapitalCase" 32 "CapitalCase" "parser" "LCapitalCase$Parser;" ∈ xTB := xw 557 (by decide +kernel) (by decide +kernel)
set_option maxRecDepth 100000 in
theorem wd_558 : Cond.fieldLink "CapitalCase" 39 "CapitalCase" "town" "LCapitalCase$Town;" ∈ xTB := xw 558 (by decide +kernel) (by decide +kernel)
set_option maxRecDepth 100000 in
theorem wd_559 : Cond.fieldLink "CapitalCase" 43 "CapitalCase" "scratch" "LCapitalCase$Town;" ∈ xTB := xw 559 (by decide +kernel) (by decide +kernel)
set_option maxRecDepth 100000 in
theorem wd_560 : Cond.fieldLink "CapitalCase" 49 "CapitalCase" "history" "LCapitalCase$History;" ∈ xTB := xw 560 (by decide +kernel) (by decide +kernel)
set_option maxRecDepth 100000 in
theorem wd_561 : Cond.fieldLink "CapitalCase" 53 "CapitalCase" "slots" "[LCapitalCase$Town;" ∈ xTB := xw 561 (by decide +kernel) (by decide +kernel)
set_option maxRecDepth 100000 in
theorem wd_562 : Cond.fieldLink "CapitalCase" 57 "CapitalCase" "held" "[Z" ∈ xTB := xw 562 (by decide +kernel) (by decide +kernel)
set_option maxRecDepth 100000 in
theorem wd_563 : Cond.fieldLink "CapitalCase" 64 "CapitalCase" "prints" "LCapitalCase$Prints;" ∈ xTB := xw 563 (by decide +kernel) (by decide +kernel)
set_option maxRecDepth 100000 in
theorem wd_564 : Cond.fieldLink "CapitalCase" 73 "CapitalCase" "judge" "LCapitalCase$Judge;" ∈ xTB := xw 564 (by decide +kernel) (by decide +kernel)
set_option maxRecDepth 100000 in
theorem wd_565 : Cond.fieldLink "CapitalCase" 82 "CapitalCase" "press" "LCapitalCase$Press;" ∈ xTB := xw 565 (by decide +kernel) (by decide +kernel)
set_option maxRecDepth 100000 in
theorem wd_566 : Cond.fieldLink "CapitalCase" 89 "CapitalCase" "planner" "LCapitalCase$Planner;" ∈ xTB := xw 566 (by decide +kernel) (by decide +kernel)
set_option maxRecDepth 100000 in
theorem wd_567 : Cond.fieldLink "CapitalCase" 98 "CapitalCase" "pairOfDays" "LCapitalCase$TwoDays;" ∈ xTB := xw 567 (by decide +kernel) (by decide +kernel)
set_option maxRecDepth 100000 in
theorem wd_568 : Cond.fieldLink "CapitalCase" 105 "CapitalCase" "trade" "LCapitalCase$Trade;" ∈ xTB := xw 568 (by decide +kernel) (by decide +kernel)
set_option maxRecDepth 100000 in
theorem wd_602 : Cond.methodLink "CapitalCaseLaw" 13 ⟨"CapitalCase", "feed", "(IIIII)I"⟩ ∈ xTB := xw 602 (by decide +kernel) (by decide +kernel)
set_option maxRecDepth 100000 in
theorem wd_603 : Cond.instanceMethod ⟨"CapitalCase", "feed", "(IIIII)I"⟩ ∈ xTB := xw 603 (by decide +kernel) (by decide +kernel)
set_option maxRecDepth 100000 in
theorem wd_604 : Cond.selects "CapitalCase" ⟨"CapitalCase", "feed", "(IIIII)I"⟩ ⟨"CapitalCase", "feed", "(IIIII)I"⟩ ∈ xTB := xw 604 (by decide +kernel) (by decide +kernel)
set_option maxRecDepth 100000 in
theorem wd_606 : Cond.methodLink "CapitalCase" 109 ⟨"CapitalCase", "append", "(I)V"⟩ ∈ xTB := xw 606 (by decide +kernel) (by decide +kernel)
set_option maxRecDepth 100000 in
theorem wd_608 : Cond.instanceMethod ⟨"CapitalCase", "append", "(I)V"⟩ ∈ xTB := xw 608 (by decide +kernel) (by decide +kernel)
set_option maxRecDepth 100000 in
theorem wd_610 : Cond.methodLink "CapitalCaseLaw" 18 ⟨"CapitalCase", "back", "(I)I"⟩ ∈ xTB := xw 610 (by decide +kernel) (by decide +kernel)
set_option maxRecDepth 100000 in
theorem wd_611 : Cond.instanceMethod ⟨"CapitalCase", "back", "(I)I"⟩ ∈ xTB := xw 611 (by decide +kernel) (by decide +kernel)
set_option maxRecDepth 100000 in
theorem wd_612 : Cond.selects "CapitalCase" ⟨"CapitalCase", "back", "(I)I"⟩ ⟨"CapitalCase", "back", "(I)I"⟩ ∈ xTB := xw 612 (by decide +kernel) (by decide +kernel)
set_option maxRecDepth 100000 in
theorem wd_614 : Cond.methodLink "CapitalCaseLaw" 23 ⟨"CapitalCase", "read", "()I"⟩ ∈ xTB := xw 614 (by decide +kernel) (by decide +kernel)
set_option maxRecDepth 100000 in
theorem wd_615 : Cond.instanceMethod ⟨"CapitalCase", "read", "()I"⟩ ∈ xTB := xw 615 (by decide +kernel) (by decide +kernel)
set_option maxRecDepth 100000 in
theorem wd_616 : Cond.selects "CapitalCase" ⟨"CapitalCase", "read", "()I"⟩ ⟨"CapitalCase", "read", "()I"⟩ ∈ xTB := xw 616 (by decide +kernel) (by decide +kernel)
set_option maxRecDepth 100000 in
theorem wd_618 : Cond.methodLink "CapitalCase" 113 ⟨"CapitalCase$Parser", "parse", "(I)I"⟩ ∈ xTB := xw 618 (by decide +kernel) (by decide +kernel)
set_option maxRecDepth 100000 in
theorem wd_619 : Cond.instanceMethod ⟨"CapitalCase$Parser", "parse", "(I)I"⟩ ∈ xTB := xw 619 (by decide +kernel) (by decide +kernel)
set_option maxRecDepth 100000 in
theorem wd_620 : Cond.selects "CapitalCase$Parser" ⟨"CapitalCase$Parser", "parse", "(I)I"⟩ ⟨"CapitalCase$Parser", "parse", "(I)I"⟩ ∈ xTB := xw 620 (by decide +kernel) (by decide +kernel)
set_option maxRecDepth 100000 in
theorem wd_622 : Cond.methodLink "CapitalCase$Parser" 33 ⟨"CapitalCase$Script", "wipe", "()V"⟩ ∈ xTB := xw 622 (by decide +kernel) (by decide +kernel)
set_option maxRecDepth 100000 in
theorem wd_623 : Cond.methodLink "CapitalCase$Parser" 36 ⟨"CapitalCase$Tokens", "scan", "([BI)V"⟩ ∈ xTB := xw 623 (by decide +kernel) (by decide +kernel)
set_option maxRecDepth 100000 in
theorem wd_624 : Cond.instanceMethod ⟨"CapitalCase$Tokens", "scan", "([BI)V"⟩ ∈ xTB := xw 624 (by decide +kernel) (by decide +kernel)
set_option maxRecDepth 100000 in
theorem wd_625 : Cond.selects "CapitalCase$Tokens" ⟨"CapitalCase$Tokens", "scan", "([BI)V"⟩ ⟨"CapitalCase$Tokens", "scan", "([BI)V"⟩ ∈ xTB := xw 625 (by decide +kernel) (by decide +kernel)
set_option maxRecDepth 100000 in
theorem wd_713 : Cond.static ⟨"java/lang/Math", "max", "(II)I"⟩ ∈ xTB := xw 713 (by decide +kernel) (by decide +kernel)
set_option maxRecDepth 100000 in
theorem wd_716 : Cond.static ⟨"java/lang/Math", "min", "(II)I"⟩ ∈ xTB := xw 716 (by decide +kernel) (by decide +kernel)
set_option maxRecDepth 100000 in
theorem wd_756 : Cond.methodLink "CapitalCase$Parser" 53 ⟨"CapitalCase$Parser", "next", "()I"⟩ ∈ xTB := xw 756 (by decide +kernel) (by decide +kernel)
set_option maxRecDepth 100000 in
theorem wd_758 : Cond.instanceMethod ⟨"CapitalCase$Parser", "next", "()I"⟩ ∈ xTB := xw 758 (by decide +kernel) (by decide +kernel)
set_option maxRecDepth 100000 in
theorem wd_825 : Cond.methodLink "CapitalCase" 121 ⟨"CapitalCase$Script", "become", "(LCapitalCase$Script;)V"⟩ ∈ xTB := xw 825 (by decide +kernel) (by decide +kernel)
set_option maxRecDepth 100000 in
theorem wd_826 : Cond.instanceMethod ⟨"CapitalCase$Script", "become", "(LCapitalCase$Script;)V"⟩ ∈ xTB := xw 826 (by decide +kernel) (by decide +kernel)
set_option maxRecDepth 100000 in
theorem wd_827 : Cond.selects "CapitalCase$Script" ⟨"CapitalCase$Script", "become", "(LCapitalCase$Script;)V"⟩ ⟨"CapitalCase$Script", "become", "(LCapitalCase$Script;)V"⟩ ∈ xTB := xw 827 (by decide +kernel) (by decide +kernel)
set_option maxRecDepth 100000 in
theorem wd_829 : Cond.methodLink "CapitalCase$Script" 79 ⟨"java/lang/System", "arraycopy", "(Ljava/lang/Object;ILjava/lang/Object;II)V"⟩ ∈ xTB := xw 829 (by decide +kernel) (by decide +kernel)
set_option maxRecDepth 100000 in
theorem wd_830 : Cond.static ⟨"java/lang/System", "arraycopy", "(Ljava/lang/Object;ILjava/lang/Object;II)V"⟩ ∈ xTB := xw 830 (by decide +kernel) (by decide +kernel)
set_option maxRecDepth 100000 in
theorem wd_831 : Cond.native ⟨"java/lang/System", "arraycopy", "(Ljava/lang/Object;ILjava/lang/Object;II)V"⟩ ∈ xTB := xw 831 (by decide +kernel) (by decide +kernel)
set_option maxRecDepth 100000 in
theorem wd_832 : Cond.methodLink "CapitalCase" 124 ⟨"CapitalCase", "beginAnew", "()V"⟩ ∈ xTB := xw 832 (by decide +kernel) (by decide +kernel)
set_option maxRecDepth 100000 in
theorem wd_834 : Cond.instanceMethod ⟨"CapitalCase", "beginAnew", "()V"⟩ ∈ xTB := xw 834 (by decide +kernel) (by decide +kernel)
set_option maxRecDepth 100000 in
theorem wd_836 : Cond.methodLink "CapitalCase" 127 ⟨"CapitalCase$Town", "begin", "(LCapitalCase$Script;)V"⟩ ∈ xTB := xw 836 (by decide +kernel) (by decide +kernel)
set_option maxRecDepth 100000 in
theorem wd_837 : Cond.instanceMethod ⟨"CapitalCase$Town", "begin", "(LCapitalCase$Script;)V"⟩ ∈ xTB := xw 837 (by decide +kernel) (by decide +kernel)
set_option maxRecDepth 100000 in
theorem wd_838 : Cond.selects "CapitalCase$Town" ⟨"CapitalCase$Town", "begin", "(LCapitalCase$Script;)V"⟩ ⟨"CapitalCase$Town", "begin", "(LCapitalCase$Script;)V"⟩ ∈ xTB := xw 838 (by decide +kernel) (by decide +kernel)
set_option maxRecDepth 100000 in
theorem wd_840 : Cond.methodLink "CapitalCase$Town" 32 ⟨"java/lang/System", "arraycopy", "(Ljava/lang/Object;ILjava/lang/Object;II)V"⟩ ∈ xTB := xw 840 (by decide +kernel) (by decide +kernel)
set_option maxRecDepth 100000 in
theorem wd_841 : Cond.methodLink "CapitalCase$Town" 38 ⟨"java/util/Arrays", "fill", "([II)V"⟩ ∈ xTB := xw 841 (by decide +kernel) (by decide +kernel)
set_option maxRecDepth 100000 in
theorem wd_842 : Cond.methodLink "CapitalCaseLaw" 28 ⟨"CapitalCase", "place", "()I"⟩ ∈ xTB := xw 842 (by decide +kernel) (by decide +kernel)
set_option maxRecDepth 100000 in
theorem wd_843 : Cond.instanceMethod ⟨"CapitalCase", "place", "()I"⟩ ∈ xTB := xw 843 (by decide +kernel) (by decide +kernel)
set_option maxRecDepth 100000 in
theorem wd_844 : Cond.selects "CapitalCase" ⟨"CapitalCase", "place", "()I"⟩ ⟨"CapitalCase", "place", "()I"⟩ ∈ xTB := xw 844 (by decide +kernel) (by decide +kernel)
set_option maxRecDepth 100000 in
theorem wd_846 : Cond.methodLink "CapitalCaseLaw" 32 ⟨"CapitalCase", "house", "(III)I"⟩ ∈ xTB := xw 846 (by decide +kernel) (by decide +kernel)
set_option maxRecDepth 100000 in
theorem wd_847 : Cond.instanceMethod ⟨"CapitalCase", "house", "(III)I"⟩ ∈ xTB := xw 847 (by decide +kernel) (by decide +kernel)
set_option maxRecDepth 100000 in
theorem wd_848 : Cond.selects "CapitalCase" ⟨"CapitalCase", "house", "(III)I"⟩ ⟨"CapitalCase", "house", "(III)I"⟩ ∈ xTB := xw 848 (by decide +kernel) (by decide +kernel)
set_option maxRecDepth 100000 in
theorem wd_850 : Cond.methodLink "CapitalCase" 147 ⟨"CapitalCase", "isCell", "(II)Z"⟩ ∈ xTB := xw 850 (by decide +kernel) (by decide +kernel)
set_option maxRecDepth 100000 in
theorem wd_852 : Cond.instanceMethod ⟨"CapitalCase", "isCell", "(II)Z"⟩ ∈ xTB := xw 852 (by decide +kernel) (by decide +kernel)
set_option maxRecDepth 100000 in
theorem wd_854 : Cond.methodLink "CapitalCase" 137 ⟨"CapitalCase", "isHouse", "(I)Z"⟩ ∈ xTB := xw 854 (by decide +kernel) (by decide +kernel)
set_option maxRecDepth 100000 in
theorem wd_856 : Cond.instanceMethod ⟨"CapitalCase", "isHouse", "(I)Z"⟩ ∈ xTB := xw 856 (by decide +kernel) (by decide +kernel)
set_option maxRecDepth 100000 in
theorem wd_859 : Cond.instanceMethod ⟨"CapitalCase$Town", "free", "(I)I"⟩ ∈ xTB := xw 859 (by decide +kernel) (by decide +kernel)
set_option maxRecDepth 100000 in
theorem wd_860 : Cond.selects "CapitalCase$Town" ⟨"CapitalCase$Town", "free", "(I)I"⟩ ⟨"CapitalCase$Town", "free", "(I)I"⟩ ∈ xTB := xw 860 (by decide +kernel) (by decide +kernel)
set_option maxRecDepth 100000 in
theorem wd_862 : Cond.methodLink "CapitalCase$Town" 60 ⟨"java/lang/Math", "max", "(II)I"⟩ ∈ xTB := xw 862 (by decide +kernel) (by decide +kernel)
set_option maxRecDepth 100000 in
theorem wd_890 : Cond.methodLink "CapitalCaseLaw" 37 ⟨"CapitalCase", "verse", "(II)I"⟩ ∈ xTB := xw 890 (by decide +kernel) (by decide +kernel)
set_option maxRecDepth 100000 in
theorem wd_891 : Cond.instanceMethod ⟨"CapitalCase", "verse", "(II)I"⟩ ∈ xTB := xw 891 (by decide +kernel) (by decide +kernel)
set_option maxRecDepth 100000 in
theorem wd_892 : Cond.selects "CapitalCase" ⟨"CapitalCase", "verse", "(II)I"⟩ ⟨"CapitalCase", "verse", "(II)I"⟩ ∈ xTB := xw 892 (by decide +kernel) (by decide +kernel)
set_option maxRecDepth 100000 in
theorem wd_894 : Cond.methodLink "CapitalCase" 175 ⟨"CapitalCase", "isVerse", "(I)Z"⟩ ∈ xTB := xw 894 (by decide +kernel) (by decide +kernel)
set_option maxRecDepth 100000 in
theorem wd_896 : Cond.instanceMethod ⟨"CapitalCase", "isVerse", "(I)Z"⟩ ∈ xTB := xw 896 (by decide +kernel) (by decide +kernel)
set_option maxRecDepth 100000 in
theorem wd_910 : Cond.methodLink "CapitalCaseLaw" 42 ⟨"CapitalCase", "wants", "(II)I"⟩ ∈ xTB := xw 910 (by decide +kernel) (by decide +kernel)
set_option maxRecDepth 100000 in
theorem wd_911 : Cond.instanceMethod ⟨"CapitalCase", "wants", "(II)I"⟩ ∈ xTB := xw 911 (by decide +kernel) (by decide +kernel)
set_option maxRecDepth 100000 in
theorem wd_912 : Cond.selects "CapitalCase" ⟨"CapitalCase", "wants", "(II)I"⟩ ⟨"CapitalCase", "wants", "(II)I"⟩ ∈ xTB := xw 912 (by decide +kernel) (by decide +kernel)
set_option maxRecDepth 100000 in
theorem wd_914 : Cond.methodLink "CapitalCaseLaw" 46 ⟨"CapitalCase", "tells", "(IIII)I"⟩ ∈ xTB := xw 914 (by decide +kernel) (by decide +kernel)
set_option maxRecDepth 100000 in
theorem wd_915 : Cond.instanceMethod ⟨"CapitalCase", "tells", "(IIII)I"⟩ ∈ xTB := xw 915 (by decide +kernel) (by decide +kernel)
set_option maxRecDepth 100000 in
theorem wd_916 : Cond.selects "CapitalCase" ⟨"CapitalCase", "tells", "(IIII)I"⟩ ⟨"CapitalCase", "tells", "(IIII)I"⟩ ∈ xTB := xw 916 (by decide +kernel) (by decide +kernel)
set_option maxRecDepth 100000 in
theorem wd_918 : Cond.constant "CapitalCase" 205 (-1000000000) ∈ xTB := xw 918 (by decide +kernel) (by decide +kernel)
set_option maxRecDepth 100000 in
theorem wd_927 : Cond.methodLink "CapitalCaseLaw" 51 ⟨"CapitalCase", "set", "(I)Z"⟩ ∈ xTB := xw 927 (by decide +kernel) (by decide +kernel)
set_option maxRecDepth 100000 in
theorem wd_928 : Cond.instanceMethod ⟨"CapitalCase", "set", "(I)Z"⟩ ∈ xTB := xw 928 (by decide +kernel) (by decide +kernel)
set_option maxRecDepth 100000 in
theorem wd_929 : Cond.selects "CapitalCase" ⟨"CapitalCase", "set", "(I)Z"⟩ ⟨"CapitalCase", "set", "(I)Z"⟩ ∈ xTB := xw 929 (by decide +kernel) (by decide +kernel)
set_option maxRecDepth 100000 in
theorem wd_935 : Cond.methodLink "CapitalCase" 144 ⟨"CapitalCase$Town", "open", "(I)I"⟩ ∈ xTB := xw 935 (by decide +kernel) (by decide +kernel)
set_option maxRecDepth 100000 in
theorem wd_936 : Cond.instanceMethod ⟨"CapitalCase$Town", "open", "(I)I"⟩ ∈ xTB := xw 936 (by decide +kernel) (by decide +kernel)
set_option maxRecDepth 100000 in
theorem wd_937 : Cond.selects "CapitalCase$Town" ⟨"CapitalCase$Town", "open", "(I)I"⟩ ⟨"CapitalCase$Town", "open", "(I)I"⟩ ∈ xTB := xw 937 (by decide +kernel) (by decide +kernel)
set_option maxRecDepth 100000 in
theorem wd_944 : Cond.instanceMethod ⟨"CapitalCase$Planner", "prepare", "(LCapitalCase$Town;I)V"⟩ ∈ xTB := xw 944 (by decide +kernel) (by decide +kernel)
set_option maxRecDepth 100000 in
theorem wd_945 : Cond.selects "CapitalCase$Planner" ⟨"CapitalCase$Planner", "prepare", "(LCapitalCase$Town;I)V"⟩ ⟨"CapitalCase$Planner", "prepare", "(LCapitalCase$Town;I)V"⟩ ∈ xTB := xw 945 (by decide +kernel) (by decide +kernel)
set_option maxRecDepth 100000 in
theorem wd_947 : Cond.methodLink "CapitalCase$Planner" 48 ⟨"CapitalCase$Town", "free", "(I)I"⟩ ∈ xTB := xw 947 (by decide +kernel) (by decide +kernel)
set_option maxRecDepth 100000 in
theorem wd_967 : Cond.methodLink "CapitalCase" 220 ⟨"CapitalCase$History", "keep", "(LCapitalCase$Town;)V"⟩ ∈ xTB := xw 967 (by decide +kernel) (by decide +kernel)
set_option maxRecDepth 100000 in
theorem wd_968 : Cond.instanceMethod ⟨"CapitalCase$History", "keep", "(LCapitalCase$Town;)V"⟩ ∈ xTB := xw 968 (by decide +kernel) (by decide +kernel)
set_option maxRecDepth 100000 in
theorem wd_969 : Cond.selects "CapitalCase$History" ⟨"CapitalCase$History", "keep", "(LCapitalCase$Town;)V"⟩ ⟨"CapitalCase$History", "keep", "(LCapitalCase$Town;)V"⟩ ∈ xTB := xw 969 (by decide +kernel) (by decide +kernel)
set_option maxRecDepth 100000 in
theorem wd_972 : Cond.methodLink "CapitalCase$History" 20 ⟨"CapitalCase$Town", "become", "(LCapitalCase$Town;)V"⟩ ∈ xTB := xw 972 (by decide +kernel) (by decide +kernel)
set_option maxRecDepth 100000 in
theorem wd_973 : Cond.instanceMethod ⟨"CapitalCase$Town", "become", "(LCapitalCase$Town;)V"⟩ ∈ xTB := xw 973 (by decide +kernel) (by decide +kernel)
set_option maxRecDepth 100000 in
theorem wd_974 : Cond.selects "CapitalCase$Town" ⟨"CapitalCase$Town", "become", "(LCapitalCase$Town;)V"⟩ ⟨"CapitalCase$Town", "become", "(LCapitalCase$Town;)V"⟩ ∈ xTB := xw 974 (by decide +kernel) (by decide +kernel)
set_option maxRecDepth 100000 in
theorem wd_976 : Cond.methodLink "CapitalCase$History" 27 ⟨"java/lang/Math", "min", "(II)I"⟩ ∈ xTB := xw 976 (by decide +kernel) (by decide +kernel)
set_option maxRecDepth 100000 in
theorem wd_981 : Cond.methodLink "CapitalCaseLaw" 56 ⟨"CapitalCase", "clear", "(I)Z"⟩ ∈ xTB := xw 981 (by decide +kernel) (by decide +kernel)
set_option maxRecDepth 100000 in
theorem wd_982 : Cond.instanceMethod ⟨"CapitalCase", "clear", "(I)Z"⟩ ∈ xTB := xw 982 (by decide +kernel) (by decide +kernel)
set_option maxRecDepth 100000 in
theorem wd_983 : Cond.selects "CapitalCase" ⟨"CapitalCase", "clear", "(I)Z"⟩ ⟨"CapitalCase", "clear", "(I)Z"⟩ ∈ xTB := xw 983 (by decide +kernel) (by decide +kernel)
set_option maxRecDepth 100000 in
theorem wd_989 : Cond.methodLink "CapitalCaseLaw" 60 ⟨"CapitalCase", "lend", "(III)Z"⟩ ∈ xTB := xw 989 (by decide +kernel) (by decide +kernel)
set_option maxRecDepth 100000 in
theorem wd_990 : Cond.instanceMethod ⟨"CapitalCase", "lend", "(III)Z"⟩ ∈ xTB := xw 990 (by decide +kernel) (by decide +kernel)
set_option maxRecDepth 100000 in
theorem wd_991 : Cond.selects "CapitalCase" ⟨"CapitalCase", "lend", "(III)Z"⟩ ⟨"CapitalCase", "lend", "(III)Z"⟩ ∈ xTB := xw 991 (by decide +kernel) (by decide +kernel)
set_option maxRecDepth 100000 in
theorem wd_997 : Cond.methodLink "CapitalCaseLaw" 65 ⟨"CapitalCase", "giveBack", "(III)Z"⟩ ∈ xTB := xw 997 (by decide +kernel) (by decide +kernel)
set_option maxRecDepth 100000 in
theorem wd_998 : Cond.instanceMethod ⟨"CapitalCase", "giveBack", "(III)Z"⟩ ∈ xTB := xw 998 (by decide +kernel) (by decide +kernel)
set_option maxRecDepth 100000 in
theorem wd_999 : Cond.selects "CapitalCase" ⟨"CapitalCase", "giveBack", "(III)Z"⟩ ⟨"CapitalCase", "giveBack", "(III)Z"⟩ ∈ xTB := xw 999 (by decide +kernel) (by decide +kernel)
set_option maxRecDepth 100000 in
theorem wd_1001 : Cond.methodLink "CapitalCaseLaw" 69 ⟨"CapitalCase", "days", "(I)I"⟩ ∈ xTB := xw 1001 (by decide +kernel) (by decide +kernel)
set_option maxRecDepth 100000 in
theorem wd_1002 : Cond.instanceMethod ⟨"CapitalCase", "days", "(I)I"⟩ ∈ xTB := xw 1002 (by decide +kernel) (by decide +kernel)
set_option maxRecDepth 100000 in
theorem wd_1003 : Cond.selects "CapitalCase" ⟨"CapitalCase", "days", "(I)I"⟩ ⟨"CapitalCase", "days", "(I)I"⟩ ∈ xTB := xw 1003 (by decide +kernel) (by decide +kernel)
set_option maxRecDepth 100000 in
theorem wd_1005 : Cond.methodLink "CapitalCase" 252 ⟨"CapitalCase$Press", "passDays", "(LCapitalCase$Town;II)V"⟩ ∈ xTB := xw 1005 (by decide +kernel) (by decide +kernel)
set_option maxRecDepth 100000 in
theorem wd_1006 : Cond.instanceMethod ⟨"CapitalCase$Press", "passDays", "(LCapitalCase$Town;II)V"⟩ ∈ xTB := xw 1006 (by decide +kernel) (by decide +kernel)
set_option maxRecDepth 100000 in
theorem wd_1007 : Cond.selects "CapitalCase$Press" ⟨"CapitalCase$Press", "passDays", "(LCapitalCase$Town;II)V"⟩ ⟨"CapitalCase$Press", "passDays", "(LCapitalCase$Town;II)V"⟩ ∈ xTB := xw 1007 (by decide +kernel) (by decide +kernel)
set_option maxRecDepth 100000 in
theorem wd_1009 : Cond.methodLink "CapitalCase$Press" 19 ⟨"CapitalCase$Press", "work", "(LCapitalCase$Town;)V"⟩ ∈ xTB := xw 1009 (by decide +kernel) (by decide +kernel)
set_option maxRecDepth 100000 in
theorem wd_1010 : Cond.instanceMethod ⟨"CapitalCase$Press", "work", "(LCapitalCase$Town;)V"⟩ ∈ xTB := xw 1010 (by decide +kernel) (by decide +kernel)
set_option maxRecDepth 100000 in
theorem wd_1011 : Cond.selects "CapitalCase$Press" ⟨"CapitalCase$Press", "work", "(LCapitalCase$Town;)V"⟩ ⟨"CapitalCase$Press", "work", "(LCapitalCase$Town;)V"⟩ ∈ xTB := xw 1011 (by decide +kernel) (by decide +kernel)
set_option maxRecDepth 100000 in
theorem wd_1013 : Cond.methodLink "CapitalCase$Press" 53 ⟨"CapitalCase$Press", "owed", "(LCapitalCase$Town;)I"⟩ ∈ xTB := xw 1013 (by decide +kernel) (by decide +kernel)
set_option maxRecDepth 100000 in
theorem wd_1014 : Cond.instanceMethod ⟨"CapitalCase$Press", "owed", "(LCapitalCase$Town;)I"⟩ ∈ xTB := xw 1014 (by decide +kernel) (by decide +kernel)
set_option maxRecDepth 100000 in
theorem wd_1015 : Cond.selects "CapitalCase$Press" ⟨"CapitalCase$Press", "owed", "(LCapitalCase$Town;)I"⟩ ⟨"CapitalCase$Press", "owed", "(LCapitalCase$Town;)I"⟩ ∈ xTB := xw 1015 (by decide +kernel) (by decide +kernel)
set_option maxRecDepth 100000 in
theorem wd_1028 : Cond.methodLink "CapitalCase$Press" 23 ⟨"CapitalCase$Press", "steal", "(LCapitalCase$Town;I)V"⟩ ∈ xTB := xw 1028 (by decide +kernel) (by decide +kernel)
set_option maxRecDepth 100000 in
theorem wd_1030 : Cond.instanceMethod ⟨"CapitalCase$Press", "steal", "(LCapitalCase$Town;I)V"⟩ ∈ xTB := xw 1030 (by decide +kernel) (by decide +kernel)
set_option maxRecDepth 100000 in
theorem wd_1032 : Cond.methodLink "CapitalCase$Press" 94 ⟨"CapitalCase$Press", "thievesCome", "(II)Z"⟩ ∈ xTB := xw 1032 (by decide +kernel) (by decide +kernel)
set_option maxRecDepth 100000 in
theorem wd_1033 : Cond.instanceMethod ⟨"CapitalCase$Press", "thievesCome", "(II)Z"⟩ ∈ xTB := xw 1033 (by decide +kernel) (by decide +kernel)
set_option maxRecDepth 100000 in
theorem wd_1034 : Cond.selects "CapitalCase$Press" ⟨"CapitalCase$Press", "thievesCome", "(II)Z"⟩ ⟨"CapitalCase$Press", "thievesCome", "(II)Z"⟩ ∈ xTB := xw 1034 (by decide +kernel) (by decide +kernel)
set_option maxRecDepth 100000 in
theorem wd_1036 : Cond.methodLink "CapitalCase$Press" 87 ⟨"CapitalCase$Press", "lot", "(III)I"⟩ ∈ xTB := xw 1036 (by decide +kernel) (by decide +kernel)
set_option maxRecDepth 100000 in
theorem wd_1037 : Cond.static ⟨"CapitalCase$Press", "lot", "(III)I"⟩ ∈ xTB := xw 1037 (by decide +kernel) (by decide +kernel)
set_option maxRecDepth 100000 in
theorem wd_1039 : Cond.methodLink "CapitalCase$Press" 101 ⟨"CapitalCase$Press", "mix", "(II)I"⟩ ∈ xTB := xw 1039 (by decide +kernel) (by decide +kernel)
set_option maxRecDepth 100000 in
theorem wd_1040 : Cond.static ⟨"CapitalCase$Press", "mix", "(II)I"⟩ ∈ xTB := xw 1040 (by decide +kernel) (by decide +kernel)
set_option maxRecDepth 100000 in
theorem wd_1042 : Cond.constant "CapitalCase$Press" 104 1103515245 ∈ xTB := xw 1042 (by decide +kernel) (by decide +kernel)
set_option maxRecDepth 100000 in
theorem wd_1043 : Cond.methodLink "CapitalCaseLaw" 73 ⟨"CapitalCase", "undo", "()Z"⟩ ∈ xTB := xw 1043 (by decide +kernel) (by decide +kernel)
set_option maxRecDepth 100000 in
theorem wd_1044 : Cond.instanceMethod ⟨"CapitalCase", "undo", "()Z"⟩ ∈ xTB := xw 1044 (by decide +kernel) (by decide +kernel)
set_option maxRecDepth 100000 in
theorem wd_1045 : Cond.selects "CapitalCase" ⟨"CapitalCase", "undo", "()Z"⟩ ⟨"CapitalCase", "undo", "()Z"⟩ ∈ xTB := xw 1045 (by decide +kernel) (by decide +kernel)
set_option maxRecDepth 100000 in
theorem wd_1047 : Cond.methodLink "CapitalCase" 256 ⟨"CapitalCase$History", "takeBack", "(LCapitalCase$Town;)Z"⟩ ∈ xTB := xw 1047 (by decide +kernel) (by decide +kernel)
set_option maxRecDepth 100000 in
theorem wd_1048 : Cond.instanceMethod ⟨"CapitalCase$History", "takeBack", "(LCapitalCase$Town;)Z"⟩ ∈ xTB := xw 1048 (by decide +kernel) (by decide +kernel)
set_option maxRecDepth 100000 in
theorem wd_1049 : Cond.selects "CapitalCase$History" ⟨"CapitalCase$History", "takeBack", "(LCapitalCase$Town;)Z"⟩ ⟨"CapitalCase$History", "takeBack", "(LCapitalCase$Town;)Z"⟩ ∈ xTB := xw 1049 (by decide +kernel) (by decide +kernel)
set_option maxRecDepth 100000 in
theorem wd_1051 : Cond.methodLink "CapitalCaseLaw" 78 ⟨"CapitalCase", "from", "(II)I"⟩ ∈ xTB := xw 1051 (by decide +kernel) (by decide +kernel)
set_option maxRecDepth 100000 in
theorem wd_1052 : Cond.instanceMethod ⟨"CapitalCase", "from", "(II)I"⟩ ∈ xTB := xw 1052 (by decide +kernel) (by decide +kernel)
set_option maxRecDepth 100000 in
theorem wd_1053 : Cond.selects "CapitalCase" ⟨"CapitalCase", "from", "(II)I"⟩ ⟨"CapitalCase", "from", "(II)I"⟩ ∈ xTB := xw 1053 (by decide +kernel) (by decide +kernel)
set_option maxRecDepth 100000 in
theorem wd_1055 : Cond.methodLink "CapitalCase" 260 ⟨"CapitalCase", "wants", "(II)I"⟩ ∈ xTB := xw 1055 (by decide +kernel) (by decide +kernel)
set_option maxRecDepth 100000 in
theorem wd_1056 : Cond.methodLink "CapitalCaseLaw" 82 ⟨"CapitalCase", "best", "(I)I"⟩ ∈ xTB := xw 1056 (by decide +kernel) (by decide +kernel)
set_option maxRecDepth 100000 in
theorem wd_1057 : Cond.instanceMethod ⟨"CapitalCase", "best", "(I)I"⟩ ∈ xTB := xw 1057 (by decide +kernel) (by decide +kernel)
set_option maxRecDepth 100000 in
theorem wd_1058 : Cond.selects "CapitalCase" ⟨"CapitalCase", "best", "(I)I"⟩ ⟨"CapitalCase", "best", "(I)I"⟩ ∈ xTB := xw 1058 (by decide +kernel) (by decide +kernel)
set_option maxRecDepth 100000 in
theorem wd_1060 : Cond.methodLink "CapitalCase" 266 ⟨"CapitalCase$Planner", "seek", "(LCapitalCase$Town;)V"⟩ ∈ xTB := xw 1060 (by decide +kernel) (by decide +kernel)
set_option maxRecDepth 100000 in
theorem wd_1061 : Cond.instanceMethod ⟨"CapitalCase$Planner", "seek", "(LCapitalCase$Town;)V"⟩ ∈ xTB := xw 1061 (by decide +kernel) (by decide +kernel)
set_option maxRecDepth 100000 in
theorem wd_1062 : Cond.selects "CapitalCase$Planner" ⟨"CapitalCase$Planner", "seek", "(LCapitalCase$Town;)V"⟩ ⟨"CapitalCase$Planner", "seek", "(LCapitalCase$Town;)V"⟩ ∈ xTB := xw 1062 (by decide +kernel) (by decide +kernel)
set_option maxRecDepth 100000 in
theorem wd_1064 : Cond.methodLink "CapitalCase$Planner" 100 ⟨"CapitalCase$Town", "open", "(I)I"⟩ ∈ xTB := xw 1064 (by decide +kernel) (by decide +kernel)
set_option maxRecDepth 100000 in
theorem wd_1065 : Cond.methodLink "CapitalCase$Planner" 103 ⟨"CapitalCase$Planner", "prepare", "(LCapitalCase$Town;I)V"⟩ ∈ xTB := xw 1065 (by decide +kernel) (by decide +kernel)
set_option maxRecDepth 100000 in
theorem wd_1066 : Cond.methodLink "CapitalCase$Planner" 107 ⟨"CapitalCase$Planner", "search", "()V"⟩ ∈ xTB := xw 1066 (by decide +kernel) (by decide +kernel)
set_option maxRecDepth 100000 in
theorem wd_1068 : Cond.instanceMethod ⟨"CapitalCase$Planner", "search", "()V"⟩ ∈ xTB := xw 1068 (by decide +kernel) (by decide +kernel)
set_option maxRecDepth 100000 in
theorem wd_1071 : Cond.methodLink "CapitalCase$Planner" 114 ⟨"CapitalCase$Planner", "keepIfMore", "(II)V"⟩ ∈ xTB := xw 1071 (by decide +kernel) (by decide +kernel)
set_option maxRecDepth 100000 in
theorem wd_1073 : Cond.instanceMethod ⟨"CapitalCase$Planner", "keepIfMore", "(II)V"⟩ ∈ xTB := xw 1073 (by decide +kernel) (by decide +kernel)
set_option maxRecDepth 100000 in
theorem wd_1078 : Cond.methodLink "CapitalCaseLaw" 86 ⟨"CapitalCase", "worth", "(II)I"⟩ ∈ xTB := xw 1078 (by decide +kernel) (by decide +kernel)
set_option maxRecDepth 100000 in
theorem wd_1079 : Cond.instanceMethod ⟨"CapitalCase", "worth", "(II)I"⟩ ∈ xTB := xw 1079 (by decide +kernel) (by decide +kernel)
set_option maxRecDepth 100000 in
theorem wd_1080 : Cond.selects "CapitalCase" ⟨"CapitalCase", "worth", "(II)I"⟩ ⟨"CapitalCase", "worth", "(II)I"⟩ ∈ xTB := xw 1080 (by decide +kernel) (by decide +kernel)
set_option maxRecDepth 100000 in
theorem wd_1082 : Cond.methodLink "CapitalCase" 275 ⟨"CapitalCase$Town", "become", "(LCapitalCase$Town;)V"⟩ ∈ xTB := xw 1082 (by decide +kernel) (by decide +kernel)
set_option maxRecDepth 100000 in
theorem wd_1083 : Cond.methodLink "CapitalCaseLaw" 90 ⟨"CapitalCase", "pillar", "(I)I"⟩ ∈ xTB := xw 1083 (by decide +kernel) (by decide +kernel)
set_option maxRecDepth 100000 in
theorem wd_1084 : Cond.instanceMethod ⟨"CapitalCase", "pillar", "(I)I"⟩ ∈ xTB := xw 1084 (by decide +kernel) (by decide +kernel)
set_option maxRecDepth 100000 in
theorem wd_1085 : Cond.selects "CapitalCase" ⟨"CapitalCase", "pillar", "(I)I"⟩ ⟨"CapitalCase", "pillar", "(I)I"⟩ ∈ xTB := xw 1085 (by decide +kernel) (by decide +kernel)
set_option maxRecDepth 100000 in
theorem wd_1091 : Cond.methodLink "CapitalCaseLaw" 94 ⟨"CapitalCase", "twoDays", "(I)I"⟩ ∈ xTB := xw 1091 (by decide +kernel) (by decide +kernel)
set_option maxRecDepth 100000 in
theorem wd_1092 : Cond.instanceMethod ⟨"CapitalCase", "twoDays", "(I)I"⟩ ∈ xTB := xw 1092 (by decide +kernel) (by decide +kernel)
set_option maxRecDepth 100000 in
theorem wd_1093 : Cond.selects "CapitalCase" ⟨"CapitalCase", "twoDays", "(I)I"⟩ ⟨"CapitalCase", "twoDays", "(I)I"⟩ ∈ xTB := xw 1093 (by decide +kernel) (by decide +kernel)
set_option maxRecDepth 100000 in
theorem wd_1095 : Cond.methodLink "CapitalCase" 280 ⟨"CapitalCase$TwoDays", "seek", "(LCapitalCase$Town;)V"⟩ ∈ xTB := xw 1095 (by decide +kernel) (by decide +kernel)
set_option maxRecDepth 100000 in
theorem wd_1096 : Cond.instanceMethod ⟨"CapitalCase$TwoDays", "seek", "(LCapitalCase$Town;)V"⟩ ∈ xTB := xw 1096 (by decide +kernel) (by decide +kernel)
set_option maxRecDepth 100000 in
theorem wd_1097 : Cond.selects "CapitalCase$TwoDays" ⟨"CapitalCase$TwoDays", "seek", "(LCapitalCase$Town;)V"⟩ ⟨"CapitalCase$TwoDays", "seek", "(LCapitalCase$Town;)V"⟩ ∈ xTB := xw 1097 (by decide +kernel) (by decide +kernel)
set_option maxRecDepth 100000 in
theorem wd_1099 : Cond.methodLink "CapitalCase$TwoDays" 52 ⟨"CapitalCase$Town", "open", "(I)I"⟩ ∈ xTB := xw 1099 (by decide +kernel) (by decide +kernel)
set_option maxRecDepth 100000 in
theorem wd_1100 : Cond.methodLink "CapitalCase$TwoDays" 56 ⟨"CapitalCase$Planner", "prepare", "(LCapitalCase$Town;I)V"⟩ ∈ xTB := xw 1100 (by decide +kernel) (by decide +kernel)
set_option maxRecDepth 100000 in
theorem wd_1102 : Cond.methodLink "CapitalCase$TwoDays" 69 ⟨"CapitalCase$Press", "owed", "(LCapitalCase$Town;)I"⟩ ∈ xTB := xw 1102 (by decide +kernel) (by decide +kernel)
set_option maxRecDepth 100000 in
theorem wd_1103 : Cond.methodLink "CapitalCase$TwoDays" 83 ⟨"CapitalCase$TwoDays", "total", "([II)I"⟩ ∈ xTB := xw 1103 (by decide +kernel) (by decide +kernel)
set_option maxRecDepth 100000 in
theorem wd_1105 : Cond.instanceMethod ⟨"CapitalCase$TwoDays", "total", "([II)I"⟩ ∈ xTB := xw 1105 (by decide +kernel) (by decide +kernel)
set_option maxRecDepth 100000 in
theorem wd_1107 : Cond.methodLink "CapitalCase$TwoDays" 87 ⟨"CapitalCase$TwoDays", "takeAll", "(I)Z"⟩ ∈ xTB := xw 1107 (by decide +kernel) (by decide +kernel)
set_option maxRecDepth 100000 in
theorem wd_1109 : Cond.instanceMethod ⟨"CapitalCase$TwoDays", "takeAll", "(I)Z"⟩ ∈ xTB := xw 1109 (by decide +kernel) (by decide +kernel)
set_option maxRecDepth 100000 in
theorem wd_1112 : Cond.methodLink "CapitalCase$TwoDays" 94 ⟨"CapitalCase$TwoDays", "giveUpAll", "(I)V"⟩ ∈ xTB := xw 1112 (by decide +kernel) (by decide +kernel)
set_option maxRecDepth 100000 in
theorem wd_1114 : Cond.instanceMethod ⟨"CapitalCase$TwoDays", "giveUpAll", "(I)V"⟩ ∈ xTB := xw 1114 (by decide +kernel) (by decide +kernel)
set_option maxRecDepth 100000 in
theorem wd_1117 : Cond.methodLink "CapitalCase$TwoDays" 91 ⟨"CapitalCase$TwoDays", "passFirst", "(LCapitalCase$Town;I)V"⟩ ∈ xTB := xw 1117 (by decide +kernel) (by decide +kernel)
set_option maxRecDepth 100000 in
theorem wd_1119 : Cond.instanceMethod ⟨"CapitalCase$TwoDays", "passFirst", "(LCapitalCase$Town;I)V"⟩ ∈ xTB := xw 1119 (by decide +kernel) (by decide +kernel)
set_option maxRecDepth 100000 in
theorem wd_1121 : Cond.methodLink "CapitalCase$TwoDays" 113 ⟨"CapitalCase$Town", "become", "(LCapitalCase$Town;)V"⟩ ∈ xTB := xw 1121 (by decide +kernel) (by decide +kernel)
set_option maxRecDepth 100000 in
theorem wd_1123 : Cond.methodLink "CapitalCase$TwoDays" 123 ⟨"CapitalCase$Press", "work", "(LCapitalCase$Town;)V"⟩ ∈ xTB := xw 1123 (by decide +kernel) (by decide +kernel)
set_option maxRecDepth 100000 in
theorem wd_1125 : Cond.methodLink "CapitalCase$TwoDays" 98 ⟨"CapitalCase$Planner", "seek", "(LCapitalCase$Town;)V"⟩ ∈ xTB := xw 1125 (by decide +kernel) (by decide +kernel)
set_option maxRecDepth 100000 in
theorem wd_1126 : Cond.methodLink "CapitalCaseLaw" 98 ⟨"CapitalCase", "loans", "(II)I"⟩ ∈ xTB := xw 1126 (by decide +kernel) (by decide +kernel)
set_option maxRecDepth 100000 in
theorem wd_1127 : Cond.instanceMethod ⟨"CapitalCase", "loans", "(II)I"⟩ ∈ xTB := xw 1127 (by decide +kernel) (by decide +kernel)
set_option maxRecDepth 100000 in
theorem wd_1128 : Cond.selects "CapitalCase" ⟨"CapitalCase", "loans", "(II)I"⟩ ⟨"CapitalCase", "loans", "(II)I"⟩ ∈ xTB := xw 1128 (by decide +kernel) (by decide +kernel)
set_option maxRecDepth 100000 in
theorem wd_1139 : Cond.methodLink "CapitalCaseLaw" 102 ⟨"CapitalCase", "bargains", "(I)I"⟩ ∈ xTB := xw 1139 (by decide +kernel) (by decide +kernel)
set_option maxRecDepth 100000 in
theorem wd_1140 : Cond.instanceMethod ⟨"CapitalCase", "bargains", "(I)I"⟩ ∈ xTB := xw 1140 (by decide +kernel) (by decide +kernel)
set_option maxRecDepth 100000 in
theorem wd_1141 : Cond.selects "CapitalCase" ⟨"CapitalCase", "bargains", "(I)I"⟩ ⟨"CapitalCase", "bargains", "(I)I"⟩ ∈ xTB := xw 1141 (by decide +kernel) (by decide +kernel)
set_option maxRecDepth 100000 in
theorem wd_1143 : Cond.methodLink "CapitalCase" 286 ⟨"CapitalCase$Trade", "seekBargains", "(LCapitalCase$Town;)V"⟩ ∈ xTB := xw 1143 (by decide +kernel) (by decide +kernel)
set_option maxRecDepth 100000 in
theorem wd_1144 : Cond.instanceMethod ⟨"CapitalCase$Trade", "seekBargains", "(LCapitalCase$Town;)V"⟩ ∈ xTB := xw 1144 (by decide +kernel) (by decide +kernel)
set_option maxRecDepth 100000 in
theorem wd_1145 : Cond.selects "CapitalCase$Trade" ⟨"CapitalCase$Trade", "seekBargains", "(LCapitalCase$Town;)V"⟩ ⟨"CapitalCase$Trade", "seekBargains", "(LCapitalCase$Town;)V"⟩ ∈ xTB := xw 1145 (by decide +kernel) (by decide +kernel)
set_option maxRecDepth 100000 in
theorem wd_1161 : Cond.methodLink "CapitalCaseLaw" 106 ⟨"CapitalCase", "strike", "(I)I"⟩ ∈ xTB := xw 1161 (by decide +kernel) (by decide +kernel)
set_option maxRecDepth 100000 in
theorem wd_1162 : Cond.instanceMethod ⟨"CapitalCase", "strike", "(I)I"⟩ ∈ xTB := xw 1162 (by decide +kernel) (by decide +kernel)
set_option maxRecDepth 100000 in
theorem wd_1163 : Cond.selects "CapitalCase" ⟨"CapitalCase", "strike", "(I)I"⟩ ⟨"CapitalCase", "strike", "(I)I"⟩ ∈ xTB := xw 1163 (by decide +kernel) (by decide +kernel)
set_option maxRecDepth 100000 in
theorem wd_1169 : Cond.methodLink "CapitalCaseLaw" 110 ⟨"CapitalCase", "clash", "(I)I"⟩ ∈ xTB := xw 1169 (by decide +kernel) (by decide +kernel)
set_option maxRecDepth 100000 in
theorem wd_1170 : Cond.instanceMethod ⟨"CapitalCase", "clash", "(I)I"⟩ ∈ xTB := xw 1170 (by decide +kernel) (by decide +kernel)
set_option maxRecDepth 100000 in
theorem wd_1171 : Cond.selects "CapitalCase" ⟨"CapitalCase", "clash", "(I)I"⟩ ⟨"CapitalCase", "clash", "(I)I"⟩ ∈ xTB := xw 1171 (by decide +kernel) (by decide +kernel)
set_option maxRecDepth 100000 in
theorem wd_1173 : Cond.methodLink "CapitalCaseLaw" 114 ⟨"CapitalCase", "late", "()I"⟩ ∈ xTB := xw 1173 (by decide +kernel) (by decide +kernel)
set_option maxRecDepth 100000 in
theorem wd_1174 : Cond.instanceMethod ⟨"CapitalCase", "late", "()I"⟩ ∈ xTB := xw 1174 (by decide +kernel) (by decide +kernel)
set_option maxRecDepth 100000 in
theorem wd_1175 : Cond.selects "CapitalCase" ⟨"CapitalCase", "late", "()I"⟩ ⟨"CapitalCase", "late", "()I"⟩ ∈ xTB := xw 1175 (by decide +kernel) (by decide +kernel)
set_option maxRecDepth 100000 in
theorem wd_1177 : Cond.methodLink "CapitalCaseLaw" 118 ⟨"CapitalCase", "wornOut", "(II)I"⟩ ∈ xTB := xw 1177 (by decide +kernel) (by decide +kernel)
set_option maxRecDepth 100000 in
theorem wd_1178 : Cond.instanceMethod ⟨"CapitalCase", "wornOut", "(II)I"⟩ ∈ xTB := xw 1178 (by decide +kernel) (by decide +kernel)
set_option maxRecDepth 100000 in
theorem wd_1179 : Cond.selects "CapitalCase" ⟨"CapitalCase", "wornOut", "(II)I"⟩ ⟨"CapitalCase", "wornOut", "(II)I"⟩ ∈ xTB := xw 1179 (by decide +kernel) (by decide +kernel)
set_option maxRecDepth 100000 in
theorem wd_1185 : Cond.methodLink "CapitalCaseLaw" 122 ⟨"CapitalCase", "then", "(IIII)I"⟩ ∈ xTB := xw 1185 (by decide +kernel) (by decide +kernel)
set_option maxRecDepth 100000 in
theorem wd_1186 : Cond.instanceMethod ⟨"CapitalCase", "then", "(IIII)I"⟩ ∈ xTB := xw 1186 (by decide +kernel) (by decide +kernel)
set_option maxRecDepth 100000 in
theorem wd_1187 : Cond.selects "CapitalCase" ⟨"CapitalCase", "then", "(IIII)I"⟩ ⟨"CapitalCase", "then", "(IIII)I"⟩ ∈ xTB := xw 1187 (by decide +kernel) (by decide +kernel)
set_option maxRecDepth 100000 in
theorem wd_1189 : Cond.methodLink "CapitalCaseLaw" 126 ⟨"CapitalCase", "paidIn", "(I)I"⟩ ∈ xTB := xw 1189 (by decide +kernel) (by decide +kernel)
set_option maxRecDepth 100000 in
theorem wd_1190 : Cond.instanceMethod ⟨"CapitalCase", "paidIn", "(I)I"⟩ ∈ xTB := xw 1190 (by decide +kernel) (by decide +kernel)
set_option maxRecDepth 100000 in
theorem wd_1191 : Cond.selects "CapitalCase" ⟨"CapitalCase", "paidIn", "(I)I"⟩ ⟨"CapitalCase", "paidIn", "(I)I"⟩ ∈ xTB := xw 1191 (by decide +kernel) (by decide +kernel)
set_option maxRecDepth 100000 in
theorem wd_1193 : Cond.methodLink "CapitalCaseLaw" 130 ⟨"CapitalCase", "year", "(IIII)I"⟩ ∈ xTB := xw 1193 (by decide +kernel) (by decide +kernel)
set_option maxRecDepth 100000 in
theorem wd_1194 : Cond.instanceMethod ⟨"CapitalCase", "year", "(IIII)I"⟩ ∈ xTB := xw 1194 (by decide +kernel) (by decide +kernel)
set_option maxRecDepth 100000 in
theorem wd_1195 : Cond.selects "CapitalCase" ⟨"CapitalCase", "year", "(IIII)I"⟩ ⟨"CapitalCase", "year", "(IIII)I"⟩ ∈ xTB := xw 1195 (by decide +kernel) (by decide +kernel)
set_option maxRecDepth 100000 in
theorem wd_1197 : Cond.methodLink "CapitalCaseLaw" 134 ⟨"CapitalCase", "tell", "(IIZ)I"⟩ ∈ xTB := xw 1197 (by decide +kernel) (by decide +kernel)
set_option maxRecDepth 100000 in
theorem wd_1198 : Cond.instanceMethod ⟨"CapitalCase", "tell", "(IIZ)I"⟩ ∈ xTB := xw 1198 (by decide +kernel) (by decide +kernel)
set_option maxRecDepth 100000 in
theorem wd_1199 : Cond.selects "CapitalCase" ⟨"CapitalCase", "tell", "(IIZ)I"⟩ ⟨"CapitalCase", "tell", "(IIZ)I"⟩ ∈ xTB := xw 1199 (by decide +kernel) (by decide +kernel)
set_option maxRecDepth 100000 in
theorem wd_1201 : Cond.methodLink "CapitalCase" 307 ⟨"CapitalCase$Prints", "note", "(IIZ)I"⟩ ∈ xTB := xw 1201 (by decide +kernel) (by decide +kernel)
set_option maxRecDepth 100000 in
theorem wd_1202 : Cond.instanceMethod ⟨"CapitalCase$Prints", "note", "(IIZ)I"⟩ ∈ xTB := xw 1202 (by decide +kernel) (by decide +kernel)
set_option maxRecDepth 100000 in
theorem wd_1203 : Cond.selects "CapitalCase$Prints" ⟨"CapitalCase$Prints", "note", "(IIZ)I"⟩ ⟨"CapitalCase$Prints", "note", "(IIZ)I"⟩ ∈ xTB := xw 1203 (by decide +kernel) (by decide +kernel)
set_option maxRecDepth 100000 in
theorem wd_1205 : Cond.methodLink "CapitalCaseLaw" 139 ⟨"CapitalCase", "forget", "()I"⟩ ∈ xTB := xw 1205 (by decide +kernel) (by decide +kernel)
set_option maxRecDepth 100000 in
theorem wd_1206 : Cond.instanceMethod ⟨"CapitalCase", "forget", "()I"⟩ ∈ xTB := xw 1206 (by decide +kernel) (by decide +kernel)
set_option maxRecDepth 100000 in
theorem wd_1207 : Cond.selects "CapitalCase" ⟨"CapitalCase", "forget", "()I"⟩ ⟨"CapitalCase", "forget", "()I"⟩ ∈ xTB := xw 1207 (by decide +kernel) (by decide +kernel)
set_option maxRecDepth 100000 in
theorem wd_1209 : Cond.methodLink "CapitalCaseLaw" 143 ⟨"CapitalCase", "whose", "(II)I"⟩ ∈ xTB := xw 1209 (by decide +kernel) (by decide +kernel)
set_option maxRecDepth 100000 in
theorem wd_1210 : Cond.instanceMethod ⟨"CapitalCase", "whose", "(II)I"⟩ ∈ xTB := xw 1210 (by decide +kernel) (by decide +kernel)
set_option maxRecDepth 100000 in
theorem wd_1211 : Cond.selects "CapitalCase" ⟨"CapitalCase", "whose", "(II)I"⟩ ⟨"CapitalCase", "whose", "(II)I"⟩ ∈ xTB := xw 1211 (by decide +kernel) (by decide +kernel)
set_option maxRecDepth 100000 in
theorem wd_1213 : Cond.methodLink "CapitalCase" 311 ⟨"CapitalCase$Prints", "left", "(LCapitalCase$Town;II)I"⟩ ∈ xTB := xw 1213 (by decide +kernel) (by decide +kernel)
set_option maxRecDepth 100000 in
theorem wd_1214 : Cond.instanceMethod ⟨"CapitalCase$Prints", "left", "(LCapitalCase$Town;II)I"⟩ ∈ xTB := xw 1214 (by decide +kernel) (by decide +kernel)
set_option maxRecDepth 100000 in
theorem wd_1215 : Cond.selects "CapitalCase$Prints" ⟨"CapitalCase$Prints", "left", "(LCapitalCase$Town;II)I"⟩ ⟨"CapitalCase$Prints", "left", "(LCapitalCase$Town;II)I"⟩ ∈ xTB := xw 1215 (by decide +kernel) (by decide +kernel)
set_option maxRecDepth 100000 in
theorem wd_1217 : Cond.methodLink "CapitalCase" 314 ⟨"java/lang/Integer", "bitCount", "(I)I"⟩ ∈ xTB := xw 1217 (by decide +kernel) (by decide +kernel)
set_option maxRecDepth 100000 in
theorem wd_1218 : Cond.static ⟨"java/lang/Integer", "bitCount", "(I)I"⟩ ∈ xTB := xw 1218 (by decide +kernel) (by decide +kernel)
set_option maxRecDepth 100000 in
theorem wd_1220 : Cond.constant "java/lang/Integer" 265 1431655765 ∈ xTB := xw 1220 (by decide +kernel) (by decide +kernel)
set_option maxRecDepth 100000 in
theorem wd_1221 : Cond.constant "java/lang/Integer" 266 858993459 ∈ xTB := xw 1221 (by decide +kernel) (by decide +kernel)
set_option maxRecDepth 100000 in
theorem wd_1222 : Cond.constant "java/lang/Integer" 267 252645135 ∈ xTB := xw 1222 (by decide +kernel) (by decide +kernel)
set_option maxRecDepth 100000 in
theorem wd_1223 : Cond.methodLink "CapitalCaseLaw" 147 ⟨"CapitalCase", "ask", "(II)I"⟩ ∈ xTB := xw 1223 (by decide +kernel) (by decide +kernel)
set_option maxRecDepth 100000 in
theorem wd_1224 : Cond.instanceMethod ⟨"CapitalCase", "ask", "(II)I"⟩ ∈ xTB := xw 1224 (by decide +kernel) (by decide +kernel)
set_option maxRecDepth 100000 in
theorem wd_1225 : Cond.selects "CapitalCase" ⟨"CapitalCase", "ask", "(II)I"⟩ ⟨"CapitalCase", "ask", "(II)I"⟩ ∈ xTB := xw 1225 (by decide +kernel) (by decide +kernel)
set_option maxRecDepth 100000 in
theorem wd_1227 : Cond.methodLink "CapitalCase" 319 ⟨"CapitalCase$Prints", "letterToAsk", "(LCapitalCase$Town;II)I"⟩ ∈ xTB := xw 1227 (by decide +kernel) (by decide +kernel)
set_option maxRecDepth 100000 in
theorem wd_1228 : Cond.instanceMethod ⟨"CapitalCase$Prints", "letterToAsk", "(LCapitalCase$Town;II)I"⟩ ∈ xTB := xw 1228 (by decide +kernel) (by decide +kernel)
set_option maxRecDepth 100000 in
theorem wd_1229 : Cond.selects "CapitalCase$Prints" ⟨"CapitalCase$Prints", "letterToAsk", "(LCapitalCase$Town;II)I"⟩ ⟨"CapitalCase$Prints", "letterToAsk", "(LCapitalCase$Town;II)I"⟩ ∈ xTB := xw 1229 (by decide +kernel) (by decide +kernel)
set_option maxRecDepth 100000 in
theorem wd_1233 : Cond.methodLink "CapitalCaseLaw" 151 ⟨"CapitalCase", "hold", "(I)Z"⟩ ∈ xTB := xw 1233 (by decide +kernel) (by decide +kernel)
set_option maxRecDepth 100000 in
theorem wd_1234 : Cond.instanceMethod ⟨"CapitalCase", "hold", "(I)Z"⟩ ∈ xTB := xw 1234 (by decide +kernel) (by decide +kernel)
set_option maxRecDepth 100000 in
theorem wd_1235 : Cond.selects "CapitalCase" ⟨"CapitalCase", "hold", "(I)Z"⟩ ⟨"CapitalCase", "hold", "(I)Z"⟩ ∈ xTB := xw 1235 (by decide +kernel) (by decide +kernel)
set_option maxRecDepth 100000 in
theorem wd_1237 : Cond.methodLink "CapitalCaseLaw" 155 ⟨"CapitalCase", "restore", "(I)Z"⟩ ∈ xTB := xw 1237 (by decide +kernel) (by decide +kernel)
set_option maxRecDepth 100000 in
theorem wd_1238 : Cond.instanceMethod ⟨"CapitalCase", "restore", "(I)Z"⟩ ∈ xTB := xw 1238 (by decide +kernel) (by decide +kernel)
set_option maxRecDepth 100000 in
theorem wd_1239 : Cond.selects "CapitalCase" ⟨"CapitalCase", "restore", "(I)Z"⟩ ⟨"CapitalCase", "restore", "(I)Z"⟩ ∈ xTB := xw 1239 (by decide +kernel) (by decide +kernel)
set_option maxRecDepth 100000 in
theorem wd_1241 : Cond.methodLink "CapitalCaseLaw" 159 ⟨"CapitalCase", "count", "(I)I"⟩ ∈ xTB := xw 1241 (by decide +kernel) (by decide +kernel)
set_option maxRecDepth 100000 in
theorem wd_1242 : Cond.instanceMethod ⟨"CapitalCase", "count", "(I)I"⟩ ∈ xTB := xw 1242 (by decide +kernel) (by decide +kernel)
set_option maxRecDepth 100000 in
theorem wd_1243 : Cond.selects "CapitalCase" ⟨"CapitalCase", "count", "(I)I"⟩ ⟨"CapitalCase", "count", "(I)I"⟩ ∈ xTB := xw 1243 (by decide +kernel) (by decide +kernel)
set_option maxRecDepth 100000 in
theorem wd_1245 : Cond.methodLink "CapitalCase" 322 ⟨"CapitalCase", "sum", "([I)I"⟩ ∈ xTB := xw 1245 (by decide +kernel) (by decide +kernel)
set_option maxRecDepth 100000 in
theorem wd_1246 : Cond.static ⟨"CapitalCase", "sum", "([I)I"⟩ ∈ xTB := xw 1246 (by decide +kernel) (by decide +kernel)
set_option maxRecDepth 100000 in
theorem wd_1248 : Cond.methodLink "CapitalCase" 329 ⟨"CapitalCase", "heldSlots", "()I"⟩ ∈ xTB := xw 1248 (by decide +kernel) (by decide +kernel)
set_option maxRecDepth 100000 in
theorem wd_1250 : Cond.instanceMethod ⟨"CapitalCase", "heldSlots", "()I"⟩ ∈ xTB := xw 1250 (by decide +kernel) (by decide +kernel)
set_option maxRecDepth 100000 in
theorem wd_1252 : Cond.methodLink "CapitalCase" 333 ⟨"CapitalCase$Press", "thievesCome", "(II)Z"⟩ ∈ xTB := xw 1252 (by decide +kernel) (by decide +kernel)
set_option maxRecDepth 100000 in
theorem wd_1253 : Cond.methodLink "CapitalCase" 336 ⟨"CapitalCase", "settable", "()I"⟩ ∈ xTB := xw 1253 (by decide +kernel) (by decide +kernel)
set_option maxRecDepth 100000 in
theorem wd_1255 : Cond.instanceMethod ⟨"CapitalCase", "settable", "()I"⟩ ∈ xTB := xw 1255 (by decide +kernel) (by decide +kernel)
set_option maxRecDepth 100000 in
theorem wd_1257 : Cond.classLink "CapitalCaseLaw" 10 "CapitalCaseModel" ∈ xTB := xw 1257 (by decide +kernel) (by decide +kernel)
set_option maxRecDepth 100000 in
theorem wd_1258 : Cond.instantiable "CapitalCaseModel" 70 ∈ xTB := xw 1258 (by decide +kernel) (by decide +kernel)
set_option maxRecDepth 100000 in
theorem wd_1259 : Cond.methodLink "CapitalCaseLaw" 12 ⟨"CapitalCaseModel", "<init>", "()V"⟩ ∈ xTB := xw 1259 (by decide +kernel) (by decide +kernel)
set_option maxRecDepth 100000 in
theorem wd_1260 : Cond.instanceMethod ⟨"CapitalCaseModel", "<init>", "()V"⟩ ∈ xTB := xw 1260 (by decide +kernel) (by decide +kernel)
set_option maxRecDepth 100000 in
theorem wd_1262 : Cond.methodLink "CapitalCaseModel" 7 ⟨"java/lang/Object", "<init>", "()V"⟩ ∈ xTB := xw 1262 (by decide +kernel) (by decide +kernel)
set_option maxRecDepth 100000 in
theorem wd_1263 : Cond.methodLink "CapitalCaseModel" 149 ⟨"CapitalCaseModel", "plain", "(I)V"⟩ ∈ xTB := xw 1263 (by decide +kernel) (by decide +kernel)
set_option maxRecDepth 100000 in
theorem wd_1265 : Cond.instanceMethod ⟨"CapitalCaseModel", "plain", "(I)V"⟩ ∈ xTB := xw 1265 (by decide +kernel) (by decide +kernel)
set_option maxRecDepth 100000 in
theorem wd_1267 : Cond.methodLink "CapitalCaseModel" 153 ⟨"CapitalCaseModel", "word", "(IIIIIII)J"⟩ ∈ xTB := xw 1267 (by decide +kernel) (by decide +kernel)
set_option maxRecDepth 100000 in
theorem wd_1268 : Cond.static ⟨"CapitalCaseModel", "word", "(IIIIIII)J"⟩ ∈ xTB := xw 1268 (by decide +kernel) (by decide +kernel)
set_option maxRecDepth 100000 in
theorem wd_1270 : Cond.methodLink "CapitalCaseModel" 174 ⟨"CapitalCaseModel", "appends", "(JI)J"⟩ ∈ xTB := xw 1270 (by decide +kernel) (by decide +kernel)
set_option maxRecDepth 100000 in
theorem wd_1271 : Cond.static ⟨"CapitalCaseModel", "appends", "(JI)J"⟩ ∈ xTB := xw 1271 (by decide +kernel) (by decide +kernel)
set_option maxRecDepth 100000 in
theorem wd_1273 : Cond.constantLong "CapitalCaseModel" 172 27 ∈ xTB := xw 1273 (by decide +kernel) (by decide +kernel)
set_option maxRecDepth 100000 in
theorem wd_1274 : Cond.methodLink "CapitalCaseModel" 157 ⟨"CapitalCaseModel", "begins", "()V"⟩ ∈ xTB := xw 1274 (by decide +kernel) (by decide +kernel)
set_option maxRecDepth 100000 in
theorem wd_1276 : Cond.instanceMethod ⟨"CapitalCaseModel", "begins", "()V"⟩ ∈ xTB := xw 1276 (by decide +kernel) (by decide +kernel)
set_option maxRecDepth 100000 in
theorem wd_1278 : Cond.methodLink "CapitalCaseModel" 160 ⟨"CapitalCaseModel", "keepsRow", "()V"⟩ ∈ xTB := xw 1278 (by decide +kernel) (by decide +kernel)
set_option maxRecDepth 100000 in
theorem wd_1280 : Cond.instanceMethod ⟨"CapitalCaseModel", "keepsRow", "()V"⟩ ∈ xTB := xw 1280 (by decide +kernel) (by decide +kernel)
set_option maxRecDepth 100000 in
theorem wd_1282 : Cond.fieldLink "CapitalCaseModel" 13 "CapitalCaseModel" "tape" "[B" ∈ xTB := xw 1282 (by decide +kernel) (by decide +kernel)
set_option maxRecDepth 100000 in
theorem wd_1283 : Cond.fieldLink "CapitalCaseModel" 163 "CapitalCaseModel" "taped" "I" ∈ xTB := xw 1283 (by decide +kernel) (by decide +kernel)
set_option maxRecDepth 100000 in
theorem wd_1284 : Cond.fieldLink "CapitalCaseModel" 17 "CapitalCaseModel" "text" "[B" ∈ xTB := xw 1284 (by decide +kernel) (by decide +kernel)
set_option maxRecDepth 100000 in
theorem wd_1285 : Cond.fieldLink "CapitalCaseModel" 169 "CapitalCaseModel" "size" "I" ∈ xTB := xw 1285 (by decide +kernel) (by decide +kernel)
set_option maxRecDepth 100000 in
theorem wd_1286 : Cond.fieldLink "CapitalCaseModel" 20 "CapitalCaseModel" "tKind" "[I" ∈ xTB := xw 1286 (by decide +kernel) (by decide +kernel)
set_option maxRecDepth 100000 in
theorem wd_1287 : Cond.fieldLink "CapitalCaseModel" 24 "CapitalCaseModel" "tPlace" "[I" ∈ xTB := xw 1287 (by decide +kernel) (by decide +kernel)
set_option maxRecDepth 100000 in
theorem wd_1288 : Cond.fieldLink "CapitalCaseModel" 27 "CapitalCaseModel" "tValue" "[I" ∈ xTB := xw 1288 (by decide +kernel) (by decide +kernel)
set_option maxRecDepth 100000 in
theorem wd_1289 : Cond.fieldLink "CapitalCaseModel" 30 "CapitalCaseModel" "tName" "[J" ∈ xTB := xw 1289 (by decide +kernel) (by decide +kernel)
set_option maxRecDepth 100000 in
theorem wd_1290 : Cond.fieldLink "CapitalCaseModel" 34 "CapitalCaseModel" "keys" "[J" ∈ xTB := xw 1290 (by decide +kernel) (by decide +kernel)
set_option maxRecDepth 100000 in
theorem wd_1291 : Cond.fieldLink "CapitalCaseModel" 178 "CapitalCaseModel" "tokens" "I" ∈ xTB := xw 1291 (by decide +kernel) (by decide +kernel)
set_option maxRecDepth 100000 in
theorem wd_1292 : Cond.fieldLink "CapitalCaseModel" 203 "CapitalCaseModel" "t" "I" ∈ xTB := xw 1292 (by decide +kernel) (by decide +kernel)
set_option maxRecDepth 100000 in
theorem wd_1293 : Cond.fieldLink "CapitalCaseModel" 227 "CapitalCaseModel" "open" "I" ∈ xTB := xw 1293 (by decide +kernel) (by decide +kernel)
set_option maxRecDepth 100000 in
theorem wd_1294 : Cond.fieldLink "CapitalCaseModel" 200 "CapitalCaseModel" "fault" "I" ∈ xTB := xw 1294 (by decide +kernel) (by decide +kernel)
set_option maxRecDepth 100000 in
theorem wd_1296 : Cond.fieldLink "CapitalCaseModel" 209 "CapitalCaseModel" "worst" "I" ∈ xTB := xw 1296 (by decide +kernel) (by decide +kernel)
set_option maxRecDepth 100000 in
theorem wd_1298 : Cond.fieldLink "CapitalCaseModel" 37 "CapitalCaseModel" "place" "I" ∈ xTB := xw 1298 (by decide +kernel) (by decide +kernel)
set_option maxRecDepth 100000 in
theorem wd_1299 : Cond.fieldLink "CapitalCaseModel" 230 "CapitalCaseModel" "live" "I" ∈ xTB := xw 1299 (by decide +kernel) (by decide +kernel)
set_option maxRecDepth 100000 in
theorem wd_1300 : Cond.fieldLink "CapitalCaseModel" 233 "CapitalCaseModel" "side" "I" ∈ xTB := xw 1300 (by decide +kernel) (by decide +kernel)
set_option maxRecDepth 100000 in
theorem wd_1301 : Cond.fieldLink "CapitalCaseModel" 236 "CapitalCaseModel" "names" "I" ∈ xTB := xw 1301 (by decide +kernel) (by decide +kernel)
set_option maxRecDepth 100000 in
theorem wd_1302 : Cond.fieldLink "CapitalCaseModel" 40 "CapitalCaseModel" "nameOf" "[J" ∈ xTB := xw 1302 (by decide +kernel) (by decide +kernel)
set_option maxRecDepth 100000 in
theorem wd_1303 : Cond.fieldLink "CapitalCaseModel" 43 "CapitalCaseModel" "houses" "[I" ∈ xTB := xw 1303 (by decide +kernel) (by decide +kernel)
set_option maxRecDepth 100000 in
theorem wd_1304 : Cond.fieldLink "CapitalCaseModel" 46 "CapitalCaseModel" "piecesTold" "[I" ∈ xTB := xw 1304 (by decide +kernel) (by decide +kernel)
set_option maxRecDepth 100000 in
theorem wd_1305 : Cond.fieldLink "CapitalCaseModel" 49 "CapitalCaseModel" "verses" "[I" ∈ xTB := xw 1305 (by decide +kernel) (by decide +kernel)
set_option maxRecDepth 100000 in
theorem wd_1306 : Cond.fieldLink "CapitalCaseModel" 52 "CapitalCaseModel" "longOf" "[I" ∈ xTB := xw 1306 (by decide +kernel) (by decide +kernel)
set_option maxRecDepth 100000 in
theorem wd_1307 : Cond.fieldLink "CapitalCaseModel" 55 "CapitalCaseModel" "wantsOf" "[I" ∈ xTB := xw 1307 (by decide +kernel) (by decide +kernel)
set_option maxRecDepth 100000 in
theorem wd_1308 : Cond.fieldLink "CapitalCaseModel" 58 "CapitalCaseModel" "valueOf" "[I" ∈ xTB := xw 1308 (by decide +kernel) (by decide +kernel)
set_option maxRecDepth 100000 in
theorem wd_1309 : Cond.fieldLink "CapitalCaseModel" 61 "CapitalCaseModel" "dueOf" "[I" ∈ xTB := xw 1309 (by decide +kernel) (by decide +kernel)
set_option maxRecDepth 100000 in
theorem wd_1310 : Cond.fieldLink "CapitalCaseModel" 64 "CapitalCaseModel" "spoils" "[I" ∈ xTB := xw 1310 (by decide +kernel) (by decide +kernel)
set_option maxRecDepth 100000 in
theorem wd_1311 : Cond.fieldLink "CapitalCaseModel" 67 "CapitalCaseModel" "thieves" "[I" ∈ xTB := xw 1311 (by decide +kernel) (by decide +kernel)
set_option maxRecDepth 100000 in
theorem wd_1312 : Cond.fieldLink "CapitalCaseModel" 70 "CapitalCaseModel" "seed" "[I" ∈ xTB := xw 1312 (by decide +kernel) (by decide +kernel)
set_option maxRecDepth 100000 in
theorem wd_1313 : Cond.fieldLink "CapitalCaseModel" 73 "CapitalCaseModel" "lawFirst" "[I" ∈ xTB := xw 1313 (by decide +kernel) (by decide +kernel)
set_option maxRecDepth 100000 in
theorem wd_1314 : Cond.fieldLink "CapitalCaseModel" 76 "CapitalCaseModel" "lawLast" "[I" ∈ xTB := xw 1314 (by decide +kernel) (by decide +kernel)
set_option maxRecDepth 100000 in
theorem wd_1315 : Cond.fieldLink "CapitalCaseModel" 239 "CapitalCaseModel" "branches" "I" ∈ xTB := xw 1315 (by decide +kernel) (by decide +kernel)
set_option maxRecDepth 100000 in
theorem wd_1316 : Cond.fieldLink "CapitalCaseModel" 79 "CapitalCaseModel" "hasTest" "[Z" ∈ xTB := xw 1316 (by decide +kernel) (by decide +kernel)
set_option maxRecDepth 100000 in
theorem wd_1317 : Cond.fieldLink "CapitalCaseModel" 83 "CapitalCaseModel" "testFrom" "[I" ∈ xTB := xw 1317 (by decide +kernel) (by decide +kernel)
set_option maxRecDepth 100000 in
theorem wd_1318 : Cond.fieldLink "CapitalCaseModel" 86 "CapitalCaseModel" "testMid" "[I" ∈ xTB := xw 1318 (by decide +kernel) (by decide +kernel)
set_option maxRecDepth 100000 in
theorem wd_1319 : Cond.fieldLink "CapitalCaseModel" 89 "CapitalCaseModel" "testTo" "[I" ∈ xTB := xw 1319 (by decide +kernel) (by decide +kernel)
set_option maxRecDepth 100000 in
theorem wd_1320 : Cond.fieldLink "CapitalCaseModel" 92 "CapitalCaseModel" "termTo" "[I" ∈ xTB := xw 1320 (by decide +kernel) (by decide +kernel)
set_option maxRecDepth 100000 in
theorem wd_1321 : Cond.fieldLink "CapitalCaseModel" 242 "CapitalCaseModel" "codes" "I" ∈ xTB := xw 1321 (by decide +kernel) (by decide +kernel)
set_option maxRecDepth 100000 in
theorem wd_1322 : Cond.fieldLink "CapitalCaseModel" 95 "CapitalCaseModel" "code" "[I" ∈ xTB := xw 1322 (by decide +kernel) (by decide +kernel)
set_option maxRecDepth 100000 in
theorem wd_1323 : Cond.fieldLink "CapitalCaseModel" 98 "CapitalCaseModel" "codeInt" "[I" ∈ xTB := xw 1323 (by decide +kernel) (by decide +kernel)
set_option maxRecDepth 100000 in
theorem wd_1324 : Cond.fieldLink "CapitalCaseModel" 101 "CapitalCaseModel" "letters" "[I" ∈ xTB := xw 1324 (by decide +kernel) (by decide +kernel)
set_option maxRecDepth 100000 in
theorem wd_1326 : Cond.fieldLink "CapitalCaseModel" 104 "CapitalCaseModel" "waits" "[I" ∈ xTB := xw 1326 (by decide +kernel) (by decide +kernel)
set_option maxRecDepth 100000 in
theorem wd_1328 : Cond.fieldLink "CapitalCaseModel" 107 "CapitalCaseModel" "variables" "[I" ∈ xTB := xw 1328 (by decide +kernel) (by decide +kernel)
set_option maxRecDepth 100000 in
theorem wd_1329 : Cond.fieldLink "CapitalCaseModel" 110 "CapitalCaseModel" "pile" "[I" ∈ xTB := xw 1329 (by decide +kernel) (by decide +kernel)
set_option maxRecDepth 100000 in
theorem wd_1331 : Cond.fieldLink "CapitalCaseModel" 113 "CapitalCaseModel" "now" "[I" ∈ xTB := xw 1331 (by decide +kernel) (by decide +kernel)
set_option maxRecDepth 100000 in
theorem wd_1332 : Cond.fieldLink "CapitalCaseModel" 116 "CapitalCaseModel" "row" "[I" ∈ xTB := xw 1332 (by decide +kernel) (by decide +kernel)
set_option maxRecDepth 100000 in
theorem wd_1333 : Cond.fieldLink "CapitalCaseModel" 328 "CapitalCaseModel" "lots" "I" ∈ xTB := xw 1333 (by decide +kernel) (by decide +kernel)
set_option maxRecDepth 100000 in
theorem wd_1334 : Cond.fieldLink "CapitalCaseModel" 331 "CapitalCaseModel" "isStill" "Z" ∈ xTB := xw 1334 (by decide +kernel) (by decide +kernel)
set_option maxRecDepth 100000 in
theorem wd_1335 : Cond.fieldLink "CapitalCaseModel" 334 "CapitalCaseModel" "shut" "I" ∈ xTB := xw 1335 (by decide +kernel) (by decide +kernel)
set_option maxRecDepth 100000 in
theorem wd_1337 : Cond.fieldLink "CapitalCaseModel" 119 "CapitalCaseModel" "wentNow" "[Z" ∈ xTB := xw 1337 (by decide +kernel) (by decide +kernel)
set_option maxRecDepth 100000 in
theorem wd_1338 : Cond.fieldLink "CapitalCaseModel" 122 "CapitalCaseModel" "wearsBy" "[I" ∈ xTB := xw 1338 (by decide +kernel) (by decide +kernel)
set_option maxRecDepth 100000 in
theorem wd_1339 : Cond.fieldLink "CapitalCaseModel" 125 "CapitalCaseModel" "paysBy" "[I" ∈ xTB := xw 1339 (by decide +kernel) (by decide +kernel)
set_option maxRecDepth 100000 in
theorem wd_1340 : Cond.fieldLink "CapitalCaseModel" 248 "CapitalCaseModel" "undos" "I" ∈ xTB := xw 1340 (by decide +kernel) (by decide +kernel)
set_option maxRecDepth 100000 in
theorem wd_1341 : Cond.fieldLink "CapitalCaseModel" 128 "CapitalCaseModel" "history" "[I" ∈ xTB := xw 1341 (by decide +kernel) (by decide +kernel)
set_option maxRecDepth 100000 in
theorem wd_1342 : Cond.fieldLink "CapitalCaseModel" 131 "CapitalCaseModel" "ahead" "[I" ∈ xTB := xw 1342 (by decide +kernel) (by decide +kernel)
set_option maxRecDepth 100000 in
theorem wd_1343 : Cond.fieldLink "CapitalCaseModel" 442 "CapitalCaseModel" "bestSum" "I" ∈ xTB := xw 1343 (by decide +kernel) (by decide +kernel)
set_option maxRecDepth 100000 in
theorem wd_1344 : Cond.fieldLink "CapitalCaseModel" 445 "CapitalCaseModel" "bestSet" "I" ∈ xTB := xw 1344 (by decide +kernel) (by decide +kernel)
set_option maxRecDepth 100000 in
theorem wd_1345 : Cond.fieldLink "CapitalCaseModel" 251 "CapitalCaseModel" "tolds" "I" ∈ xTB := xw 1345 (by decide +kernel) (by decide +kernel)
set_option maxRecDepth 100000 in
theorem wd_1346 : Cond.fieldLink "CapitalCaseModel" 134 "CapitalCaseModel" "toldLetter" "[I" ∈ xTB := xw 1346 (by decide +kernel) (by decide +kernel)
set_option maxRecDepth 100000 in
theorem wd_1347 : Cond.fieldLink "CapitalCaseModel" 137 "CapitalCaseModel" "toldWorn" "[I" ∈ xTB := xw 1347 (by decide +kernel) (by decide +kernel)
set_option maxRecDepth 100000 in
theorem wd_1348 : Cond.fieldLink "CapitalCaseModel" 140 "CapitalCaseModel" "toldSo" "[Z" ∈ xTB := xw 1348 (by decide +kernel) (by decide +kernel)
set_option maxRecDepth 100000 in
theorem wd_1349 : Cond.fieldLink "CapitalCaseModel" 143 "CapitalCaseModel" "isHeld" "[Z" ∈ xTB := xw 1349 (by decide +kernel) (by decide +kernel)
set_option maxRecDepth 100000 in
theorem wd_1350 : Cond.fieldLink "CapitalCaseModel" 146 "CapitalCaseModel" "heldRows" "[I" ∈ xTB := xw 1350 (by decide +kernel) (by decide +kernel)
set_option maxRecDepth 100000 in
theorem wd_1492 : Cond.arrayClass .long ∈ xTB := xw 1492 (by decide +kernel) (by decide +kernel)
set_option maxRecDepth 100000 in
theorem wd_1493 : Cond.methodLink "CapitalCaseLaw" 17 ⟨"CapitalCaseModel", "feed", "(IIIII)I"⟩ ∈ xTB := xw 1493 (by decide +kernel) (by decide +kernel)
set_option maxRecDepth 100000 in
theorem wd_1494 : Cond.instanceMethod ⟨"CapitalCaseModel", "feed", "(IIIII)I"⟩ ∈ xTB := xw 1494 (by decide +kernel) (by decide +kernel)
set_option maxRecDepth 100000 in
theorem wd_1495 : Cond.selects "CapitalCaseModel" ⟨"CapitalCaseModel", "feed", "(IIIII)I"⟩ ⟨"CapitalCaseModel", "feed", "(IIIII)I"⟩ ∈ xTB := xw 1495 (by decide +kernel) (by decide +kernel)
set_option maxRecDepth 100000 in
theorem wd_1497 : Cond.methodLink "CapitalCaseModel" 166 ⟨"CapitalCaseModel", "put", "(I)V"⟩ ∈ xTB := xw 1497 (by decide +kernel) (by decide +kernel)
set_option maxRecDepth 100000 in
theorem wd_1499 : Cond.instanceMethod ⟨"CapitalCaseModel", "put", "(I)V"⟩ ∈ xTB := xw 1499 (by decide +kernel) (by decide +kernel)
set_option maxRecDepth 100000 in
theorem wd_1501 : Cond.methodLink "CapitalCaseLaw" 22 ⟨"CapitalCaseModel", "back", "(I)I"⟩ ∈ xTB := xw 1501 (by decide +kernel) (by decide +kernel)
set_option maxRecDepth 100000 in
theorem wd_1502 : Cond.instanceMethod ⟨"CapitalCaseModel", "back", "(I)I"⟩ ∈ xTB := xw 1502 (by decide +kernel) (by decide +kernel)
set_option maxRecDepth 100000 in
theorem wd_1503 : Cond.selects "CapitalCaseModel" ⟨"CapitalCaseModel", "back", "(I)I"⟩ ⟨"CapitalCaseModel", "back", "(I)I"⟩ ∈ xTB := xw 1503 (by decide +kernel) (by decide +kernel)
set_option maxRecDepth 100000 in
theorem wd_1505 : Cond.methodLink "CapitalCaseLaw" 27 ⟨"CapitalCaseModel", "read", "()I"⟩ ∈ xTB := xw 1505 (by decide +kernel) (by decide +kernel)
set_option maxRecDepth 100000 in
theorem wd_1506 : Cond.instanceMethod ⟨"CapitalCaseModel", "read", "()I"⟩ ∈ xTB := xw 1506 (by decide +kernel) (by decide +kernel)
set_option maxRecDepth 100000 in
theorem wd_1507 : Cond.selects "CapitalCaseModel" ⟨"CapitalCaseModel", "read", "()I"⟩ ⟨"CapitalCaseModel", "read", "()I"⟩ ∈ xTB := xw 1507 (by decide +kernel) (by decide +kernel)
set_option maxRecDepth 100000 in
theorem wd_1509 : Cond.methodLink "CapitalCaseModel" 224 ⟨"CapitalCaseModel", "cut", "()V"⟩ ∈ xTB := xw 1509 (by decide +kernel) (by decide +kernel)
set_option maxRecDepth 100000 in
theorem wd_1511 : Cond.instanceMethod ⟨"CapitalCaseModel", "cut", "()V"⟩ ∈ xTB := xw 1511 (by decide +kernel) (by decide +kernel)
set_option maxRecDepth 100000 in
theorem wd_1513 : Cond.methodLink "CapitalCaseModel" 181 ⟨"CapitalCaseModel", "byteAt", "(I)I"⟩ ∈ xTB := xw 1513 (by decide +kernel) (by decide +kernel)
set_option maxRecDepth 100000 in
theorem wd_1515 : Cond.instanceMethod ⟨"CapitalCaseModel", "byteAt", "(I)I"⟩ ∈ xTB := xw 1515 (by decide +kernel) (by decide +kernel)
set_option maxRecDepth 100000 in
theorem wd_1517 : Cond.methodLink "CapitalCaseModel" 185 ⟨"CapitalCaseModel", "token", "(IIIJ)V"⟩ ∈ xTB := xw 1517 (by decide +kernel) (by decide +kernel)
set_option maxRecDepth 100000 in
theorem wd_1519 : Cond.instanceMethod ⟨"CapitalCaseModel", "token", "(IIIJ)V"⟩ ∈ xTB := xw 1519 (by decide +kernel) (by decide +kernel)
set_option maxRecDepth 100000 in
theorem wd_1531 : Cond.methodLink "CapitalCaseModel" 218 ⟨"CapitalCaseModel", "is", "(I)Z"⟩ ∈ xTB := xw 1531 (by decide +kernel) (by decide +kernel)
set_option maxRecDepth 100000 in
theorem wd_1533 : Cond.instanceMethod ⟨"CapitalCaseModel", "is", "(I)Z"⟩ ∈ xTB := xw 1533 (by decide +kernel) (by decide +kernel)
set_option maxRecDepth 100000 in
theorem wd_1617 : Cond.methodLink "CapitalCaseLaw" 31 ⟨"CapitalCaseModel", "place", "()I"⟩ ∈ xTB := xw 1617 (by decide +kernel) (by decide +kernel)
set_option maxRecDepth 100000 in
theorem wd_1618 : Cond.instanceMethod ⟨"CapitalCaseModel", "place", "()I"⟩ ∈ xTB := xw 1618 (by decide +kernel) (by decide +kernel)
set_option maxRecDepth 100000 in
theorem wd_1619 : Cond.selects "CapitalCaseModel" ⟨"CapitalCaseModel", "place", "()I"⟩ ⟨"CapitalCaseModel", "place", "()I"⟩ ∈ xTB := xw 1619 (by decide +kernel) (by decide +kernel)
set_option maxRecDepth 100000 in
theorem wd_1621 : Cond.methodLink "CapitalCaseLaw" 36 ⟨"CapitalCaseModel", "house", "(III)I"⟩ ∈ xTB := xw 1621 (by decide +kernel) (by decide +kernel)
set_option maxRecDepth 100000 in
theorem wd_1622 : Cond.instanceMethod ⟨"CapitalCaseModel", "house", "(III)I"⟩ ∈ xTB := xw 1622 (by decide +kernel) (by decide +kernel)
set_option maxRecDepth 100000 in
theorem wd_1623 : Cond.selects "CapitalCaseModel" ⟨"CapitalCaseModel", "house", "(III)I"⟩ ⟨"CapitalCaseModel", "house", "(III)I"⟩ ∈ xTB := xw 1623 (by decide +kernel) (by decide +kernel)
set_option maxRecDepth 100000 in
theorem wd_1625 : Cond.methodLink "CapitalCaseModel" 405 ⟨"CapitalCaseModel", "isHouse", "(I)Z"⟩ ∈ xTB := xw 1625 (by decide +kernel) (by decide +kernel)
set_option maxRecDepth 100000 in
theorem wd_1627 : Cond.instanceMethod ⟨"CapitalCaseModel", "isHouse", "(I)Z"⟩ ∈ xTB := xw 1627 (by decide +kernel) (by decide +kernel)
set_option maxRecDepth 100000 in
theorem wd_1629 : Cond.methodLink "CapitalCaseModel" 324 ⟨"CapitalCaseModel", "in", "(III)Z"⟩ ∈ xTB := xw 1629 (by decide +kernel) (by decide +kernel)
set_option maxRecDepth 100000 in
theorem wd_1630 : Cond.static ⟨"CapitalCaseModel", "in", "(III)Z"⟩ ∈ xTB := xw 1630 (by decide +kernel) (by decide +kernel)
set_option maxRecDepth 100000 in
theorem wd_1632 : Cond.methodLink "CapitalCaseModel" 408 ⟨"CapitalCaseModel", "isSort", "(I)Z"⟩ ∈ xTB := xw 1632 (by decide +kernel) (by decide +kernel)
set_option maxRecDepth 100000 in
theorem wd_1633 : Cond.static ⟨"CapitalCaseModel", "isSort", "(I)Z"⟩ ∈ xTB := xw 1633 (by decide +kernel) (by decide +kernel)
set_option maxRecDepth 100000 in
theorem wd_1635 : Cond.methodLink "CapitalCaseModel" 411 ⟨"CapitalCaseModel", "copies", "()V"⟩ ∈ xTB := xw 1635 (by decide +kernel) (by decide +kernel)
set_option maxRecDepth 100000 in
theorem wd_1637 : Cond.instanceMethod ⟨"CapitalCaseModel", "copies", "()V"⟩ ∈ xTB := xw 1637 (by decide +kernel) (by decide +kernel)
set_option maxRecDepth 100000 in
theorem wd_1674 : Cond.methodLink "CapitalCaseLaw" 41 ⟨"CapitalCaseModel", "verse", "(II)I"⟩ ∈ xTB := xw 1674 (by decide +kernel) (by decide +kernel)
set_option maxRecDepth 100000 in
theorem wd_1675 : Cond.instanceMethod ⟨"CapitalCaseModel", "verse", "(II)I"⟩ ∈ xTB := xw 1675 (by decide +kernel) (by decide +kernel)
set_option maxRecDepth 100000 in
theorem wd_1676 : Cond.selects "CapitalCaseModel" ⟨"CapitalCaseModel", "verse", "(II)I"⟩ ⟨"CapitalCaseModel", "verse", "(II)I"⟩ ∈ xTB := xw 1676 (by decide +kernel) (by decide +kernel)
set_option maxRecDepth 100000 in
theorem wd_1678 : Cond.methodLink "CapitalCaseModel" 417 ⟨"CapitalCaseModel", "isVerse", "(I)Z"⟩ ∈ xTB := xw 1678 (by decide +kernel) (by decide +kernel)
set_option maxRecDepth 100000 in
theorem wd_1680 : Cond.instanceMethod ⟨"CapitalCaseModel", "isVerse", "(I)Z"⟩ ∈ xTB := xw 1680 (by decide +kernel) (by decide +kernel)
set_option maxRecDepth 100000 in
theorem wd_1690 : Cond.methodLink "CapitalCaseLaw" 45 ⟨"CapitalCaseModel", "wants", "(II)I"⟩ ∈ xTB := xw 1690 (by decide +kernel) (by decide +kernel)
set_option maxRecDepth 100000 in
theorem wd_1691 : Cond.instanceMethod ⟨"CapitalCaseModel", "wants", "(II)I"⟩ ∈ xTB := xw 1691 (by decide +kernel) (by decide +kernel)
set_option maxRecDepth 100000 in
theorem wd_1692 : Cond.selects "CapitalCaseModel" ⟨"CapitalCaseModel", "wants", "(II)I"⟩ ⟨"CapitalCaseModel", "wants", "(II)I"⟩ ∈ xTB := xw 1692 (by decide +kernel) (by decide +kernel)
set_option maxRecDepth 100000 in
theorem wd_1694 : Cond.methodLink "CapitalCaseLaw" 50 ⟨"CapitalCaseModel", "tells", "(IIII)I"⟩ ∈ xTB := xw 1694 (by decide +kernel) (by decide +kernel)
set_option maxRecDepth 100000 in
theorem wd_1695 : Cond.instanceMethod ⟨"CapitalCaseModel", "tells", "(IIII)I"⟩ ∈ xTB := xw 1695 (by decide +kernel) (by decide +kernel)
set_option maxRecDepth 100000 in
theorem wd_1696 : Cond.selects "CapitalCaseModel" ⟨"CapitalCaseModel", "tells", "(IIII)I"⟩ ⟨"CapitalCaseModel", "tells", "(IIII)I"⟩ ∈ xTB := xw 1696 (by decide +kernel) (by decide +kernel)
set_option maxRecDepth 100000 in
theorem wd_1698 : Cond.constant "CapitalCaseModel" 420 (-1000000000) ∈ xTB := xw 1698 (by decide +kernel) (by decide +kernel)
set_option maxRecDepth 100000 in
theorem wd_1707 : Cond.methodLink "CapitalCaseLaw" 55 ⟨"CapitalCaseModel", "set", "(I)Z"⟩ ∈ xTB := xw 1707 (by decide +kernel) (by decide +kernel)
set_option maxRecDepth 100000 in
theorem wd_1708 : Cond.instanceMethod ⟨"CapitalCaseModel", "set", "(I)Z"⟩ ∈ xTB := xw 1708 (by decide +kernel) (by decide +kernel)
set_option maxRecDepth 100000 in
theorem wd_1709 : Cond.selects "CapitalCaseModel" ⟨"CapitalCaseModel", "set", "(I)Z"⟩ ⟨"CapitalCaseModel", "set", "(I)Z"⟩ ∈ xTB := xw 1709 (by decide +kernel) (by decide +kernel)
set_option maxRecDepth 100000 in
theorem wd_1727 : Cond.methodLink "CapitalCaseModel" 424 ⟨"CapitalCaseModel", "records", "()V"⟩ ∈ xTB := xw 1727 (by decide +kernel) (by decide +kernel)
set_option maxRecDepth 100000 in
theorem wd_1729 : Cond.instanceMethod ⟨"CapitalCaseModel", "records", "()V"⟩ ∈ xTB := xw 1729 (by decide +kernel) (by decide +kernel)
set_option maxRecDepth 100000 in
theorem wd_1731 : Cond.methodLink "CapitalCaseLaw" 59 ⟨"CapitalCaseModel", "clear", "(I)Z"⟩ ∈ xTB := xw 1731 (by decide +kernel) (by decide +kernel)
set_option maxRecDepth 100000 in
theorem wd_1732 : Cond.instanceMethod ⟨"CapitalCaseModel", "clear", "(I)Z"⟩ ∈ xTB := xw 1732 (by decide +kernel) (by decide +kernel)
set_option maxRecDepth 100000 in
theorem wd_1733 : Cond.selects "CapitalCaseModel" ⟨"CapitalCaseModel", "clear", "(I)Z"⟩ ⟨"CapitalCaseModel", "clear", "(I)Z"⟩ ∈ xTB := xw 1733 (by decide +kernel) (by decide +kernel)
set_option maxRecDepth 100000 in
theorem wd_1735 : Cond.methodLink "CapitalCaseLaw" 64 ⟨"CapitalCaseModel", "lend", "(III)Z"⟩ ∈ xTB := xw 1735 (by decide +kernel) (by decide +kernel)
set_option maxRecDepth 100000 in
theorem wd_1736 : Cond.instanceMethod ⟨"CapitalCaseModel", "lend", "(III)Z"⟩ ∈ xTB := xw 1736 (by decide +kernel) (by decide +kernel)
set_option maxRecDepth 100000 in
theorem wd_1737 : Cond.selects "CapitalCaseModel" ⟨"CapitalCaseModel", "lend", "(III)Z"⟩ ⟨"CapitalCaseModel", "lend", "(III)Z"⟩ ∈ xTB := xw 1737 (by decide +kernel) (by decide +kernel)
set_option maxRecDepth 100000 in
theorem wd_1739 : Cond.methodLink "CapitalCaseModel" 427 ⟨"CapitalCaseModel", "areTwo", "(III)Z"⟩ ∈ xTB := xw 1739 (by decide +kernel) (by decide +kernel)
set_option maxRecDepth 100000 in
theorem wd_1741 : Cond.instanceMethod ⟨"CapitalCaseModel", "areTwo", "(III)Z"⟩ ∈ xTB := xw 1741 (by decide +kernel) (by decide +kernel)
set_option maxRecDepth 100000 in
theorem wd_1743 : Cond.methodLink "CapitalCaseLaw" 68 ⟨"CapitalCaseModel", "giveBack", "(III)Z"⟩ ∈ xTB := xw 1743 (by decide +kernel) (by decide +kernel)
set_option maxRecDepth 100000 in
theorem wd_1744 : Cond.instanceMethod ⟨"CapitalCaseModel", "giveBack", "(III)Z"⟩ ∈ xTB := xw 1744 (by decide +kernel) (by decide +kernel)
set_option maxRecDepth 100000 in
theorem wd_1745 : Cond.selects "CapitalCaseModel" ⟨"CapitalCaseModel", "giveBack", "(III)Z"⟩ ⟨"CapitalCaseModel", "giveBack", "(III)Z"⟩ ∈ xTB := xw 1745 (by decide +kernel) (by decide +kernel)
set_option maxRecDepth 100000 in
theorem wd_1747 : Cond.methodLink "CapitalCaseLaw" 72 ⟨"CapitalCaseModel", "days", "(I)I"⟩ ∈ xTB := xw 1747 (by decide +kernel) (by decide +kernel)
set_option maxRecDepth 100000 in
theorem wd_1748 : Cond.instanceMethod ⟨"CapitalCaseModel", "days", "(I)I"⟩ ∈ xTB := xw 1748 (by decide +kernel) (by decide +kernel)
set_option maxRecDepth 100000 in
theorem wd_1749 : Cond.selects "CapitalCaseModel" ⟨"CapitalCaseModel", "days", "(I)I"⟩ ⟨"CapitalCaseModel", "days", "(I)I"⟩ ∈ xTB := xw 1749 (by decide +kernel) (by decide +kernel)
set_option maxRecDepth 100000 in
theorem wd_1751 : Cond.methodLink "CapitalCaseModel" 430 ⟨"CapitalCaseModel", "isLong", "(I)Z"⟩ ∈ xTB := xw 1751 (by decide +kernel) (by decide +kernel)
set_option maxRecDepth 100000 in
theorem wd_1752 : Cond.static ⟨"CapitalCaseModel", "isLong", "(I)Z"⟩ ∈ xTB := xw 1752 (by decide +kernel) (by decide +kernel)
set_option maxRecDepth 100000 in
theorem wd_1754 : Cond.methodLink "CapitalCaseModel" 433 ⟨"CapitalCaseModel", "goes", "(I)V"⟩ ∈ xTB := xw 1754 (by decide +kernel) (by decide +kernel)
set_option maxRecDepth 100000 in
theorem wd_1756 : Cond.instanceMethod ⟨"CapitalCaseModel", "goes", "(I)V"⟩ ∈ xTB := xw 1756 (by decide +kernel) (by decide +kernel)
set_option maxRecDepth 100000 in
theorem wd_1758 : Cond.methodLink "CapitalCaseModel" 402 ⟨"CapitalCaseModel", "dayGoes", "()V"⟩ ∈ xTB := xw 1758 (by decide +kernel) (by decide +kernel)
set_option maxRecDepth 100000 in
theorem wd_1760 : Cond.instanceMethod ⟨"CapitalCaseModel", "dayGoes", "()V"⟩ ∈ xTB := xw 1760 (by decide +kernel) (by decide +kernel)
set_option maxRecDepth 100000 in
theorem wd_1766 : Cond.methodLink "CapitalCaseModel" 395 ⟨"CapitalCaseModel", "areThieves", "()Z"⟩ ∈ xTB := xw 1766 (by decide +kernel) (by decide +kernel)
set_option maxRecDepth 100000 in
theorem wd_1768 : Cond.instanceMethod ⟨"CapitalCaseModel", "areThieves", "()Z"⟩ ∈ xTB := xw 1768 (by decide +kernel) (by decide +kernel)
set_option maxRecDepth 100000 in
theorem wd_1770 : Cond.methodLink "CapitalCaseModel" 341 ⟨"CapitalCaseModel", "lotOf", "(II)I"⟩ ∈ xTB := xw 1770 (by decide +kernel) (by decide +kernel)
set_option maxRecDepth 100000 in
theorem wd_1772 : Cond.instanceMethod ⟨"CapitalCaseModel", "lotOf", "(II)I"⟩ ∈ xTB := xw 1772 (by decide +kernel) (by decide +kernel)
set_option maxRecDepth 100000 in
theorem wd_1774 : Cond.methodLink "CapitalCaseModel" 338 ⟨"CapitalCaseModel", "mixed", "(II)I"⟩ ∈ xTB := xw 1774 (by decide +kernel) (by decide +kernel)
set_option maxRecDepth 100000 in
theorem wd_1775 : Cond.static ⟨"CapitalCaseModel", "mixed", "(II)I"⟩ ∈ xTB := xw 1775 (by decide +kernel) (by decide +kernel)
set_option maxRecDepth 100000 in
theorem wd_1777 : Cond.constant "CapitalCaseModel" 337 1103515245 ∈ xTB := xw 1777 (by decide +kernel) (by decide +kernel)
set_option maxRecDepth 100000 in
theorem wd_1782 : Cond.methodLink "CapitalCaseLaw" 77 ⟨"CapitalCaseModel", "undo", "()Z"⟩ ∈ xTB := xw 1782 (by decide +kernel) (by decide +kernel)
set_option maxRecDepth 100000 in
theorem wd_1783 : Cond.instanceMethod ⟨"CapitalCaseModel", "undo", "()Z"⟩ ∈ xTB := xw 1783 (by decide +kernel) (by decide +kernel)
set_option maxRecDepth 100000 in
theorem wd_1784 : Cond.selects "CapitalCaseModel" ⟨"CapitalCaseModel", "undo", "()Z"⟩ ⟨"CapitalCaseModel", "undo", "()Z"⟩ ∈ xTB := xw 1784 (by decide +kernel) (by decide +kernel)
set_option maxRecDepth 100000 in
theorem wd_1786 : Cond.methodLink "CapitalCaseLaw" 81 ⟨"CapitalCaseModel", "from", "(II)I"⟩ ∈ xTB := xw 1786 (by decide +kernel) (by decide +kernel)
set_option maxRecDepth 100000 in
theorem wd_1787 : Cond.instanceMethod ⟨"CapitalCaseModel", "from", "(II)I"⟩ ∈ xTB := xw 1787 (by decide +kernel) (by decide +kernel)
set_option maxRecDepth 100000 in
theorem wd_1788 : Cond.selects "CapitalCaseModel" ⟨"CapitalCaseModel", "from", "(II)I"⟩ ⟨"CapitalCaseModel", "from", "(II)I"⟩ ∈ xTB := xw 1788 (by decide +kernel) (by decide +kernel)
set_option maxRecDepth 100000 in
theorem wd_1790 : Cond.methodLink "CapitalCaseLaw" 85 ⟨"CapitalCaseModel", "best", "(I)I"⟩ ∈ xTB := xw 1790 (by decide +kernel) (by decide +kernel)
set_option maxRecDepth 100000 in
theorem wd_1791 : Cond.instanceMethod ⟨"CapitalCaseModel", "best", "(I)I"⟩ ∈ xTB := xw 1791 (by decide +kernel) (by decide +kernel)
set_option maxRecDepth 100000 in
theorem wd_1792 : Cond.selects "CapitalCaseModel" ⟨"CapitalCaseModel", "best", "(I)I"⟩ ⟨"CapitalCaseModel", "best", "(I)I"⟩ ∈ xTB := xw 1792 (by decide +kernel) (by decide +kernel)
set_option maxRecDepth 100000 in
theorem wd_1794 : Cond.methodLink "CapitalCaseModel" 451 ⟨"CapitalCaseModel", "findsBest", "()V"⟩ ∈ xTB := xw 1794 (by decide +kernel) (by decide +kernel)
set_option maxRecDepth 100000 in
theorem wd_1796 : Cond.instanceMethod ⟨"CapitalCaseModel", "findsBest", "()V"⟩ ∈ xTB := xw 1796 (by decide +kernel) (by decide +kernel)
set_option maxRecDepth 100000 in
theorem wd_1798 : Cond.methodLink "CapitalCaseModel" 436 ⟨"CapitalCaseModel", "openBits", "()I"⟩ ∈ xTB := xw 1798 (by decide +kernel) (by decide +kernel)
set_option maxRecDepth 100000 in
theorem wd_1800 : Cond.instanceMethod ⟨"CapitalCaseModel", "openBits", "()I"⟩ ∈ xTB := xw 1800 (by decide +kernel) (by decide +kernel)
set_option maxRecDepth 100000 in
theorem wd_1802 : Cond.methodLink "CapitalCaseModel" 439 ⟨"CapitalCaseModel", "keepsAhead", "()V"⟩ ∈ xTB := xw 1802 (by decide +kernel) (by decide +kernel)
set_option maxRecDepth 100000 in
theorem wd_1804 : Cond.instanceMethod ⟨"CapitalCaseModel", "keepsAhead", "()V"⟩ ∈ xTB := xw 1804 (by decide +kernel) (by decide +kernel)
set_option maxRecDepth 100000 in
theorem wd_1810 : Cond.methodLink "CapitalCaseLaw" 89 ⟨"CapitalCaseModel", "worth", "(II)I"⟩ ∈ xTB := xw 1810 (by decide +kernel) (by decide +kernel)
set_option maxRecDepth 100000 in
theorem wd_1811 : Cond.instanceMethod ⟨"CapitalCaseModel", "worth", "(II)I"⟩ ∈ xTB := xw 1811 (by decide +kernel) (by decide +kernel)
set_option maxRecDepth 100000 in
theorem wd_1812 : Cond.selects "CapitalCaseModel" ⟨"CapitalCaseModel", "worth", "(II)I"⟩ ⟨"CapitalCaseModel", "worth", "(II)I"⟩ ∈ xTB := xw 1812 (by decide +kernel) (by decide +kernel)
set_option maxRecDepth 100000 in
theorem wd_1814 : Cond.methodLink "CapitalCaseLaw" 93 ⟨"CapitalCaseModel", "pillar", "(I)I"⟩ ∈ xTB := xw 1814 (by decide +kernel) (by decide +kernel)
set_option maxRecDepth 100000 in
theorem wd_1815 : Cond.instanceMethod ⟨"CapitalCaseModel", "pillar", "(I)I"⟩ ∈ xTB := xw 1815 (by decide +kernel) (by decide +kernel)
set_option maxRecDepth 100000 in
theorem wd_1816 : Cond.selects "CapitalCaseModel" ⟨"CapitalCaseModel", "pillar", "(I)I"⟩ ⟨"CapitalCaseModel", "pillar", "(I)I"⟩ ∈ xTB := xw 1816 (by decide +kernel) (by decide +kernel)
set_option maxRecDepth 100000 in
theorem wd_1818 : Cond.methodLink "CapitalCaseLaw" 97 ⟨"CapitalCaseModel", "twoDays", "(I)I"⟩ ∈ xTB := xw 1818 (by decide +kernel) (by decide +kernel)
set_option maxRecDepth 100000 in
theorem wd_1819 : Cond.instanceMethod ⟨"CapitalCaseModel", "twoDays", "(I)I"⟩ ∈ xTB := xw 1819 (by decide +kernel) (by decide +kernel)
set_option maxRecDepth 100000 in
theorem wd_1820 : Cond.selects "CapitalCaseModel" ⟨"CapitalCaseModel", "twoDays", "(I)I"⟩ ⟨"CapitalCaseModel", "twoDays", "(I)I"⟩ ∈ xTB := xw 1820 (by decide +kernel) (by decide +kernel)
set_option maxRecDepth 100000 in
theorem wd_1822 : Cond.methodLink "CapitalCaseModel" 454 ⟨"CapitalCaseModel", "firstDay", "(I)I"⟩ ∈ xTB := xw 1822 (by decide +kernel) (by decide +kernel)
set_option maxRecDepth 100000 in
theorem wd_1824 : Cond.instanceMethod ⟨"CapitalCaseModel", "firstDay", "(I)I"⟩ ∈ xTB := xw 1824 (by decide +kernel) (by decide +kernel)
set_option maxRecDepth 100000 in
theorem wd_1826 : Cond.methodLink "CapitalCaseLaw" 101 ⟨"CapitalCaseModel", "loans", "(II)I"⟩ ∈ xTB := xw 1826 (by decide +kernel) (by decide +kernel)
set_option maxRecDepth 100000 in
theorem wd_1827 : Cond.instanceMethod ⟨"CapitalCaseModel", "loans", "(II)I"⟩ ∈ xTB := xw 1827 (by decide +kernel) (by decide +kernel)
set_option maxRecDepth 100000 in
theorem wd_1828 : Cond.selects "CapitalCaseModel" ⟨"CapitalCaseModel", "loans", "(II)I"⟩ ⟨"CapitalCaseModel", "loans", "(II)I"⟩ ∈ xTB := xw 1828 (by decide +kernel) (by decide +kernel)
set_option maxRecDepth 100000 in
theorem wd_1834 : Cond.methodLink "CapitalCaseLaw" 105 ⟨"CapitalCaseModel", "bargains", "(I)I"⟩ ∈ xTB := xw 1834 (by decide +kernel) (by decide +kernel)
set_option maxRecDepth 100000 in
theorem wd_1835 : Cond.instanceMethod ⟨"CapitalCaseModel", "bargains", "(I)I"⟩ ∈ xTB := xw 1835 (by decide +kernel) (by decide +kernel)
set_option maxRecDepth 100000 in
theorem wd_1836 : Cond.selects "CapitalCaseModel" ⟨"CapitalCaseModel", "bargains", "(I)I"⟩ ⟨"CapitalCaseModel", "bargains", "(I)I"⟩ ∈ xTB := xw 1836 (by decide +kernel) (by decide +kernel)
set_option maxRecDepth 100000 in
theorem wd_1846 : Cond.methodLink "CapitalCaseLaw" 109 ⟨"CapitalCaseModel", "strike", "(I)I"⟩ ∈ xTB := xw 1846 (by decide +kernel) (by decide +kernel)
set_option maxRecDepth 100000 in
theorem wd_1847 : Cond.instanceMethod ⟨"CapitalCaseModel", "strike", "(I)I"⟩ ∈ xTB := xw 1847 (by decide +kernel) (by decide +kernel)
set_option maxRecDepth 100000 in
theorem wd_1848 : Cond.selects "CapitalCaseModel" ⟨"CapitalCaseModel", "strike", "(I)I"⟩ ⟨"CapitalCaseModel", "strike", "(I)I"⟩ ∈ xTB := xw 1848 (by decide +kernel) (by decide +kernel)
set_option maxRecDepth 100000 in
theorem wd_1850 : Cond.methodLink "CapitalCaseLaw" 113 ⟨"CapitalCaseModel", "clash", "(I)I"⟩ ∈ xTB := xw 1850 (by decide +kernel) (by decide +kernel)
set_option maxRecDepth 100000 in
theorem wd_1851 : Cond.instanceMethod ⟨"CapitalCaseModel", "clash", "(I)I"⟩ ∈ xTB := xw 1851 (by decide +kernel) (by decide +kernel)
set_option maxRecDepth 100000 in
theorem wd_1852 : Cond.selects "CapitalCaseModel" ⟨"CapitalCaseModel", "clash", "(I)I"⟩ ⟨"CapitalCaseModel", "clash", "(I)I"⟩ ∈ xTB := xw 1852 (by decide +kernel) (by decide +kernel)
set_option maxRecDepth 100000 in
theorem wd_1854 : Cond.methodLink "CapitalCaseLaw" 117 ⟨"CapitalCaseModel", "late", "()I"⟩ ∈ xTB := xw 1854 (by decide +kernel) (by decide +kernel)
set_option maxRecDepth 100000 in
theorem wd_1855 : Cond.instanceMethod ⟨"CapitalCaseModel", "late", "()I"⟩ ∈ xTB := xw 1855 (by decide +kernel) (by decide +kernel)
set_option maxRecDepth 100000 in
theorem wd_1856 : Cond.selects "CapitalCaseModel" ⟨"CapitalCaseModel", "late", "()I"⟩ ⟨"CapitalCaseModel", "late", "()I"⟩ ∈ xTB := xw 1856 (by decide +kernel) (by decide +kernel)
set_option maxRecDepth 100000 in
theorem wd_1858 : Cond.methodLink "CapitalCaseLaw" 121 ⟨"CapitalCaseModel", "wornOut", "(II)I"⟩ ∈ xTB := xw 1858 (by decide +kernel) (by decide +kernel)
set_option maxRecDepth 100000 in
theorem wd_1859 : Cond.instanceMethod ⟨"CapitalCaseModel", "wornOut", "(II)I"⟩ ∈ xTB := xw 1859 (by decide +kernel) (by decide +kernel)
set_option maxRecDepth 100000 in
theorem wd_1860 : Cond.selects "CapitalCaseModel" ⟨"CapitalCaseModel", "wornOut", "(II)I"⟩ ⟨"CapitalCaseModel", "wornOut", "(II)I"⟩ ∈ xTB := xw 1860 (by decide +kernel) (by decide +kernel)
set_option maxRecDepth 100000 in
theorem wd_1862 : Cond.methodLink "CapitalCaseLaw" 125 ⟨"CapitalCaseModel", "then", "(IIII)I"⟩ ∈ xTB := xw 1862 (by decide +kernel) (by decide +kernel)
set_option maxRecDepth 100000 in
theorem wd_1863 : Cond.instanceMethod ⟨"CapitalCaseModel", "then", "(IIII)I"⟩ ∈ xTB := xw 1863 (by decide +kernel) (by decide +kernel)
set_option maxRecDepth 100000 in
theorem wd_1864 : Cond.selects "CapitalCaseModel" ⟨"CapitalCaseModel", "then", "(IIII)I"⟩ ⟨"CapitalCaseModel", "then", "(IIII)I"⟩ ∈ xTB := xw 1864 (by decide +kernel) (by decide +kernel)
set_option maxRecDepth 100000 in
theorem wd_1866 : Cond.methodLink "CapitalCaseLaw" 129 ⟨"CapitalCaseModel", "paidIn", "(I)I"⟩ ∈ xTB := xw 1866 (by decide +kernel) (by decide +kernel)
set_option maxRecDepth 100000 in
theorem wd_1867 : Cond.instanceMethod ⟨"CapitalCaseModel", "paidIn", "(I)I"⟩ ∈ xTB := xw 1867 (by decide +kernel) (by decide +kernel)
set_option maxRecDepth 100000 in
theorem wd_1868 : Cond.selects "CapitalCaseModel" ⟨"CapitalCaseModel", "paidIn", "(I)I"⟩ ⟨"CapitalCaseModel", "paidIn", "(I)I"⟩ ∈ xTB := xw 1868 (by decide +kernel) (by decide +kernel)
set_option maxRecDepth 100000 in
theorem wd_1870 : Cond.methodLink "CapitalCaseLaw" 133 ⟨"CapitalCaseModel", "year", "(IIII)I"⟩ ∈ xTB := xw 1870 (by decide +kernel) (by decide +kernel)
set_option maxRecDepth 100000 in
theorem wd_1871 : Cond.instanceMethod ⟨"CapitalCaseModel", "year", "(IIII)I"⟩ ∈ xTB := xw 1871 (by decide +kernel) (by decide +kernel)
set_option maxRecDepth 100000 in
theorem wd_1872 : Cond.selects "CapitalCaseModel" ⟨"CapitalCaseModel", "year", "(IIII)I"⟩ ⟨"CapitalCaseModel", "year", "(IIII)I"⟩ ∈ xTB := xw 1872 (by decide +kernel) (by decide +kernel)
set_option maxRecDepth 100000 in
theorem wd_1874 : Cond.methodLink "CapitalCaseLaw" 138 ⟨"CapitalCaseModel", "tell", "(IIZ)I"⟩ ∈ xTB := xw 1874 (by decide +kernel) (by decide +kernel)
set_option maxRecDepth 100000 in
theorem wd_1875 : Cond.instanceMethod ⟨"CapitalCaseModel", "tell", "(IIZ)I"⟩ ∈ xTB := xw 1875 (by decide +kernel) (by decide +kernel)
set_option maxRecDepth 100000 in
theorem wd_1876 : Cond.selects "CapitalCaseModel" ⟨"CapitalCaseModel", "tell", "(IIZ)I"⟩ ⟨"CapitalCaseModel", "tell", "(IIZ)I"⟩ ∈ xTB := xw 1876 (by decide +kernel) (by decide +kernel)
set_option maxRecDepth 100000 in
theorem wd_1878 : Cond.methodLink "CapitalCaseLaw" 142 ⟨"CapitalCaseModel", "forget", "()I"⟩ ∈ xTB := xw 1878 (by decide +kernel) (by decide +kernel)
set_option maxRecDepth 100000 in
theorem wd_1879 : Cond.instanceMethod ⟨"CapitalCaseModel", "forget", "()I"⟩ ∈ xTB := xw 1879 (by decide +kernel) (by decide +kernel)
set_option maxRecDepth 100000 in
theorem wd_1880 : Cond.selects "CapitalCaseModel" ⟨"CapitalCaseModel", "forget", "()I"⟩ ⟨"CapitalCaseModel", "forget", "()I"⟩ ∈ xTB := xw 1880 (by decide +kernel) (by decide +kernel)
set_option maxRecDepth 100000 in
theorem wd_1882 : Cond.methodLink "CapitalCaseLaw" 146 ⟨"CapitalCaseModel", "whose", "(II)I"⟩ ∈ xTB := xw 1882 (by decide +kernel) (by decide +kernel)
set_option maxRecDepth 100000 in
theorem wd_1883 : Cond.instanceMethod ⟨"CapitalCaseModel", "whose", "(II)I"⟩ ∈ xTB := xw 1883 (by decide +kernel) (by decide +kernel)
set_option maxRecDepth 100000 in
theorem wd_1884 : Cond.selects "CapitalCaseModel" ⟨"CapitalCaseModel", "whose", "(II)I"⟩ ⟨"CapitalCaseModel", "whose", "(II)I"⟩ ∈ xTB := xw 1884 (by decide +kernel) (by decide +kernel)
set_option maxRecDepth 100000 in
theorem wd_1886 : Cond.methodLink "CapitalCaseModel" 467 ⟨"CapitalCaseModel", "whoseBits", "(I)I"⟩ ∈ xTB := xw 1886 (by decide +kernel) (by decide +kernel)
set_option maxRecDepth 100000 in
theorem wd_1888 : Cond.instanceMethod ⟨"CapitalCaseModel", "whoseBits", "(I)I"⟩ ∈ xTB := xw 1888 (by decide +kernel) (by decide +kernel)
set_option maxRecDepth 100000 in
theorem wd_1890 : Cond.methodLink "CapitalCaseModel" 470 ⟨"CapitalCaseModel", "bits", "(I)I"⟩ ∈ xTB := xw 1890 (by decide +kernel) (by decide +kernel)
set_option maxRecDepth 100000 in
theorem wd_1891 : Cond.static ⟨"CapitalCaseModel", "bits", "(I)I"⟩ ∈ xTB := xw 1891 (by decide +kernel) (by decide +kernel)
set_option maxRecDepth 100000 in
theorem wd_1893 : Cond.methodLink "CapitalCaseLaw" 150 ⟨"CapitalCaseModel", "ask", "(II)I"⟩ ∈ xTB := xw 1893 (by decide +kernel) (by decide +kernel)
set_option maxRecDepth 100000 in
theorem wd_1894 : Cond.instanceMethod ⟨"CapitalCaseModel", "ask", "(II)I"⟩ ∈ xTB := xw 1894 (by decide +kernel) (by decide +kernel)
set_option maxRecDepth 100000 in
theorem wd_1895 : Cond.selects "CapitalCaseModel" ⟨"CapitalCaseModel", "ask", "(II)I"⟩ ⟨"CapitalCaseModel", "ask", "(II)I"⟩ ∈ xTB := xw 1895 (by decide +kernel) (by decide +kernel)
set_option maxRecDepth 100000 in
theorem wd_1897 : Cond.methodLink "CapitalCaseLaw" 154 ⟨"CapitalCaseModel", "hold", "(I)Z"⟩ ∈ xTB := xw 1897 (by decide +kernel) (by decide +kernel)
set_option maxRecDepth 100000 in
theorem wd_1898 : Cond.instanceMethod ⟨"CapitalCaseModel", "hold", "(I)Z"⟩ ∈ xTB := xw 1898 (by decide +kernel) (by decide +kernel)
set_option maxRecDepth 100000 in
theorem wd_1899 : Cond.selects "CapitalCaseModel" ⟨"CapitalCaseModel", "hold", "(I)Z"⟩ ⟨"CapitalCaseModel", "hold", "(I)Z"⟩ ∈ xTB := xw 1899 (by decide +kernel) (by decide +kernel)
set_option maxRecDepth 100000 in
theorem wd_1901 : Cond.methodLink "CapitalCaseLaw" 158 ⟨"CapitalCaseModel", "restore", "(I)Z"⟩ ∈ xTB := xw 1901 (by decide +kernel) (by decide +kernel)
set_option maxRecDepth 100000 in
theorem wd_1902 : Cond.instanceMethod ⟨"CapitalCaseModel", "restore", "(I)Z"⟩ ∈ xTB := xw 1902 (by decide +kernel) (by decide +kernel)
set_option maxRecDepth 100000 in
theorem wd_1903 : Cond.selects "CapitalCaseModel" ⟨"CapitalCaseModel", "restore", "(I)Z"⟩ ⟨"CapitalCaseModel", "restore", "(I)Z"⟩ ∈ xTB := xw 1903 (by decide +kernel) (by decide +kernel)
set_option maxRecDepth 100000 in
theorem wd_1905 : Cond.methodLink "CapitalCaseLaw" 162 ⟨"CapitalCaseModel", "count", "(I)I"⟩ ∈ xTB := xw 1905 (by decide +kernel) (by decide +kernel)
set_option maxRecDepth 100000 in
theorem wd_1906 : Cond.instanceMethod ⟨"CapitalCaseModel", "count", "(I)I"⟩ ∈ xTB := xw 1906 (by decide +kernel) (by decide +kernel)
set_option maxRecDepth 100000 in
theorem wd_1907 : Cond.selects "CapitalCaseModel" ⟨"CapitalCaseModel", "count", "(I)I"⟩ ⟨"CapitalCaseModel", "count", "(I)I"⟩ ∈ xTB := xw 1907 (by decide +kernel) (by decide +kernel)
set_option maxRecDepth 100000 in
theorem wd_1909 : Cond.methodLink "CapitalCaseModel" 473 ⟨"CapitalCaseModel", "versesSo", "(II)I"⟩ ∈ xTB := xw 1909 (by decide +kernel) (by decide +kernel)
set_option maxRecDepth 100000 in
theorem wd_1911 : Cond.instanceMethod ⟨"CapitalCaseModel", "versesSo", "(II)I"⟩ ∈ xTB := xw 1911 (by decide +kernel) (by decide +kernel)
set_option maxRecDepth 100000 in
theorem wd_1913 : Cond.methodLink "CapitalCaseModel" 476 ⟨"CapitalCaseModel", "sumNow", "(II)I"⟩ ∈ xTB := xw 1913 (by decide +kernel) (by decide +kernel)
set_option maxRecDepth 100000 in
theorem wd_1915 : Cond.instanceMethod ⟨"CapitalCaseModel", "sumNow", "(II)I"⟩ ∈ xTB := xw 1915 (by decide +kernel) (by decide +kernel)
