/-! ===== THE PROGRAM: words of the tables by their places, the methods by number ===== -/
noncomputable def bn {α : Type} (k : Nat) (a b : Nat → Option α) : Nat → Option α := fun pc => xif (Nat.ble (Nat.succ pc) k) (a pc) (b pc)
noncomputable def bl {α : Type} (k : Nat) (v : α) : Nat → Option α := fun pc => xif (Nat.beq pc k) (some v) none
theorem xB_n {α : Type} {P : Nat → α → Prop} {k : Nat} {a b : Nat → Option α} (ha : ∀ pc f, a pc = some f → P pc f) (hb : ∀ pc f, b pc = some f → P pc f) : ∀ pc f, bn k a b pc = some f → P pc f := by
  intro pc f h
  unfold bn at h
  cases hc : Nat.ble (Nat.succ pc) k with
  | true => rw [hc] at h; exact ha pc f h
  | false => rw [hc] at h; exact hb pc f h
theorem xB_l {α : Type} {P : Nat → α → Prop} {k : Nat} {v : α} (h0 : P k v) : ∀ pc f, bl k v pc = some f → P pc f := by
  intro pc f h
  unfold bl at h
  cases hc : Nat.beq pc k with
  | true =>
    rw [hc] at h
    have e := Nat.eq_of_beq_eq_true hc
    cases h
    rw [e]
    exact h0
  | false => rw [hc] at h; cases h
theorem xT_n {PX : xPX} {G : State → Nat → Nat → Prop} {cc : ByteArray} {own : String} {ini : Bool} {k : Nat} {a b : Nat → Option xF} (ha : xTree PX G cc own ini a) (hb : xTree PX G cc own ini b) : xTree PX G cc own ini (bn k a b) := xB_n ha hb
theorem xT_l {PX : xPX} {G : State → Nat → Nat → Prop} {cc : ByteArray} {own : String} {ini : Bool} {k : Nat} {f : xF} (h : xSound PX G cc own ini k f) : xTree PX G cc own ini (bl k f) := xB_l h
theorem xR_n {cc : ByteArray} {ret : Option FieldType} : ∀ q ∈ ([] : List (Nat × Nat)), xretok cc ret q.1 q.2 := fun _ h => absurd h List.not_mem_nil
theorem xR_c {cc : ByteArray} {ret : Option FieldType} {pc k : Nat} {l : List (Nat × Nat)} (h : xretok cc ret pc k) (hl : ∀ q ∈ l, xretok cc ret q.1 q.2) : ∀ q ∈ ((pc, k) :: l), xretok cc ret q.1 q.2 := by
  intro q hq
  rcases List.mem_cons.mp hq with rfl | hq
  · exact h
  · exact hl q hq
theorem xrt_ok {cc : ByteArray} {ret : Option FieldType} : ∀ {l : List (Nat × Nat)}, (∀ q ∈ l, xretok cc ret q.1 q.2) → ∀ pc, ¬ xrt l pc = 0 → xretok cc ret pc (xrt l pc)
  | [], _, pc, h => absurd rfl h
  | q :: l, hl, pc, h => by
    have e : xrt (q :: l) pc = bif Nat.beq q.1 pc then q.2 else xrt l pc := rfl
    rw [e] at h ⊢
    cases hc : Nat.beq q.1 pc with
    | true =>
      have e2 := Nat.eq_of_beq_eq_true hc
      rw [← e2]
      exact hl q List.mem_cons_self
    | false =>
      rw [hc] at h
      exact xrt_ok (fun q hq => hl q (List.mem_cons_of_mem _ hq)) pc h
theorem xTsw {pc : Nat} {offs : Array Int} {ts : List Nat} (hl : offs.size = ts.length) (h : (List.range ts.length).all (fun i => decide ((pc : Int) + offs.getD i 0 = ((ts.getD i 0 : Nat) : Int))) = true) : ∀ (i t : Nat), xget ts i = some t → ∃ off, offs[i]? = some off ∧ (pc : Int) + off = (t : Int) := by
  intro i t hi
  rw [xget_eq] at hi
  have hlt : i < ts.length := (List.getElem?_eq_some_iff.mp hi).1
  have h2 := List.all_eq_true.mp h i (List.mem_range.mpr hlt)
  have hlt2 : i < offs.size := by omega
  refine ⟨offs[i], Array.getElem?_eq_getElem hlt2, ?_⟩
  have e1 : offs.getD i 0 = offs[i] := by simp [Array.getD, hlt2]
  have e2 : ts.getD i 0 = t := by simp [List.getD, hi]
  rw [e1, e2] at h2
  exact of_decide_eq_true h2
set_option maxRecDepth 100000 in
theorem wd_0 : Cond.selects "CapitalCase$Script" ⟨"CapitalCase$Script", "layDown", "(III)V"⟩ ⟨"CapitalCase$Script", "layDown", "(III)V"⟩ ∈ xTB := xw 0 (by decide +kernel) (by decide +kernel)
set_option maxRecDepth 100000 in
theorem wd_44 : Cond.selects "CapitalCaseModel" ⟨"CapitalCaseModel", "plain", "(I)V"⟩ ⟨"CapitalCaseModel", "plain", "(I)V"⟩ ∈ xTB := xw 44 (by decide +kernel) (by decide +kernel)
set_option maxRecDepth 100000 in
theorem wd_45 : Cond.selects "CapitalCaseModel" ⟨"CapitalCaseModel", "begins", "()V"⟩ ⟨"CapitalCaseModel", "begins", "()V"⟩ ∈ xTB := xw 45 (by decide +kernel) (by decide +kernel)
set_option maxRecDepth 100000 in
theorem wd_46 : Cond.selects "CapitalCaseModel" ⟨"CapitalCaseModel", "keepsRow", "()V"⟩ ⟨"CapitalCaseModel", "keepsRow", "()V"⟩ ∈ xTB := xw 46 (by decide +kernel) (by decide +kernel)
set_option maxRecDepth 100000 in
theorem wd_111 : Cond.initialized "CapitalCase" ∈ xTB := xw 111 (by decide +kernel) (by decide +kernel)
set_option maxRecDepth 100000 in
theorem wd_112 : Cond.initialized "CapitalCase$Script" ∈ xTB := xw 112 (by decide +kernel) (by decide +kernel)
set_option maxRecDepth 100000 in
theorem wd_113 : Cond.initialized "java/util/Arrays" ∈ xTB := xw 113 (by decide +kernel) (by decide +kernel)
set_option maxRecDepth 100000 in
theorem wd_114 : Cond.initialized "CapitalCase$Parser" ∈ xTB := xw 114 (by decide +kernel) (by decide +kernel)
set_option maxRecDepth 100000 in
theorem wd_115 : Cond.initialized "CapitalCase$Tokens" ∈ xTB := xw 115 (by decide +kernel) (by decide +kernel)
set_option maxRecDepth 100000 in
theorem wd_116 : Cond.initialized "CapitalCase$Town" ∈ xTB := xw 116 (by decide +kernel) (by decide +kernel)
set_option maxRecDepth 100000 in
theorem wd_117 : Cond.initialized "CapitalCase$History" ∈ xTB := xw 117 (by decide +kernel) (by decide +kernel)
set_option maxRecDepth 100000 in
theorem wd_118 : Cond.initialized "CapitalCase$Prints" ∈ xTB := xw 118 (by decide +kernel) (by decide +kernel)
set_option maxRecDepth 100000 in
theorem wd_119 : Cond.initialized "CapitalCase$Judge" ∈ xTB := xw 119 (by decide +kernel) (by decide +kernel)
set_option maxRecDepth 100000 in
theorem wd_120 : Cond.initialized "CapitalCase$Press" ∈ xTB := xw 120 (by decide +kernel) (by decide +kernel)
set_option maxRecDepth 100000 in
theorem wd_121 : Cond.initialized "CapitalCase$Planner" ∈ xTB := xw 121 (by decide +kernel) (by decide +kernel)
set_option maxRecDepth 100000 in
theorem wd_122 : Cond.initialized "CapitalCase$TwoDays" ∈ xTB := xw 122 (by decide +kernel) (by decide +kernel)
set_option maxRecDepth 100000 in
theorem wd_123 : Cond.initialized "CapitalCase$Trade" ∈ xTB := xw 123 (by decide +kernel) (by decide +kernel)
set_option maxRecDepth 100000 in
theorem wd_124 : Cond.initialized "CapitalCaseModel" ∈ xTB := xw 124 (by decide +kernel) (by decide +kernel)
set_option maxRecDepth 100000 in
theorem wd_133 : Cond.classLink "CapitalCaseLaw" 7 "CapitalCase" ∈ xTB := xw 133 (by decide +kernel) (by decide +kernel)
set_option maxRecDepth 100000 in
theorem wd_134 : Cond.instantiable "CapitalCase" 16 ∈ xTB := xw 134 (by decide +kernel) (by decide +kernel)
set_option maxRecDepth 100000 in
theorem wd_135 : Cond.methodLink "CapitalCaseLaw" 9 ⟨"CapitalCase", "<init>", "()V"⟩ ∈ xTB := xw 135 (by decide +kernel) (by decide +kernel)
set_option maxRecDepth 100000 in
theorem wd_136 : Cond.instanceMethod ⟨"CapitalCase", "<init>", "()V"⟩ ∈ xTB := xw 136 (by decide +kernel) (by decide +kernel)
set_option maxRecDepth 100000 in
theorem wd_138 : Cond.methodLink "CapitalCase" 3 ⟨"java/lang/Object", "<init>", "()V"⟩ ∈ xTB := xw 138 (by decide +kernel) (by decide +kernel)
set_option maxRecDepth 100000 in
theorem wd_139 : Cond.instanceMethod ⟨"java/lang/Object", "<init>", "()V"⟩ ∈ xTB := xw 139 (by decide +kernel) (by decide +kernel)
set_option maxRecDepth 100000 in
theorem wd_141 : Cond.classLink "CapitalCase" 20 "CapitalCase$Script" ∈ xTB := xw 141 (by decide +kernel) (by decide +kernel)
set_option maxRecDepth 100000 in
theorem wd_142 : Cond.instantiable "CapitalCase$Script" 15 ∈ xTB := xw 142 (by decide +kernel) (by decide +kernel)
set_option maxRecDepth 100000 in
theorem wd_143 : Cond.methodLink "CapitalCase" 22 ⟨"CapitalCase$Script", "<init>", "()V"⟩ ∈ xTB := xw 143 (by decide +kernel) (by decide +kernel)
set_option maxRecDepth 100000 in
theorem wd_144 : Cond.instanceMethod ⟨"CapitalCase$Script", "<init>", "()V"⟩ ∈ xTB := xw 144 (by decide +kernel) (by decide +kernel)
set_option maxRecDepth 100000 in
theorem wd_146 : Cond.methodLink "CapitalCase$Script" 7 ⟨"java/lang/Object", "<init>", "()V"⟩ ∈ xTB := xw 146 (by decide +kernel) (by decide +kernel)
set_option maxRecDepth 100000 in
theorem wd_147 : Cond.methodLink "CapitalCase$Script" 41 ⟨"CapitalCase$Script", "wipe", "()V"⟩ ∈ xTB := xw 147 (by decide +kernel) (by decide +kernel)
set_option maxRecDepth 100000 in
theorem wd_148 : Cond.instanceMethod ⟨"CapitalCase$Script", "wipe", "()V"⟩ ∈ xTB := xw 148 (by decide +kernel) (by decide +kernel)
set_option maxRecDepth 100000 in
theorem wd_149 : Cond.selects "CapitalCase$Script" ⟨"CapitalCase$Script", "wipe", "()V"⟩ ⟨"CapitalCase$Script", "wipe", "()V"⟩ ∈ xTB := xw 149 (by decide +kernel) (by decide +kernel)
set_option maxRecDepth 100000 in
theorem wd_151 : Cond.methodLink "CapitalCase$Script" 60 ⟨"java/util/Arrays", "fill", "([II)V"⟩ ∈ xTB := xw 151 (by decide +kernel) (by decide +kernel)
set_option maxRecDepth 100000 in
theorem wd_152 : Cond.static ⟨"java/util/Arrays", "fill", "([II)V"⟩ ∈ xTB := xw 152 (by decide +kernel) (by decide +kernel)
set_option maxRecDepth 100000 in
theorem wd_154 : Cond.methodLink "CapitalCase$Script" 69 ⟨"CapitalCase$Script", "layDown", "(III)V"⟩ ∈ xTB := xw 154 (by decide +kernel) (by decide +kernel)
set_option maxRecDepth 100000 in
theorem wd_156 : Cond.instanceMethod ⟨"CapitalCase$Script", "layDown", "(III)V"⟩ ∈ xTB := xw 156 (by decide +kernel) (by decide +kernel)
set_option maxRecDepth 100000 in
theorem wd_158 : Cond.methodLink "CapitalCase$Script" 75 ⟨"CapitalCase$Script", "add", "(II)V"⟩ ∈ xTB := xw 158 (by decide +kernel) (by decide +kernel)
set_option maxRecDepth 100000 in
theorem wd_159 : Cond.instanceMethod ⟨"CapitalCase$Script", "add", "(II)V"⟩ ∈ xTB := xw 159 (by decide +kernel) (by decide +kernel)
set_option maxRecDepth 100000 in
theorem wd_160 : Cond.selects "CapitalCase$Script" ⟨"CapitalCase$Script", "add", "(II)V"⟩ ⟨"CapitalCase$Script", "add", "(II)V"⟩ ∈ xTB := xw 160 (by decide +kernel) (by decide +kernel)
set_option maxRecDepth 100000 in
theorem wd_162 : Cond.fieldLink "CapitalCase$Script" 44 "CapitalCase$Script" "houses" "I" ∈ xTB := xw 162 (by decide +kernel) (by decide +kernel)
set_option maxRecDepth 100000 in
theorem wd_169 : Cond.fieldLink "CapitalCase$Script" 48 "CapitalCase$Script" "verses" "I" ∈ xTB := xw 169 (by decide +kernel) (by decide +kernel)
set_option maxRecDepth 100000 in
theorem wd_175 : Cond.fieldLink "CapitalCase$Script" 51 "CapitalCase$Script" "spoils" "I" ∈ xTB := xw 175 (by decide +kernel) (by decide +kernel)
set_option maxRecDepth 100000 in
theorem wd_178 : Cond.fieldLink "CapitalCase$Script" 54 "CapitalCase$Script" "thieves" "I" ∈ xTB := xw 178 (by decide +kernel) (by decide +kernel)
set_option maxRecDepth 100000 in
theorem wd_181 : Cond.fieldLink "CapitalCase$Script" 57 "CapitalCase$Script" "seed" "I" ∈ xTB := xw 181 (by decide +kernel) (by decide +kernel)
set_option maxRecDepth 100000 in
theorem wd_184 : Cond.fieldLink "CapitalCase$Script" 13 "CapitalCase$Script" "pieces" "[I" ∈ xTB := xw 184 (by decide +kernel) (by decide +kernel)
set_option maxRecDepth 100000 in
theorem wd_187 : Cond.fieldLink "CapitalCase$Script" 17 "CapitalCase$Script" "value" "[I" ∈ xTB := xw 187 (by decide +kernel) (by decide +kernel)
set_option maxRecDepth 100000 in
theorem wd_191 : Cond.fieldLink "CapitalCase$Script" 20 "CapitalCase$Script" "due" "[I" ∈ xTB := xw 191 (by decide +kernel) (by decide +kernel)
set_option maxRecDepth 100000 in
theorem wd_195 : Cond.fieldLink "CapitalCase$Script" 23 "CapitalCase$Script" "wide" "[I" ∈ xTB := xw 195 (by decide +kernel) (by decide +kernel)
set_option maxRecDepth 100000 in
theorem wd_202 : Cond.fieldLink "CapitalCase$Script" 26 "CapitalCase$Script" "wanted" "[I" ∈ xTB := xw 202 (by decide +kernel) (by decide +kernel)
set_option maxRecDepth 100000 in
theorem wd_207 : Cond.fieldLink "CapitalCase$Script" 29 "CapitalCase$Script" "needs" "[I" ∈ xTB := xw 207 (by decide +kernel) (by decide +kernel)
set_option maxRecDepth 100000 in
theorem wd_211 : Cond.fieldLink "CapitalCase$Script" 32 "CapitalCase$Script" "lawStart" "[I" ∈ xTB := xw 211 (by decide +kernel) (by decide +kernel)
set_option maxRecDepth 100000 in
theorem wd_214 : Cond.fieldLink "CapitalCase$Script" 35 "CapitalCase$Script" "step" "[I" ∈ xTB := xw 214 (by decide +kernel) (by decide +kernel)
set_option maxRecDepth 100000 in
theorem wd_216 : Cond.fieldLink "CapitalCase$Script" 38 "CapitalCase$Script" "operand" "[I" ∈ xTB := xw 216 (by decide +kernel) (by decide +kernel)
set_option maxRecDepth 100000 in
theorem wd_218 : Cond.fieldLink "CapitalCase$Script" 66 "CapitalCase$Script" "steps" "I" ∈ xTB := xw 218 (by decide +kernel) (by decide +kernel)
set_option maxRecDepth 100000 in
theorem wd_252 : Cond.arrayClass .byte ∈ xTB := xw 252 (by decide +kernel) (by decide +kernel)
set_option maxRecDepth 100000 in
theorem wd_253 : Cond.arrayClass .int ∈ xTB := xw 253 (by decide +kernel) (by decide +kernel)
set_option maxRecDepth 100000 in
theorem wd_254 : Cond.classLink "CapitalCase" 27 "CapitalCase$Parser" ∈ xTB := xw 254 (by decide +kernel) (by decide +kernel)
set_option maxRecDepth 100000 in
theorem wd_255 : Cond.instantiable "CapitalCase$Parser" 10 ∈ xTB := xw 255 (by decide +kernel) (by decide +kernel)
set_option maxRecDepth 100000 in
theorem wd_256 : Cond.methodLink "CapitalCase" 29 ⟨"CapitalCase$Parser", "<init>", "([B)V"⟩ ∈ xTB := xw 256 (by decide +kernel) (by decide +kernel)
set_option maxRecDepth 100000 in
theorem wd_257 : Cond.instanceMethod ⟨"CapitalCase$Parser", "<init>", "([B)V"⟩ ∈ xTB := xw 257 (by decide +kernel) (by decide +kernel)
set_option maxRecDepth 100000 in
theorem wd_259 : Cond.methodLink "CapitalCase$Parser" 3 ⟨"java/lang/Object", "<init>", "()V"⟩ ∈ xTB := xw 259 (by decide +kernel) (by decide +kernel)
set_option maxRecDepth 100000 in
theorem wd_260 : Cond.classLink "CapitalCase$Parser" 9 "CapitalCase$Script" ∈ xTB := xw 260 (by decide +kernel) (by decide +kernel)
set_option maxRecDepth 100000 in
theorem wd_261 : Cond.methodLink "CapitalCase$Parser" 11 ⟨"CapitalCase$Script", "<init>", "()V"⟩ ∈ xTB := xw 261 (by decide +kernel) (by decide +kernel)
set_option maxRecDepth 100000 in
theorem wd_262 : Cond.classLink "CapitalCase$Parser" 18 "CapitalCase$Tokens" ∈ xTB := xw 262 (by decide +kernel) (by decide +kernel)
set_option maxRecDepth 100000 in
theorem wd_263 : Cond.instantiable "CapitalCase$Tokens" 3 ∈ xTB := xw 263 (by decide +kernel) (by decide +kernel)
set_option maxRecDepth 100000 in
theorem wd_265 : Cond.instanceMethod ⟨"CapitalCase$Tokens", "<init>", "()V"⟩ ∈ xTB := xw 265 (by decide +kernel) (by decide +kernel)
set_option maxRecDepth 100000 in
theorem wd_267 : Cond.methodLink "CapitalCase$Tokens" 3 ⟨"java/lang/Object", "<init>", "()V"⟩ ∈ xTB := xw 267 (by decide +kernel) (by decide +kernel)
set_option maxRecDepth 100000 in
theorem wd_268 : Cond.fieldLink "CapitalCase$Tokens" 9 "CapitalCase$Tokens" "kind" "[I" ∈ xTB := xw 268 (by decide +kernel) (by decide +kernel)
set_option maxRecDepth 100000 in
theorem wd_270 : Cond.fieldLink "CapitalCase$Tokens" 13 "CapitalCase$Tokens" "place" "[I" ∈ xTB := xw 270 (by decide +kernel) (by decide +kernel)
set_option maxRecDepth 100000 in
theorem wd_272 : Cond.fieldLink "CapitalCase$Tokens" 16 "CapitalCase$Tokens" "size" "[I" ∈ xTB := xw 272 (by decide +kernel) (by decide +kernel)
set_option maxRecDepth 100000 in
theorem wd_281 : Cond.fieldLink "CapitalCase$Parser" 12 "CapitalCase$Parser" "script" "LCapitalCase$Script;" ∈ xTB := xw 281 (by decide +kernel) (by decide +kernel)
set_option maxRecDepth 100000 in
theorem wd_283 : Cond.fieldLink "CapitalCase$Parser" 21 "CapitalCase$Parser" "tokens" "LCapitalCase$Tokens;" ∈ xTB := xw 283 (by decide +kernel) (by decide +kernel)
set_option maxRecDepth 100000 in
theorem wd_284 : Cond.fieldLink "CapitalCase$Parser" 29 "CapitalCase$Parser" "text" "[B" ∈ xTB := xw 284 (by decide +kernel) (by decide +kernel)
set_option maxRecDepth 100000 in
theorem wd_291 : Cond.fieldLink "CapitalCase$Parser" 25 "CapitalCase$Parser" "names" "[I" ∈ xTB := xw 291 (by decide +kernel) (by decide +kernel)
set_option maxRecDepth 100000 in
theorem wd_314 : Cond.classLink "CapitalCase" 36 "CapitalCase$Town" ∈ xTB := xw 314 (by decide +kernel) (by decide +kernel)
set_option maxRecDepth 100000 in
theorem wd_315 : Cond.instantiable "CapitalCase$Town" 10 ∈ xTB := xw 315 (by decide +kernel) (by decide +kernel)
set_option maxRecDepth 100000 in
theorem wd_317 : Cond.instanceMethod ⟨"CapitalCase$Town", "<init>", "()V"⟩ ∈ xTB := xw 317 (by decide +kernel) (by decide +kernel)
set_option maxRecDepth 100000 in
theorem wd_319 : Cond.methodLink "CapitalCase$Town" 3 ⟨"java/lang/Object", "<init>", "()V"⟩ ∈ xTB := xw 319 (by decide +kernel) (by decide +kernel)
set_option maxRecDepth 100000 in
theorem wd_320 : Cond.fieldLink "CapitalCase$Town" 9 "CapitalCase$Town" "has" "[I" ∈ xTB := xw 320 (by decide +kernel) (by decide +kernel)
set_option maxRecDepth 100000 in
theorem wd_325 : Cond.fieldLink "CapitalCase$Town" 15 "CapitalCase$Town" "used" "[I" ∈ xTB := xw 325 (by decide +kernel) (by decide +kernel)
set_option maxRecDepth 100000 in
theorem wd_329 : Cond.fieldLink "CapitalCase$Town" 18 "CapitalCase$Town" "worn" "[I" ∈ xTB := xw 329 (by decide +kernel) (by decide +kernel)
set_option maxRecDepth 100000 in
theorem wd_334 : Cond.fieldLink "CapitalCase$Town" 21 "CapitalCase$Town" "lent" "[I" ∈ xTB := xw 334 (by decide +kernel) (by decide +kernel)
set_option maxRecDepth 100000 in
theorem wd_336 : Cond.fieldLink "CapitalCase$Town" 24 "CapitalCase$Town" "from" "[I" ∈ xTB := xw 336 (by decide +kernel) (by decide +kernel)
set_option maxRecDepth 100000 in
theorem wd_376 : Cond.classLink "CapitalCase" 46 "CapitalCase$History" ∈ xTB := xw 376 (by decide +kernel) (by decide +kernel)
set_option maxRecDepth 100000 in
theorem wd_377 : Cond.instantiable "CapitalCase$History" 3 ∈ xTB := xw 377 (by decide +kernel) (by decide +kernel)
set_option maxRecDepth 100000 in
theorem wd_379 : Cond.instanceMethod ⟨"CapitalCase$History", "<init>", "()V"⟩ ∈ xTB := xw 379 (by decide +kernel) (by decide +kernel)
set_option maxRecDepth 100000 in
theorem wd_381 : Cond.methodLink "CapitalCase$History" 1 ⟨"java/lang/Object", "<init>", "()V"⟩ ∈ xTB := xw 381 (by decide +kernel) (by decide +kernel)
set_option maxRecDepth 100000 in
theorem wd_382 : Cond.classLink "CapitalCase$History" 9 "CapitalCase$Town" ∈ xTB := xw 382 (by decide +kernel) (by decide +kernel)
set_option maxRecDepth 100000 in
theorem wd_384 : Cond.fieldLink "CapitalCase$History" 11 "CapitalCase$History" "rows" "[LCapitalCase$Town;" ∈ xTB := xw 384 (by decide +kernel) (by decide +kernel)
set_option maxRecDepth 100000 in
theorem wd_395 : Cond.classLink "CapitalCase" 61 "CapitalCase$Prints" ∈ xTB := xw 395 (by decide +kernel) (by decide +kernel)
set_option maxRecDepth 100000 in
theorem wd_396 : Cond.instantiable "CapitalCase$Prints" 4 ∈ xTB := xw 396 (by decide +kernel) (by decide +kernel)
set_option maxRecDepth 100000 in
theorem wd_398 : Cond.instanceMethod ⟨"CapitalCase$Prints", "<init>", "()V"⟩ ∈ xTB := xw 398 (by decide +kernel) (by decide +kernel)
set_option maxRecDepth 100000 in
theorem wd_400 : Cond.methodLink "CapitalCase$Prints" 3 ⟨"java/lang/Object", "<init>", "()V"⟩ ∈ xTB := xw 400 (by decide +kernel) (by decide +kernel)
set_option maxRecDepth 100000 in
theorem wd_401 : Cond.fieldLink "CapitalCase$Prints" 11 "CapitalCase$Prints" "letters" "[I" ∈ xTB := xw 401 (by decide +kernel) (by decide +kernel)
set_option maxRecDepth 100000 in
theorem wd_402 : Cond.fieldLink "CapitalCase$Prints" 15 "CapitalCase$Prints" "wears" "[I" ∈ xTB := xw 402 (by decide +kernel) (by decide +kernel)
set_option maxRecDepth 100000 in
theorem wd_403 : Cond.fieldLink "CapitalCase$Prints" 18 "CapitalCase$Prints" "sos" "[Z" ∈ xTB := xw 403 (by decide +kernel) (by decide +kernel)
set_option maxRecDepth 100000 in
theorem wd_415 : Cond.arrayClass .boolean ∈ xTB := xw 415 (by decide +kernel) (by decide +kernel)
set_option maxRecDepth 100000 in
theorem wd_416 : Cond.classLink "CapitalCase" 68 "CapitalCase$Judge" ∈ xTB := xw 416 (by decide +kernel) (by decide +kernel)
set_option maxRecDepth 100000 in
theorem wd_417 : Cond.instantiable "CapitalCase$Judge" 3 ∈ xTB := xw 417 (by decide +kernel) (by decide +kernel)
set_option maxRecDepth 100000 in
theorem wd_418 : Cond.methodLink "CapitalCase" 70 ⟨"CapitalCase$Judge", "<init>", "(LCapitalCase$Script;)V"⟩ ∈ xTB := xw 418 (by decide +kernel) (by decide +kernel)
set_option maxRecDepth 100000 in
theorem wd_419 : Cond.instanceMethod ⟨"CapitalCase$Judge", "<init>", "(LCapitalCase$Script;)V"⟩ ∈ xTB := xw 419 (by decide +kernel) (by decide +kernel)
set_option maxRecDepth 100000 in
theorem wd_421 : Cond.methodLink "CapitalCase$Judge" 3 ⟨"java/lang/Object", "<init>", "()V"⟩ ∈ xTB := xw 421 (by decide +kernel) (by decide +kernel)
set_option maxRecDepth 100000 in
theorem wd_422 : Cond.fieldLink "CapitalCase$Judge" 18 "CapitalCase$Judge" "script" "LCapitalCase$Script;" ∈ xTB := xw 422 (by decide +kernel) (by decide +kernel)
set_option maxRecDepth 100000 in
theorem wd_423 : Cond.fieldLink "CapitalCase$Judge" 11 "CapitalCase$Judge" "vars" "[I" ∈ xTB := xw 423 (by decide +kernel) (by decide +kernel)
set_option maxRecDepth 100000 in
theorem wd_424 : Cond.fieldLink "CapitalCase$Judge" 15 "CapitalCase$Judge" "stack" "[I" ∈ xTB := xw 424 (by decide +kernel) (by decide +kernel)
set_option maxRecDepth 100000 in
theorem wd_432 : Cond.classLink "CapitalCase" 77 "CapitalCase$Press" ∈ xTB := xw 432 (by decide +kernel) (by decide +kernel)
set_option maxRecDepth 100000 in
theorem wd_433 : Cond.instantiable "CapitalCase$Press" 2 ∈ xTB := xw 433 (by decide +kernel) (by decide +kernel)
set_option maxRecDepth 100000 in
theorem wd_434 : Cond.methodLink "CapitalCase" 79 ⟨"CapitalCase$Press", "<init>", "(LCapitalCase$Script;LCapitalCase$Judge;)V"⟩ ∈ xTB := xw 434 (by decide +kernel) (by decide +kernel)
set_option maxRecDepth 100000 in
theorem wd_435 : Cond.instanceMethod ⟨"CapitalCase$Press", "<init>", "(LCapitalCase$Script;LCapitalCase$Judge;)V"⟩ ∈ xTB := xw 435 (by decide +kernel) (by decide +kernel)
set_option maxRecDepth 100000 in
theorem wd_437 : Cond.methodLink "CapitalCase$Press" 3 ⟨"java/lang/Object", "<init>", "()V"⟩ ∈ xTB := xw 437 (by decide +kernel) (by decide +kernel)
set_option maxRecDepth 100000 in
theorem wd_438 : Cond.fieldLink "CapitalCase$Press" 9 "CapitalCase$Press" "script" "LCapitalCase$Script;" ∈ xTB := xw 438 (by decide +kernel) (by decide +kernel)
set_option maxRecDepth 100000 in
theorem wd_439 : Cond.fieldLink "CapitalCase$Press" 15 "CapitalCase$Press" "judge" "LCapitalCase$Judge;" ∈ xTB := xw 439 (by decide +kernel) (by decide +kernel)
set_option maxRecDepth 100000 in
theorem wd_445 : Cond.classLink "CapitalCase" 86 "CapitalCase$Planner" ∈ xTB := xw 445 (by decide +kernel) (by decide +kernel)
set_option maxRecDepth 100000 in
theorem wd_446 : Cond.instantiable "CapitalCase$Planner" 12 ∈ xTB := xw 446 (by decide +kernel) (by decide +kernel)
set_option maxRecDepth 100000 in
theorem wd_447 : Cond.methodLink "CapitalCase" 88 ⟨"CapitalCase$Planner", "<init>", "(LCapitalCase$Script;LCapitalCase$Judge;)V"⟩ ∈ xTB := xw 447 (by decide +kernel) (by decide +kernel)
set_option maxRecDepth 100000 in
theorem wd_448 : Cond.instanceMethod ⟨"CapitalCase$Planner", "<init>", "(LCapitalCase$Script;LCapitalCase$Judge;)V"⟩ ∈ xTB := xw 448 (by decide +kernel) (by decide +kernel)
set_option maxRecDepth 100000 in
theorem wd_450 : Cond.methodLink "CapitalCase$Planner" 3 ⟨"java/lang/Object", "<init>", "()V"⟩ ∈ xTB := xw 450 (by decide +kernel) (by decide +kernel)
set_option maxRecDepth 100000 in
theorem wd_451 : Cond.fieldLink "CapitalCase$Planner" 30 "CapitalCase$Planner" "script" "LCapitalCase$Script;" ∈ xTB := xw 451 (by decide +kernel) (by decide +kernel)
set_option maxRecDepth 100000 in
theorem wd_452 : Cond.fieldLink "CapitalCase$Planner" 34 "CapitalCase$Planner" "judge" "LCapitalCase$Judge;" ∈ xTB := xw 452 (by decide +kernel) (by decide +kernel)
set_option maxRecDepth 100000 in
theorem wd_453 : Cond.fieldLink "CapitalCase$Planner" 9 "CapitalCase$Planner" "free" "[I" ∈ xTB := xw 453 (by decide +kernel) (by decide +kernel)
set_option maxRecDepth 100000 in
theorem wd_454 : Cond.fieldLink "CapitalCase$Planner" 15 "CapitalCase$Planner" "picks" "[I" ∈ xTB := xw 454 (by decide +kernel) (by decide +kernel)
set_option maxRecDepth 100000 in
theorem wd_457 : Cond.fieldLink "CapitalCase$Planner" 18 "CapitalCase$Planner" "pays" "[I" ∈ xTB := xw 457 (by decide +kernel) (by decide +kernel)
set_option maxRecDepth 100000 in
theorem wd_467 : Cond.fieldLink "CapitalCase$Planner" 21 "CapitalCase$Planner" "givers" "[I" ∈ xTB := xw 467 (by decide +kernel) (by decide +kernel)
set_option maxRecDepth 100000 in
theorem wd_468 : Cond.fieldLink "CapitalCase$Planner" 24 "CapitalCase$Planner" "ranks" "[I" ∈ xTB := xw 468 (by decide +kernel) (by decide +kernel)
set_option maxRecDepth 100000 in
theorem wd_469 : Cond.fieldLink "CapitalCase$Planner" 27 "CapitalCase$Planner" "giverCount" "[I" ∈ xTB := xw 469 (by decide +kernel) (by decide +kernel)
set_option maxRecDepth 100000 in
theorem wd_495 : Cond.classLink "CapitalCase" 93 "CapitalCase$TwoDays" ∈ xTB := xw 495 (by decide +kernel) (by decide +kernel)
set_option maxRecDepth 100000 in
theorem wd_496 : Cond.instantiable "CapitalCase$TwoDays" 9 ∈ xTB := xw 496 (by decide +kernel) (by decide +kernel)
set_option maxRecDepth 100000 in
theorem wd_497 : Cond.methodLink "CapitalCase" 95 ⟨"CapitalCase$TwoDays", "<init>", "(LCapitalCase$Script;LCapitalCase$Judge;LCapitalCase$Press;LCapitalCase$Planner;)V"⟩ ∈ xTB := xw 497 (by decide +kernel) (by decide +kernel)
set_option maxRecDepth 100000 in
theorem wd_498 : Cond.instanceMethod ⟨"CapitalCase$TwoDays", "<init>", "(LCapitalCase$Script;LCapitalCase$Judge;LCapitalCase$Press;LCapitalCase$Planner;)V"⟩ ∈ xTB := xw 498 (by decide +kernel) (by decide +kernel)
set_option maxRecDepth 100000 in
theorem wd_500 : Cond.methodLink "CapitalCase$TwoDays" 3 ⟨"java/lang/Object", "<init>", "()V"⟩ ∈ xTB := xw 500 (by decide +kernel) (by decide +kernel)
set_option maxRecDepth 100000 in
theorem wd_501 : Cond.classLink "CapitalCase$TwoDays" 9 "CapitalCase$Town" ∈ xTB := xw 501 (by decide +kernel) (by decide +kernel)
set_option maxRecDepth 100000 in
theorem wd_503 : Cond.classLink "CapitalCase$TwoDays" 38 "CapitalCase$Planner" ∈ xTB := xw 503 (by decide +kernel) (by decide +kernel)
set_option maxRecDepth 100000 in
theorem wd_504 : Cond.methodLink "CapitalCase$TwoDays" 40 ⟨"CapitalCase$Planner", "<init>", "(LCapitalCase$Script;LCapitalCase$Judge;)V"⟩ ∈ xTB := xw 504 (by decide +kernel) (by decide +kernel)
set_option maxRecDepth 100000 in
theorem wd_505 : Cond.fieldLink "CapitalCase$TwoDays" 22 "CapitalCase$TwoDays" "script" "LCapitalCase$Script;" ∈ xTB := xw 505 (by decide +kernel) (by decide +kernel)
set_option maxRecDepth 100000 in
theorem wd_506 : Cond.fieldLink "CapitalCase$TwoDays" 26 "CapitalCase$TwoDays" "judge" "LCapitalCase$Judge;" ∈ xTB := xw 506 (by decide +kernel) (by decide +kernel)
set_option maxRecDepth 100000 in
theorem wd_507 : Cond.fieldLink "CapitalCase$TwoDays" 30 "CapitalCase$TwoDays" "press" "LCapitalCase$Press;" ∈ xTB := xw 507 (by decide +kernel) (by decide +kernel)
set_option maxRecDepth 100000 in
theorem wd_508 : Cond.fieldLink "CapitalCase$TwoDays" 34 "CapitalCase$TwoDays" "first" "LCapitalCase$Planner;" ∈ xTB := xw 508 (by decide +kernel) (by decide +kernel)
set_option maxRecDepth 100000 in
theorem wd_509 : Cond.fieldLink "CapitalCase$TwoDays" 43 "CapitalCase$TwoDays" "second" "LCapitalCase$Planner;" ∈ xTB := xw 509 (by decide +kernel) (by decide +kernel)
set_option maxRecDepth 100000 in
theorem wd_510 : Cond.fieldLink "CapitalCase$TwoDays" 12 "CapitalCase$TwoDays" "after" "LCapitalCase$Town;" ∈ xTB := xw 510 (by decide +kernel) (by decide +kernel)
set_option maxRecDepth 100000 in
theorem wd_515 : Cond.fieldLink "CapitalCase$TwoDays" 18 "CapitalCase$TwoDays" "paysLater" "[I" ∈ xTB := xw 515 (by decide +kernel) (by decide +kernel)
set_option maxRecDepth 100000 in
theorem wd_535 : Cond.classLink "CapitalCase" 102 "CapitalCase$Trade" ∈ xTB := xw 535 (by decide +kernel) (by decide +kernel)
set_option maxRecDepth 100000 in
theorem wd_536 : Cond.instantiable "CapitalCase$Trade" 3 ∈ xTB := xw 536 (by decide +kernel) (by decide +kernel)
set_option maxRecDepth 100000 in
theorem wd_537 : Cond.methodLink "CapitalCase" 104 ⟨"CapitalCase$Trade", "<init>", "(LCapitalCase$Script;)V"⟩ ∈ xTB := xw 537 (by decide +kernel) (by decide +kernel)
set_option maxRecDepth 100000 in
theorem wd_538 : Cond.instanceMethod ⟨"CapitalCase$Trade", "<init>", "(LCapitalCase$Script;)V"⟩ ∈ xTB := xw 538 (by decide +kernel) (by decide +kernel)
set_option maxRecDepth 100000 in
theorem wd_540 : Cond.methodLink "CapitalCase$Trade" 3 ⟨"java/lang/Object", "<init>", "()V"⟩ ∈ xTB := xw 540 (by decide +kernel) (by decide +kernel)
set_option maxRecDepth 100000 in
theorem wd_541 : Cond.fieldLink "CapitalCase$Trade" 9 "CapitalCase$Trade" "script" "LCapitalCase$Script;" ∈ xTB := xw 541 (by decide +kernel) (by decide +kernel)
set_option maxRecDepth 100000 in
theorem wd_553 : Cond.fieldLink "CapitalCase" 9 "CapitalCase" "tape" "[B" ∈ xTB := xw 553 (by decide +kernel) (by decide +kernel)
set_option maxRecDepth 100000 in
theorem wd_554 : Cond.fieldLink "CapitalCase" 13 "CapitalCase" "tapeSize" "I" ∈ xTB := xw 554 (by decide +kernel) (by decide +kernel)
set_option maxRecDepth 100000 in
theorem wd_555 : Cond.fieldLink "CapitalCase" 17 "CapitalCase" "faultPlace" "I" ∈ xTB := xw 555 (by decide +kernel) (by decide +kernel)
set_option maxRecDepth 100000 in
theorem wd_556 : Cond.fieldLink "CapitalCase" 23 "CapitalCase" "script" "LCapitalCase$Script;" ∈ xTB := xw 556 (by decide +kernel) (by decide +kernel)
set_option maxRecDepth 100000 in
theorem wd_557 : Cond.fieldLink "CapitalCase" 32 "CapitalCase" "parser" "LCapitalCase$Parser;" ∈ xTB := xw 557 (by decide +kernel) (by decide +kernel)
set_option maxRecDepth 100000 in
theorem wd_558 : Cond.fieldLink "CapitalCase" 39 "CapitalCase" "town" "LCapitalCase$Town;" ∈ xTB := xw 558 (by decide +kernel) (by decide +kernel)
set_option maxRecDepth 100000 in
theorem wd_559 : Cond.fieldLink "CapitalCase" 43 "CapitalCase" "scratch" "LCapitalCase$Town;" ∈ xTB := xw 559 (by decide +kernel) (by decide +kernel)
set_option maxRecDepth 100000 in
theorem wd_560 : Cond.fieldLink "CapitalCase" 49 "CapitalCase" "history" "LCapitalCase$History;" ∈ xTB := xw 560 (by decide +kernel) (by decide +kernel)
set_option maxRecDepth 100000 in
theorem wd_561 : Cond.fieldLink "CapitalCase" 53 "CapitalCase" "slots" "[LCapitalCase$Town;" ∈ xTB := xw 561 (by decide +kernel) (by decide +kernel)
set_option maxRecDepth 100000 in
theorem wd_562 : Cond.fieldLink "CapitalCase" 57 "CapitalCase" "held" "[Z" ∈ xTB := xw 562 (by decide +kernel) (by decide +kernel)
set_option maxRecDepth 100000 in
theorem wd_563 : Cond.fieldLink "CapitalCase" 64 "CapitalCase" "prints" "LCapitalCase$Prints;" ∈ xTB := xw 563 (by decide +kernel) (by decide +kernel)
set_option maxRecDepth 100000 in
theorem wd_564 : Cond.fieldLink "CapitalCase" 73 "CapitalCase" "judge" "LCapitalCase$Judge;" ∈ xTB := xw 564 (by decide +kernel) (by decide +kernel)
set_option maxRecDepth 100000 in
theorem wd_565 : Cond.fieldLink "CapitalCase" 82 "CapitalCase" "press" "LCapitalCase$Press;" ∈ xTB := xw 565 (by decide +kernel) (by decide +kernel)
set_option maxRecDepth 100000 in
theorem wd_566 : Cond.fieldLink "CapitalCase" 89 "CapitalCase" "planner" "LCapitalCase$Planner;" ∈ xTB := xw 566 (by decide +kernel) (by decide +kernel)
set_option maxRecDepth 100000 in
theorem wd_567 : Cond.fieldLink "CapitalCase" 98 "CapitalCase" "pairOfDays" "LCapitalCase$TwoDays;" ∈ xTB := xw 567 (by decide +kernel) (by decide +kernel)
set_option maxRecDepth 100000 in
theorem wd_568 : Cond.fieldLink "CapitalCase" 105 "CapitalCase" "trade" "LCapitalCase$Trade;" ∈ xTB := xw 568 (by decide +kernel) (by decide +kernel)
set_option maxRecDepth 100000 in
theorem wd_1257 : Cond.classLink "CapitalCaseLaw" 10 "CapitalCaseModel" ∈ xTB := xw 1257 (by decide +kernel) (by decide +kernel)
set_option maxRecDepth 100000 in
theorem wd_1258 : Cond.instantiable "CapitalCaseModel" 70 ∈ xTB := xw 1258 (by decide +kernel) (by decide +kernel)
set_option maxRecDepth 100000 in
theorem wd_1259 : Cond.methodLink "CapitalCaseLaw" 12 ⟨"CapitalCaseModel", "<init>", "()V"⟩ ∈ xTB := xw 1259 (by decide +kernel) (by decide +kernel)
set_option maxRecDepth 100000 in
theorem wd_1260 : Cond.instanceMethod ⟨"CapitalCaseModel", "<init>", "()V"⟩ ∈ xTB := xw 1260 (by decide +kernel) (by decide +kernel)
set_option maxRecDepth 100000 in
theorem wd_1262 : Cond.methodLink "CapitalCaseModel" 7 ⟨"java/lang/Object", "<init>", "()V"⟩ ∈ xTB := xw 1262 (by decide +kernel) (by decide +kernel)
set_option maxRecDepth 100000 in
theorem wd_1263 : Cond.methodLink "CapitalCaseModel" 149 ⟨"CapitalCaseModel", "plain", "(I)V"⟩ ∈ xTB := xw 1263 (by decide +kernel) (by decide +kernel)
set_option maxRecDepth 100000 in
theorem wd_1265 : Cond.instanceMethod ⟨"CapitalCaseModel", "plain", "(I)V"⟩ ∈ xTB := xw 1265 (by decide +kernel) (by decide +kernel)
set_option maxRecDepth 100000 in
theorem wd_1267 : Cond.methodLink "CapitalCaseModel" 153 ⟨"CapitalCaseModel", "word", "(IIIIIII)J"⟩ ∈ xTB := xw 1267 (by decide +kernel) (by decide +kernel)
set_option maxRecDepth 100000 in
theorem wd_1268 : Cond.static ⟨"CapitalCaseModel", "word", "(IIIIIII)J"⟩ ∈ xTB := xw 1268 (by decide +kernel) (by decide +kernel)
set_option maxRecDepth 100000 in
theorem wd_1270 : Cond.methodLink "CapitalCaseModel" 174 ⟨"CapitalCaseModel", "appends", "(JI)J"⟩ ∈ xTB := xw 1270 (by decide +kernel) (by decide +kernel)
set_option maxRecDepth 100000 in
theorem wd_1271 : Cond.static ⟨"CapitalCaseModel", "appends", "(JI)J"⟩ ∈ xTB := xw 1271 (by decide +kernel) (by decide +kernel)
set_option maxRecDepth 100000 in
theorem wd_1273 : Cond.constantLong "CapitalCaseModel" 172 27 ∈ xTB := xw 1273 (by decide +kernel) (by decide +kernel)
set_option maxRecDepth 100000 in
theorem wd_1274 : Cond.methodLink "CapitalCaseModel" 157 ⟨"CapitalCaseModel", "begins", "()V"⟩ ∈ xTB := xw 1274 (by decide +kernel) (by decide +kernel)
set_option maxRecDepth 100000 in
theorem wd_1276 : Cond.instanceMethod ⟨"CapitalCaseModel", "begins", "()V"⟩ ∈ xTB := xw 1276 (by decide +kernel) (by decide +kernel)
set_option maxRecDepth 100000 in
theorem wd_1278 : Cond.methodLink "CapitalCaseModel" 160 ⟨"CapitalCaseModel", "keepsRow", "()V"⟩ ∈ xTB := xw 1278 (by decide +kernel) (by decide +kernel)
set_option maxRecDepth 100000 in
theorem wd_1280 : Cond.instanceMethod ⟨"CapitalCaseModel", "keepsRow", "()V"⟩ ∈ xTB := xw 1280 (by decide +kernel) (by decide +kernel)
set_option maxRecDepth 100000 in
theorem wd_1282 : Cond.fieldLink "CapitalCaseModel" 13 "CapitalCaseModel" "tape" "[B" ∈ xTB := xw 1282 (by decide +kernel) (by decide +kernel)
set_option maxRecDepth 100000 in
theorem wd_1284 : Cond.fieldLink "CapitalCaseModel" 17 "CapitalCaseModel" "text" "[B" ∈ xTB := xw 1284 (by decide +kernel) (by decide +kernel)
set_option maxRecDepth 100000 in
theorem wd_1286 : Cond.fieldLink "CapitalCaseModel" 20 "CapitalCaseModel" "tKind" "[I" ∈ xTB := xw 1286 (by decide +kernel) (by decide +kernel)
set_option maxRecDepth 100000 in
theorem wd_1287 : Cond.fieldLink "CapitalCaseModel" 24 "CapitalCaseModel" "tPlace" "[I" ∈ xTB := xw 1287 (by decide +kernel) (by decide +kernel)
set_option maxRecDepth 100000 in
theorem wd_1288 : Cond.fieldLink "CapitalCaseModel" 27 "CapitalCaseModel" "tValue" "[I" ∈ xTB := xw 1288 (by decide +kernel) (by decide +kernel)
set_option maxRecDepth 100000 in
theorem wd_1289 : Cond.fieldLink "CapitalCaseModel" 30 "CapitalCaseModel" "tName" "[J" ∈ xTB := xw 1289 (by decide +kernel) (by decide +kernel)
set_option maxRecDepth 100000 in
theorem wd_1290 : Cond.fieldLink "CapitalCaseModel" 34 "CapitalCaseModel" "keys" "[J" ∈ xTB := xw 1290 (by decide +kernel) (by decide +kernel)
set_option maxRecDepth 100000 in
theorem wd_1298 : Cond.fieldLink "CapitalCaseModel" 37 "CapitalCaseModel" "place" "I" ∈ xTB := xw 1298 (by decide +kernel) (by decide +kernel)
set_option maxRecDepth 100000 in
theorem wd_1299 : Cond.fieldLink "CapitalCaseModel" 230 "CapitalCaseModel" "live" "I" ∈ xTB := xw 1299 (by decide +kernel) (by decide +kernel)
set_option maxRecDepth 100000 in
theorem wd_1302 : Cond.fieldLink "CapitalCaseModel" 40 "CapitalCaseModel" "nameOf" "[J" ∈ xTB := xw 1302 (by decide +kernel) (by decide +kernel)
set_option maxRecDepth 100000 in
theorem wd_1303 : Cond.fieldLink "CapitalCaseModel" 43 "CapitalCaseModel" "houses" "[I" ∈ xTB := xw 1303 (by decide +kernel) (by decide +kernel)
set_option maxRecDepth 100000 in
theorem wd_1304 : Cond.fieldLink "CapitalCaseModel" 46 "CapitalCaseModel" "piecesTold" "[I" ∈ xTB := xw 1304 (by decide +kernel) (by decide +kernel)
set_option maxRecDepth 100000 in
theorem wd_1305 : Cond.fieldLink "CapitalCaseModel" 49 "CapitalCaseModel" "verses" "[I" ∈ xTB := xw 1305 (by decide +kernel) (by decide +kernel)
set_option maxRecDepth 100000 in
theorem wd_1306 : Cond.fieldLink "CapitalCaseModel" 52 "CapitalCaseModel" "longOf" "[I" ∈ xTB := xw 1306 (by decide +kernel) (by decide +kernel)
set_option maxRecDepth 100000 in
theorem wd_1307 : Cond.fieldLink "CapitalCaseModel" 55 "CapitalCaseModel" "wantsOf" "[I" ∈ xTB := xw 1307 (by decide +kernel) (by decide +kernel)
set_option maxRecDepth 100000 in
theorem wd_1308 : Cond.fieldLink "CapitalCaseModel" 58 "CapitalCaseModel" "valueOf" "[I" ∈ xTB := xw 1308 (by decide +kernel) (by decide +kernel)
set_option maxRecDepth 100000 in
theorem wd_1309 : Cond.fieldLink "CapitalCaseModel" 61 "CapitalCaseModel" "dueOf" "[I" ∈ xTB := xw 1309 (by decide +kernel) (by decide +kernel)
set_option maxRecDepth 100000 in
theorem wd_1310 : Cond.fieldLink "CapitalCaseModel" 64 "CapitalCaseModel" "spoils" "[I" ∈ xTB := xw 1310 (by decide +kernel) (by decide +kernel)
set_option maxRecDepth 100000 in
theorem wd_1311 : Cond.fieldLink "CapitalCaseModel" 67 "CapitalCaseModel" "thieves" "[I" ∈ xTB := xw 1311 (by decide +kernel) (by decide +kernel)
set_option maxRecDepth 100000 in
theorem wd_1312 : Cond.fieldLink "CapitalCaseModel" 70 "CapitalCaseModel" "seed" "[I" ∈ xTB := xw 1312 (by decide +kernel) (by decide +kernel)
set_option maxRecDepth 100000 in
theorem wd_1313 : Cond.fieldLink "CapitalCaseModel" 73 "CapitalCaseModel" "lawFirst" "[I" ∈ xTB := xw 1313 (by decide +kernel) (by decide +kernel)
set_option maxRecDepth 100000 in
theorem wd_1314 : Cond.fieldLink "CapitalCaseModel" 76 "CapitalCaseModel" "lawLast" "[I" ∈ xTB := xw 1314 (by decide +kernel) (by decide +kernel)
set_option maxRecDepth 100000 in
theorem wd_1316 : Cond.fieldLink "CapitalCaseModel" 79 "CapitalCaseModel" "hasTest" "[Z" ∈ xTB := xw 1316 (by decide +kernel) (by decide +kernel)
set_option maxRecDepth 100000 in
theorem wd_1317 : Cond.fieldLink "CapitalCaseModel" 83 "CapitalCaseModel" "testFrom" "[I" ∈ xTB := xw 1317 (by decide +kernel) (by decide +kernel)
set_option maxRecDepth 100000 in
theorem wd_1318 : Cond.fieldLink "CapitalCaseModel" 86 "CapitalCaseModel" "testMid" "[I" ∈ xTB := xw 1318 (by decide +kernel) (by decide +kernel)
set_option maxRecDepth 100000 in
theorem wd_1319 : Cond.fieldLink "CapitalCaseModel" 89 "CapitalCaseModel" "testTo" "[I" ∈ xTB := xw 1319 (by decide +kernel) (by decide +kernel)
set_option maxRecDepth 100000 in
theorem wd_1320 : Cond.fieldLink "CapitalCaseModel" 92 "CapitalCaseModel" "termTo" "[I" ∈ xTB := xw 1320 (by decide +kernel) (by decide +kernel)
set_option maxRecDepth 100000 in
theorem wd_1322 : Cond.fieldLink "CapitalCaseModel" 95 "CapitalCaseModel" "code" "[I" ∈ xTB := xw 1322 (by decide +kernel) (by decide +kernel)
set_option maxRecDepth 100000 in
theorem wd_1323 : Cond.fieldLink "CapitalCaseModel" 98 "CapitalCaseModel" "codeInt" "[I" ∈ xTB := xw 1323 (by decide +kernel) (by decide +kernel)
set_option maxRecDepth 100000 in
theorem wd_1324 : Cond.fieldLink "CapitalCaseModel" 101 "CapitalCaseModel" "letters" "[I" ∈ xTB := xw 1324 (by decide +kernel) (by decide +kernel)
set_option maxRecDepth 100000 in
theorem wd_1326 : Cond.fieldLink "CapitalCaseModel" 104 "CapitalCaseModel" "waits" "[I" ∈ xTB := xw 1326 (by decide +kernel) (by decide +kernel)
set_option maxRecDepth 100000 in
theorem wd_1328 : Cond.fieldLink "CapitalCaseModel" 107 "CapitalCaseModel" "variables" "[I" ∈ xTB := xw 1328 (by decide +kernel) (by decide +kernel)
set_option maxRecDepth 100000 in
theorem wd_1329 : Cond.fieldLink "CapitalCaseModel" 110 "CapitalCaseModel" "pile" "[I" ∈ xTB := xw 1329 (by decide +kernel) (by decide +kernel)
set_option maxRecDepth 100000 in
theorem wd_1331 : Cond.fieldLink "CapitalCaseModel" 113 "CapitalCaseModel" "now" "[I" ∈ xTB := xw 1331 (by decide +kernel) (by decide +kernel)
set_option maxRecDepth 100000 in
theorem wd_1332 : Cond.fieldLink "CapitalCaseModel" 116 "CapitalCaseModel" "row" "[I" ∈ xTB := xw 1332 (by decide +kernel) (by decide +kernel)
set_option maxRecDepth 100000 in
theorem wd_1333 : Cond.fieldLink "CapitalCaseModel" 328 "CapitalCaseModel" "lots" "I" ∈ xTB := xw 1333 (by decide +kernel) (by decide +kernel)
set_option maxRecDepth 100000 in
theorem wd_1334 : Cond.fieldLink "CapitalCaseModel" 331 "CapitalCaseModel" "isStill" "Z" ∈ xTB := xw 1334 (by decide +kernel) (by decide +kernel)
set_option maxRecDepth 100000 in
theorem wd_1335 : Cond.fieldLink "CapitalCaseModel" 334 "CapitalCaseModel" "shut" "I" ∈ xTB := xw 1335 (by decide +kernel) (by decide +kernel)
set_option maxRecDepth 100000 in
theorem wd_1337 : Cond.fieldLink "CapitalCaseModel" 119 "CapitalCaseModel" "wentNow" "[Z" ∈ xTB := xw 1337 (by decide +kernel) (by decide +kernel)
set_option maxRecDepth 100000 in
theorem wd_1338 : Cond.fieldLink "CapitalCaseModel" 122 "CapitalCaseModel" "wearsBy" "[I" ∈ xTB := xw 1338 (by decide +kernel) (by decide +kernel)
set_option maxRecDepth 100000 in
theorem wd_1339 : Cond.fieldLink "CapitalCaseModel" 125 "CapitalCaseModel" "paysBy" "[I" ∈ xTB := xw 1339 (by decide +kernel) (by decide +kernel)
set_option maxRecDepth 100000 in
theorem wd_1341 : Cond.fieldLink "CapitalCaseModel" 128 "CapitalCaseModel" "history" "[I" ∈ xTB := xw 1341 (by decide +kernel) (by decide +kernel)
set_option maxRecDepth 100000 in
theorem wd_1342 : Cond.fieldLink "CapitalCaseModel" 131 "CapitalCaseModel" "ahead" "[I" ∈ xTB := xw 1342 (by decide +kernel) (by decide +kernel)
set_option maxRecDepth 100000 in
theorem wd_1346 : Cond.fieldLink "CapitalCaseModel" 134 "CapitalCaseModel" "toldLetter" "[I" ∈ xTB := xw 1346 (by decide +kernel) (by decide +kernel)
set_option maxRecDepth 100000 in
theorem wd_1347 : Cond.fieldLink "CapitalCaseModel" 137 "CapitalCaseModel" "toldWorn" "[I" ∈ xTB := xw 1347 (by decide +kernel) (by decide +kernel)
set_option maxRecDepth 100000 in
theorem wd_1348 : Cond.fieldLink "CapitalCaseModel" 140 "CapitalCaseModel" "toldSo" "[Z" ∈ xTB := xw 1348 (by decide +kernel) (by decide +kernel)
set_option maxRecDepth 100000 in
theorem wd_1349 : Cond.fieldLink "CapitalCaseModel" 143 "CapitalCaseModel" "isHeld" "[Z" ∈ xTB := xw 1349 (by decide +kernel) (by decide +kernel)
set_option maxRecDepth 100000 in
theorem wd_1350 : Cond.fieldLink "CapitalCaseModel" 146 "CapitalCaseModel" "heldRows" "[I" ∈ xTB := xw 1350 (by decide +kernel) (by decide +kernel)
set_option maxRecDepth 100000 in
theorem wd_1492 : Cond.arrayClass .long ∈ xTB := xw 1492 (by decide +kernel) (by decide +kernel)
