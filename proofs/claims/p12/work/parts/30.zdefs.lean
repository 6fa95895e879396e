/-! ===== WEAKEST PRECONDITIONS: exact ints, hidden arrays ===== -/
/-- an int, a reference by its cell's number (none: null), a long -/
abbrev zV : Type := Int32 ⊕ (Option Nat ⊕ Int64)
/-- the int fields that a walk knows -/
abbrev zI : Type := Nat → Int32
abbrev zL : Type := List (Option zV)
abbrev zK : Type := Nat → zL → List zV → zI → Nat × Nat → Prop
abbrev zF : Type := zK → zL → List zV → zI → Nat × Nat → Prop
/-- a field's type: (0, id) I id, (1, iv) an int with F iv, (2, r) the cell r, (3, kind) some cell of that kind -/
abbrev zT : Type := Nat × Nat
/-- a kind: an object (class, fields), an array (type tag, length) -/
abbrev zD : Type := (Nat × List zT) ⊕ (Nat × Nat)
/-- the tables: kinds of numbers, what a kind is, invariants of elements, of ints, of longs, which arrays the walk knows -/
abbrev zG : Type := (Nat → Nat) × (Nat → zD) × (Nat → Nat → Int32 → Prop) × (Nat → Int32 → Prop) × (Nat → Nat → Int64 → Prop) × (Nat → Bool)
/-! ===== THE EXACT RUN: what each step does to all that the memory holds ===== -/
/-- locals may be forgotten -/
def zFg : zL → zL → Prop
  | [], [] => True
  | none :: t, _ :: t' => zFg t t'
  | some v :: t, o :: t' => o = some v ∧ zFg t t'
  | _, _ => False
def zpop : Nat → List zV → List zV → Option (List zV × List zV)
  | 0, acc, S => some (acc, S)
  | _ + 1, _, [] => none
  | k + 1, acc, v :: S => zpop k (v :: acc) S
def zpush (r : Option zV) (S : List zV) : List zV := match r with
  | none => S
  | some v => v :: S
def zla : List zV → zL
  | [] => []
  | .inr (.inr u) :: as => some (.inr (.inr u)) :: none :: zla as
  | v :: as => some v :: zla as
def zloc (n : Nat) (as : List zV) : zL := zla as ++ List.replicate (n - (zla as).length) none
/-- the kinds of the cells, what a kind is -/
abbrev zKd : Type := (Nat → Nat) × (Nat → zD)
abbrev zk (g : zG) : zKd := (g.1, g.2.1)
/-- ints, longs, references by their cells' numbers: of a cell, at a place; how many cells there are -/
abbrev xM : Type := (Nat → Nat → Int32) × (Nat → Nat → Int64) × (Nat → Nat → Option Nat) × Nat
abbrev eS : Type := Nat × zL × List zV × xM
abbrev xX : Type := xP → List zV → xM → Option zV → xM → Prop
def xpi (μ : xM) (k i : Nat) (v : Int32) : xM := (fun a j => if a = k ∧ j = i then v else μ.1 a j, μ.2)
def xpl (μ : xM) (k i : Nat) (v : Int64) : xM := (μ.1, fun a j => if a = k ∧ j = i then v else μ.2.1 a j, μ.2.2)
def xpr (μ : xM) (k i : Nat) (v : Option Nat) : xM := (μ.1, μ.2.1, fun a j => if a = k ∧ j = i then v else μ.2.2.1 a j, μ.2.2.2)
/-- a whole array of ints over another -/
def xcp (μ : xM) (k0 k n : Nat) : xM := (fun a j => if a = k ∧ j < n then μ.1 k0 j else μ.1 a j, μ.2)
/-- a Town is made: it and its five arrays -/
def xnew (μ : xM) : xM := (fun a j => if μ.2.2.2 ≤ a then 0 else μ.1 a j, μ.2.1, fun a j => if a = μ.2.2.2 then some (μ.2.2.2 + 1 + j) else if μ.2.2.2 < a then none else μ.2.2.1 a j, μ.2.2.2 + 6)
def xcn : Jvm.ClassFile.Cond → Nat
  | .eq => 0
  | .ne => 1
  | .lt => 2
  | .ge => 3
  | .gt => 4
  | .le => 5
def xW0 : List Int32 := [59, 61, 43, 45, 42, 47, 60, 40, 41]
def xW1 : List Int32 := [104, 111, 117, 115, 101, 32, 32, 32, 118, 101, 114, 115, 101, 32, 32, 32, 108, 101, 97, 118, 101, 32, 32, 32, 114, 97, 110, 107, 32, 32, 32, 32, 119, 101, 97, 114, 115, 32, 32, 32, 112, 97, 121, 115, 32, 32, 32, 32, 115, 112, 111, 105, 108, 115, 32, 32, 116, 104, 105, 101, 118, 101, 115, 32, 115, 101, 101, 100, 32, 32, 32, 32, 105, 102, 32, 32, 32, 32, 32, 32, 116, 104, 101, 110, 32, 32, 32, 32, 101, 108, 115, 101, 32, 32, 32, 32, 118, 97, 108, 117, 101, 32, 32, 32, 100, 117, 101, 32, 32, 32, 32, 32, 100, 97, 121, 32, 32, 32, 32, 32, 119, 111, 114, 110, 32, 32, 32, 32, 104, 97, 115, 32, 32, 32, 32, 32, 119, 104, 105, 99, 104, 32, 32, 32, 108, 101, 116, 116, 101, 114, 32, 32, 108, 111, 110, 103, 32, 32, 32, 32, 108, 101, 110, 116, 32, 32, 32, 32]
/-- what a text's indexOf of a small char tells -/
def xIx (x z : Int32) : Prop := 0 ≤ z.toInt ↔ x ∈ xW0
/-- from a text's load to behind its charAt, its indexOf -/
def xSp (x pc : Nat) (L : zL) (S : List zV) (μ : xM) (b : eS) : Prop :=
  (x = 39 ∧ ∃ c z : Int32, L[3]? = some (some (.inl c)) ∧ S = [] ∧ xIx c z ∧ b = (pc + 7, L, [.inl z], μ)) ∨
  (x = 51 ∧ ∃ w i z : Int32, L[0]? = some (some (.inl w)) ∧ L[4]? = some (some (.inl i)) ∧ S = [] ∧ xW1[(w.toInt * 8 + i.toInt).toNat]? = some z ∧ b = (pc + 12, L, [.inl z], μ))
def x2 (f : Int32 → Int32 → Int32) (m : Nat) (L : zL) (S : List zV) (μ : xM) (b : eS) : Prop := ∃ (x y : Int32) (S0 : List zV), S = .inl y :: .inl x :: S0 ∧ b = (m, L, .inl (f x y) :: S0, μ)
def x2d (f : Int32 → Int32 → Int32) (m : Nat) (L : zL) (S : List zV) (μ : xM) (b : eS) : Prop := ∃ (x y : Int32) (S0 : List zV), S = .inl y :: .inl x :: S0 ∧ ¬ y = 0 ∧ b = (m, L, .inl (f x y) :: S0, μ)
def x2l (f : Int64 → Int64 → Int64) (m : Nat) (L : zL) (S : List zV) (μ : xM) (b : eS) : Prop := ∃ (x y : Int64) (S0 : List zV), S = .inr (.inr y) :: .inr (.inr x) :: S0 ∧ b = (m, L, .inr (.inr (f x y)) :: S0, μ)
def xld (i m : Nat) (L : zL) (S : List zV) (μ : xM) (b : eS) : Prop := ∃ v : zV, L[i]? = some (some v) ∧ b = (m, L, v :: S, μ)
def xst1 (i m : Nat) (L : zL) (S : List zV) (μ : xM) (b : eS) : Prop := ∃ (v : zV) (S0 : List zV), S = v :: S0 ∧ b = (m, L.set i (some v), S0, μ)
def xst2 (i m : Nat) (L : zL) (S : List zV) (μ : xM) (b : eS) : Prop := ∃ (v : zV) (S0 : List zV), S = v :: S0 ∧ b = (m, (L.set i (some v)).set (i + 1) none, S0, μ)
def xifc (op : Nat) (y : Int32) (x : Int32) (t m : Nat) (L : zL) (S : List zV) (μ : xM) (b : eS) : Prop := (xcmpP op x y ∧ b = (t, L, S, μ)) ∨ (¬ xcmpP op x y ∧ b = (m, L, S, μ))
/-- an array of ints (t 0), of bytes (1), of truths (2), of longs (3), of Towns (4) -/
def xar (g : zKd) (a t len : Nat) : Prop := g.2 (g.1 a) = .inr (t, len)
def xca (X : xX) (na mn m : Nat) (L : zL) (S : List zV) (μ : xM) (b : eS) : Prop := ∃ (q : xP) (as rest : List zV) (r : Option zV) (μ' : xM), zpop na [] S = some (as, rest) ∧ xMB mn = some q ∧ X q as μ r μ' ∧ b = (m, L, zpush r rest, μ')
/-- what an instruction i of n bytes at pc does -/
def xIns (g : zKd) (X : xX) (own : String) (i : Instr) (pc n : Nat) (L : zL) (S : List zV) (μ : xM) (b : eS) : Prop := match i with
  | .iconst k => ∃ v : Int32, Int32.ofInt k = v ∧ b = (pc + n, L, .inl v :: S, μ)
  | .bipush k => ∃ v : Int32, (Int8.ofInt k).toInt32 = v ∧ b = (pc + n, L, .inl v :: S, μ)
  | .sipush k => ∃ v : Int32, (Int16.ofInt k).toInt32 = v ∧ b = (pc + n, L, .inl v :: S, μ)
  | .lconst k => ∃ v : Int64, Int64.ofNat (k : Nat) = v ∧ b = (pc + n, L, .inr (.inr v) :: S, μ)
  | .ldc x => (∃ v : Int32, xTb own x = (2, 0, v.toInt) ∧ b = (pc + n, L, .inl v :: S, μ)) ∨ xSp x pc L S μ b
  | .ldc_w x => ∃ v : Int32, xTb own x = (2, 0, v.toInt) ∧ b = (pc + n, L, .inl v :: S, μ)
  | .ldc2_w x => ∃ v : Int64, xTb own x = (3, 0, v.toInt) ∧ b = (pc + n, L, .inr (.inr v) :: S, μ)
  | .iload k => xld k (pc + n) L S μ b
  | .iload_n k => xld k (pc + n) L S μ b
  | .aload k => xld k (pc + n) L S μ b
  | .aload_n k => xld k (pc + n) L S μ b
  | .lload k => xld k (pc + n) L S μ b
  | .lload_n k => xld k (pc + n) L S μ b
  | .istore k => xst1 k (pc + n) L S μ b
  | .istore_n k => xst1 k (pc + n) L S μ b
  | .astore k => xst1 k (pc + n) L S μ b
  | .astore_n k => xst1 k (pc + n) L S μ b
  | .lstore k => xst2 k (pc + n) L S μ b
  | .lstore_n k => xst2 k (pc + n) L S μ b
  | .iinc k z => ∃ x v : Int32, L[k]? = some (some (.inl x)) ∧ Int32.ofInt z = v ∧ b = (pc + n, L.set k (some (.inl (x + v))), S, μ)
  | .iadd => x2 (fun x y => x + y) (pc + n) L S μ b
  | .isub => x2 (fun x y => x - y) (pc + n) L S μ b
  | .imul => x2 (fun x y => x * y) (pc + n) L S μ b
  | .iand => x2 (fun x y => x &&& y) (pc + n) L S μ b
  | .ior => x2 (fun x y => x ||| y) (pc + n) L S μ b
  | .ixor => x2 (fun x y => x ^^^ y) (pc + n) L S μ b
  | .ishl => x2 (fun x y => x <<< (y &&& 31)) (pc + n) L S μ b
  | .ishr => x2 (fun x y => x >>> (y &&& 31)) (pc + n) L S μ b
  | .iushr => x2 (fun x y => (x.toUInt32 >>> (y.toUInt32 &&& Int32.toUInt32 31)).toInt32) (pc + n) L S μ b
  | .idiv => x2d (fun x y => x / y) (pc + n) L S μ b
  | .irem => x2d (fun x y => x - x / y * y) (pc + n) L S μ b
  | .i2b => ∃ (x : Int32) (S0 : List zV), S = .inl x :: S0 ∧ b = (pc + n, L, .inl x.toInt8.toInt32 :: S0, μ)
  | .i2c => ∃ (x : Int32) (S0 : List zV), S = .inl x :: S0 ∧ b = (pc + n, L, .inl (x.toUInt32 % 65536).toInt32 :: S0, μ)
  | .i2l => ∃ (x : Int32) (S0 : List zV), S = .inl x :: S0 ∧ b = (pc + n, L, .inr (.inr x.toInt64) :: S0, μ)
  | .l2i => ∃ (x : Int64) (S0 : List zV), S = .inr (.inr x) :: S0 ∧ b = (pc + n, L, .inl x.toInt32 :: S0, μ)
  | .ladd => x2l (fun x y => x + y) (pc + n) L S μ b
  | .lmul => x2l (fun x y => x * y) (pc + n) L S μ b
  | .ldiv => x2l (fun x y => x / y) (pc + n) L S μ b
  | .lrem => x2l (fun x y => x - x / y * y) (pc + n) L S μ b
  | .lcmp => ∃ (x y : Int64) (S0 : List zV), S = .inr (.inr y) :: .inr (.inr x) :: S0 ∧ b = (pc + n, L, .inl (lg_cmp x y) :: S0, μ)
  | .dup => ∃ (v : zV) (S0 : List zV), S = v :: S0 ∧ b = (pc + n, L, v :: v :: S0, μ)
  | .dup2 => ∃ (v u : zV) (S0 : List zV), S = v :: u :: S0 ∧ b = (pc + n, L, v :: u :: v :: u :: S0, μ)
  | .pop => ∃ (v : zV) (S0 : List zV), S = v :: S0 ∧ b = (pc + n, L, S0, μ)
  | .goto off => ∃ t : Nat, (pc : Int) + off = (t : Int) ∧ b = (t, L, S, μ)
  | .ifCond c off => ∃ (x : Int32) (S0 : List zV) (t : Nat), S = .inl x :: S0 ∧ (pc : Int) + off = (t : Int) ∧ xifc (xcn c) 0 x t (pc + n) L S0 μ b
  | .if_icmp c off => ∃ (x y : Int32) (S0 : List zV) (t : Nat), S = .inl y :: .inl x :: S0 ∧ (pc : Int) + off = (t : Int) ∧ xifc (xcn c) y x t (pc + n) L S0 μ b
  | .ifnonnull off => ∃ (r : Option Nat) (S0 : List zV) (t : Nat), S = .inr (.inl r) :: S0 ∧ (pc : Int) + off = (t : Int) ∧ ((r = none ∧ b = (pc + n, L, S0, μ)) ∨ (¬ r = none ∧ b = (t, L, S0, μ)))
  | .tableswitch d lo hi offs => ∃ (x : Int32) (S0 : List zV) (t : Nat), S = .inl x :: S0 ∧ b = (t, L, S0, μ) ∧ ((∃ (k : Nat) (off : Int), offs[k]? = some off ∧ x.toInt = lo + (k : Int) ∧ (pc : Int) + off = (t : Int)) ∨ ((x.toInt < lo ∨ hi < x.toInt) ∧ (pc : Int) + d = (t : Int)))
  | .lookupswitch d ps => ∃ (x : Int32) (S0 : List zV) (t : Nat), S = .inl x :: S0 ∧ b = (t, L, S0, μ) ∧ (pc : Int) + Op.lookupswitch.offset ps.toList d x.toInt = (t : Int)
  | .getfield x => ∃ (a c j : Nat) (S0 : List zV) (fts : List zT) (ft : zT) (v : zV), S = .inr (.inl (some a)) :: S0 ∧ xTb own x = (0, c, (j : Int)) ∧ g.2 (g.1 a) = .inl (c, fts) ∧ fts[j]? = some ft ∧ b = (pc + n, L, v :: S0, μ) ∧ ((ft.1 < 2 ∧ v = .inl (μ.1 a j)) ∨ (ft.1 = 2 ∧ v = .inr (.inl (some ft.2))) ∨ (ft.1 = 3 ∧ ∃ r, g.1 r = ft.2 ∧ μ.2.2.1 a j = some r ∧ v = .inr (.inl (some r))))
  | .putfield x => ∃ (a c j : Nat) (S0 : List zV) (fts : List zT) (v : Int32), S = .inl v :: .inr (.inl (some a)) :: S0 ∧ xTb own x = (0, c, (j : Int)) ∧ g.2 (g.1 a) = .inl (c, fts) ∧ b = (pc + n, L, S0, xpi μ a j v)
  | .iaload => ∃ (k : Int32) (a len : Nat) (S0 : List zV) (v : Int32), S = .inl k :: .inr (.inl (some a)) :: S0 ∧ xar g a 0 len ∧ vp_in k len ∧ v = μ.1 a k.toNatClampNeg ∧ b = (pc + n, L, .inl v :: S0, μ)
  | .baload => ∃ (k : Int32) (a t len : Nat) (S0 : List zV) (v : Int32), S = .inl k :: .inr (.inl (some a)) :: S0 ∧ (t = 1 ∨ t = 2) ∧ xar g a t len ∧ vp_in k len ∧ v = μ.1 a k.toNatClampNeg ∧ b = (pc + n, L, .inl v :: S0, μ)
  | .laload => ∃ (k : Int32) (a len : Nat) (S0 : List zV) (v : Int64), S = .inl k :: .inr (.inl (some a)) :: S0 ∧ xar g a 3 len ∧ vp_in k len ∧ v = μ.2.1 a k.toNatClampNeg ∧ b = (pc + n, L, .inr (.inr v) :: S0, μ)
  | .aaload => ∃ (k : Int32) (a len : Nat) (S0 : List zV) (v : Option Nat), S = .inl k :: .inr (.inl (some a)) :: S0 ∧ xar g a 4 len ∧ vp_in k len ∧ v = μ.2.2.1 a k.toNatClampNeg ∧ b = (pc + n, L, .inr (.inl v) :: S0, μ)
  | .iastore => ∃ (v k : Int32) (a len : Nat) (S0 : List zV), S = .inl v :: .inl k :: .inr (.inl (some a)) :: S0 ∧ xar g a 0 len ∧ vp_in k len ∧ b = (pc + n, L, S0, xpi μ a k.toNatClampNeg v)
  | .bastore => ∃ (v k : Int32) (a t len : Nat) (S0 : List zV), S = .inl v :: .inl k :: .inr (.inl (some a)) :: S0 ∧ ((t = 1) ∨ (t = 2 ∧ (v = 0 ∨ v = 1))) ∧ xar g a t len ∧ vp_in k len ∧ b = (pc + n, L, S0, xpi μ a k.toNatClampNeg v.toInt8.toInt32)
  | .lastore => ∃ (v : Int64) (k : Int32) (a len : Nat) (S0 : List zV), S = .inr (.inr v) :: .inl k :: .inr (.inl (some a)) :: S0 ∧ xar g a 3 len ∧ vp_in k len ∧ b = (pc + n, L, S0, xpl μ a k.toNatClampNeg v)
  | .aastore => ∃ (v : Nat) (k : Int32) (a len : Nat) (S0 : List zV), S = .inr (.inl (some v)) :: .inl k :: .inr (.inl (some a)) :: S0 ∧ xar g a 4 len ∧ vp_in k len ∧ b = (pc + n, L, S0, xpr μ a k.toNatClampNeg (some v))
  | .arraylength => ∃ (a t len : Nat) (S0 : List zV), S = .inr (.inl (some a)) :: S0 ∧ xar g a t len ∧ b = (pc + n, L, .inl (Int32.ofNat len) :: S0, μ)
  | .invokevirtual x => ∃ na mn : Nat, xTb own x = (4, na, (mn : Int)) ∧ xca X na mn (pc + n) L S μ b
  | .invokestatic x => (∃ na mn : Nat, xTb own x = (4, na, (mn : Int)) ∧ xca X na mn (pc + n) L S μ b) ∨
      (xTb own x = (5, 0, 0) ∧ ∃ (a a0 t0 n0 t len : Nat) (S0 : List zV), S = .inl (Int32.ofNat len) :: .inl 0 :: .inr (.inl (some a)) :: .inl 0 :: .inr (.inl (some a0)) :: S0 ∧ xar g a0 t0 n0 ∧ xar g a t len ∧ t0 = 0 ∧ t = 0 ∧ len ≤ n0 ∧ b = (pc + n, L, S0, xcp μ a0 a len)) ∨
      (xTb own x = (6, 0, 0) ∧ x2 (fun x y => if x < y then y else x) (pc + n) L S μ b) ∨ (xTb own x = (7, 0, 0) ∧ x2 (fun x y => if y < x then y else x) (pc + n) L S μ b)
  | .new _ => b = (pc + 7, L, .inr (.inl (some μ.2.2.2)) :: S, xnew μ)
  | _ => False
def xStep (g : zKd) (X : xX) (cc : ByteArray) (own : String) (a b : eS) : Prop := (∃ (i : Instr) (n : Nat), decode cc a.1 = .ok (i, n) ∧ xIns g X own i a.1 n a.2.1 a.2.2.1 a.2.2.2 b) ∨ (b.1 = a.1 ∧ zFg b.2.1 a.2.1 ∧ b.2.2 = a.2.2)
/-- n steps -/
def eN (g : zKd) (X : xX) (cc : ByteArray) (own : String) : Nat → eS → eS → Prop
  | 0, a, b => a = b
  | n + 1, a, b => ∃ c, xStep g X cc own a c ∧ eN g X cc own n c b
def xRt (cc : ByteArray) (pc : Nat) (S : List zV) (r : Option zV) : Prop := (decode cc pc = .ok (.ireturn, 1) ∧ ∃ x : Int32, S = [.inl x] ∧ r = some (.inl x)) ∨ (decode cc pc = .ok (.return_, 1) ∧ S = [] ∧ r = none) ∨ (decode cc pc = .ok (.lreturn, 1) ∧ ∃ x : Int64, S = [.inr (.inr x)] ∧ r = some (.inr (.inr x)))
/-- a method's run from its entry to its return -/
def xBig (g : zKd) (X : xX) : xX := fun q as μ r μ' => ∃ (n pc : Nat) (L : zL) (S : List zV), eN g X q.2.1 q.1.cls n (0, zloc q.2.2.1 as, [], μ) (pc, L, S, μ') ∧ xRt q.2.1 pc S r
/-- the least relation that is closed under runs -/
def Ex (g : zKd) : xX := fun q as μ r μ' => ∀ X : xX, (∀ q as μ r μ', xBig g X q as μ r μ' → X q as μ r μ') → X q as μ r μ'
theorem xca_mono {X Y : xX} (h : ∀ q as μ r μ', X q as μ r μ' → Y q as μ r μ') {na mn m : Nat} {L : zL} {S : List zV} {μ : xM} {b : eS} (hx : xca X na mn m L S μ b) : xca Y na mn m L S μ b := by
  obtain ⟨q, as, rest, r, μ', h1, h2, h3, h4⟩ := hx
  exact ⟨q, as, rest, r, μ', h1, h2, h _ _ _ _ _ h3, h4⟩
theorem xIns_mono {g : zKd} {X Y : xX} (h : ∀ q as μ r μ', X q as μ r μ' → Y q as μ r μ') {own : String} {pc n : Nat} {L : zL} {S : List zV} {μ : xM} {b : eS} : ∀ (i : Instr), xIns g X own i pc n L S μ b → xIns g Y own i pc n L S μ b := by
  intro i hx
  cases i with
  | invokevirtual x =>
    obtain ⟨na, mn, h1, h2⟩ := hx
    exact ⟨na, mn, h1, xca_mono h h2⟩
  | invokestatic x =>
    rcases hx with ⟨na, mn, h1, h2⟩ | hx
    · exact Or.inl ⟨na, mn, h1, xca_mono h h2⟩
    · exact Or.inr hx
  | _ => exact hx
theorem xStep_mono {g : zKd} {X Y : xX} (h : ∀ q as μ r μ', X q as μ r μ' → Y q as μ r μ') {cc : ByteArray} {own : String} {a b : eS} (hx : xStep g X cc own a b) : xStep g Y cc own a b := by
  rcases hx with ⟨i, n, h1, h2⟩ | hx
  · exact Or.inl ⟨i, n, h1, xIns_mono h i h2⟩
  · exact Or.inr hx
theorem eN_mono {g : zKd} {X Y : xX} (h : ∀ q as μ r μ', X q as μ r μ' → Y q as μ r μ') {cc : ByteArray} {own : String} : ∀ {n : Nat} {a b : eS}, eN g X cc own n a b → eN g Y cc own n a b
  | 0, _, _, hx => hx
  | n + 1, a, b, ⟨c, h1, h2⟩ => ⟨c, xStep_mono h h1, eN_mono h h2⟩
theorem xBig_mono {g : zKd} {X Y : xX} (h : ∀ q as μ r μ', X q as μ r μ' → Y q as μ r μ') {q : xP} {as : List zV} {μ μ' : xM} {r : Option zV} (hx : xBig g X q as μ r μ') : xBig g Y q as μ r μ' := by
  obtain ⟨n, pc, L, S, h1, h2⟩ := hx
  exact ⟨n, pc, L, S, eN_mono h h1, h2⟩
theorem Ex_in {g : zKd} {q : xP} {as : List zV} {μ μ' : xM} {r : Option zV} (h : xBig g (Ex g) q as μ r μ') : Ex g q as μ r μ' := fun X hX => hX _ _ _ _ _ (xBig_mono (fun _ _ _ _ _ hq => hq X hX) h)
theorem Ex_out {g : zKd} {q : xP} {as : List zV} {μ μ' : xM} {r : Option zV} (h : Ex g q as μ r μ') : xBig g (Ex g) q as μ r μ' := h (xBig g (Ex g)) (fun _ _ _ _ _ hq => xBig_mono (fun _ _ _ _ _ hp => Ex_in hp) hq)
theorem eN_snoc {g : zKd} {X : xX} {cc : ByteArray} {own : String} : ∀ {n : Nat} {a b c : eS}, eN g X cc own n a b → xStep g X cc own b c → eN g X cc own (n + 1) a c
  | 0, a, b, c, h, hs => by cases h; exact ⟨c, hs, rfl⟩
  | n + 1, a, b, c, ⟨e, h1, h2⟩, hs => ⟨e, h1, eN_snoc h2 hs⟩
theorem est {g : zKd} {X : xX} {cc : ByteArray} {own : String} {pc n : Nat} {i : Instr} {L : zL} {S : List zV} {μ : xM} {b : eS} (hd : decode cc pc = .ok (i, n)) (h : xIns g X own i pc n L S μ b) : xStep g X cc own (pc, L, S, μ) b := Or.inl ⟨i, n, hd, h⟩
/-- a predicate that each step keeps -/
def xCl (g : zKd) (cc : ByteArray) (own : String) (TT : eS → Prop) : Prop := ∀ a b, TT a → xStep g (Ex g) cc own a b → TT b
/-- a cell's contents are μ's -/
def zX (sz : Nat) (μ : xM) (k : Nat) (u : va_E) : Prop := match u with
  | .inr (_, vs) => ∀ (j : Nat) (x : Value), vs[j]? = some x → (∀ v, x = .int v → v = μ.1 k j) ∧ ∀ r, x = .ref (sz + r) → μ.2.2.1 k j = some r
  | .inl (_, n, .inl f) => ∀ j, j < n → f j = μ.1 k j
  | .inl (_, n, .inr (.inl f)) => ∀ j, j < n → f j = μ.2.1 k j
  | .inl (_, n, .inr (.inr (.inr (.inr f)))) => ∀ j, j < n → (f j = none → μ.2.2.1 k j = none) ∧ ∀ r, f j = some (sz + r) → μ.2.2.1 k j = some r
  | _ => True
def zXs (sz : Nat) (μ : xM) (ws : va_W) : Prop := ws.length = μ.2.2.2 ∧ ∀ (k : Nat) (u : va_E), ws[k]? = some (sz + k, u) → zX sz μ k u
theorem zX_cg {sz : Nat} {μ μ' : xM} {k : Nat} (h1 : ∀ j, μ'.1 k j = μ.1 k j) (h2 : ∀ j, μ'.2.1 k j = μ.2.1 k j) (h3 : ∀ j, μ'.2.2.1 k j = μ.2.2.1 k j) : ∀ {u : va_E}, zX sz μ k u → zX sz μ' k u := by
  intro u hu
  match u, hu with
  | .inr (_, vs), hu => exact fun j x hx => ⟨fun v hv => by rw [h1]; exact (hu j x hx).1 v hv, fun r hr => by rw [h3]; exact (hu j x hx).2 r hr⟩
  | .inl (_, n, .inl f), hu => exact fun j hj => by rw [h1]; exact hu j hj
  | .inl (_, n, .inr (.inl f)), hu => exact fun j hj => by rw [h2]; exact hu j hj
  | .inl (_, n, .inr (.inr (.inl f))), hu => trivial
  | .inl (_, n, .inr (.inr (.inr (.inl f)))), hu => trivial
  | .inl (_, n, .inr (.inr (.inr (.inr f)))), hu => exact fun j hj => ⟨fun h => by rw [h3]; exact (hu j hj).1 h, fun r h => by rw [h3]; exact (hu j hj).2 r h⟩
theorem zXs_set {sz a : Nat} {μ μ' : xM} {ws : va_W} {u : va_E} (h : zXs sz μ ws) (ha : a < ws.length) (hN : μ'.2.2.2 = μ.2.2.2) (hu : zX sz μ' a u) (h1 : ∀ k j, k ≠ a → μ'.1 k j = μ.1 k j) (h2 : ∀ k j, k ≠ a → μ'.2.1 k j = μ.2.1 k j) (h3 : ∀ k j, k ≠ a → μ'.2.2.1 k j = μ.2.2.1 k j) : zXs sz μ' (ws.set a (sz + a, u)) := by
  refine ⟨by rw [List.length_set, hN]; exact h.1, fun k u' hk => ?_⟩
  by_cases hka : k = a
  · subst hka
    rw [List.getElem?_set_self ha] at hk
    cases hk
    exact hu
  · rw [List.getElem?_set_ne (Ne.symm hka)] at hk
    exact zX_cg (fun j => h1 k j hka) (fun j => h2 k j hka) (fun j => h3 k j hka) (h.2 k u' hk)
theorem zXs_pi {sz a i : Nat} {v : Int32} {μ : xM} {ws : va_W} {u : va_E} (h : zXs sz μ ws) (ha : a < ws.length) (hu : zX sz (xpi μ a i v) a u) : zXs sz (xpi μ a i v) (ws.set a (sz + a, u)) := zXs_set h ha rfl hu (fun k j hk => by show (if k = a ∧ j = i then v else μ.1 k j) = _; rw [if_neg (fun q => hk q.1)]) (fun _ _ _ => rfl) (fun _ _ _ => rfl)
theorem xpi_at {μ : xM} {a i : Nat} {v : Int32} : (xpi μ a i v).1 a i = v := by show (if a = a ∧ i = i then v else μ.1 a i) = v; rw [if_pos ⟨rfl, rfl⟩]
theorem xpi_ne {μ : xM} {a i k j : Nat} {v : Int32} (h : ¬ (k = a ∧ j = i)) : (xpi μ a i v).1 k j = μ.1 k j := by show (if k = a ∧ j = i then v else μ.1 k j) = _; rw [if_neg h]
def zid (kd i : Nat) : Nat := 4096 * (kd + 1) + i
/-- an element: known to the walk, or of which the invariant holds -/
def zE (g : zG) (I : zI) (kd i : Nat) (v : Int32) : Prop := (g.2.2.2.2.2 kd = true ∧ v = I (zid kd i)) ∨ (g.2.2.2.2.2 kd = false ∧ g.2.2.1 kd i v)
def zRV (sz N : Nat) (v : zV) (u : Value) : Prop := match v with
  | .inl x => u = .int x
  | .inr (.inl none) => u = .null
  | .inr (.inl (some r)) => u = .ref (sz + r) ∧ r < N
  | .inr (.inr x) => u = .long x
def zRS (sz N : Nat) : List zV → List Value → Prop
  | [], st => st = []
  | v :: S, st => ∃ u st', st = u :: st' ∧ zRV sz N v u ∧ zRS sz N S st'
theorem zRV_mono {sz N N' : Nat} (h : N ≤ N') {v : zV} {u : Value} (hv : zRV sz N v u) : zRV sz N' v u := by
  match v, hv with
  | .inl x, hv => exact hv
  | .inr (.inl none), hv => exact hv
  | .inr (.inl (some r)), hv => exact ⟨hv.1, Nat.lt_of_lt_of_le hv.2 h⟩
  | .inr (.inr _), hv => exact hv
theorem zRS_mono {sz N N' : Nat} (h : N ≤ N') : ∀ {S : List zV} {st : List Value}, zRS sz N S st → zRS sz N' S st
  | [], st, hS => hS
  | v :: S, st, hS => by
    obtain ⟨u, st', rfl, h1, h2⟩ := hS
    exact ⟨u, st', rfl, zRV_mono h h1, zRS_mono h h2⟩
theorem zRS_len {sz N : Nat} : ∀ {S : List zV} {st : List Value}, zRS sz N S st → st.length = S.length
  | [], st, h => by cases h; rfl
  | a :: S, st, h => by
    obtain ⟨u, st', rfl, -, h2⟩ := h
    simp [zRS_len h2]
theorem zRS_app {sz N : Nat} : ∀ {S1 S2 : List zV} {t1 t2 : List Value}, zRS sz N S1 t1 → zRS sz N S2 t2 → zRS sz N (S1 ++ S2) (t1 ++ t2)
  | [], S2, t1, t2, h1, h2 => by cases h1; exact h2
  | a :: S1, S2, t1, t2, h1, h2 => by
    obtain ⟨u, t', rfl, q1, q2⟩ := h1
    exact ⟨u, t' ++ t2, rfl, q1, zRS_app q2 h2⟩
theorem zRS_rev {sz N : Nat} : ∀ {S : List zV} {st : List Value}, zRS sz N S st → zRS sz N S.reverse st.reverse
  | [], st, h => by cases h; rfl
  | a :: S, st, h => by
    obtain ⟨u, t', rfl, q1, q2⟩ := h
    simp only [List.reverse_cons]
    exact zRS_app (zRS_rev q2) ⟨u, [], rfl, q1, rfl⟩
theorem zRS_split {sz N : Nat} : ∀ {S1 S2 : List zV} {st : List Value}, zRS sz N (S1 ++ S2) st → ∃ t1 t2, st = t1 ++ t2 ∧ zRS sz N S1 t1 ∧ zRS sz N S2 t2
  | [], S2, st, h => ⟨[], st, rfl, rfl, h⟩
  | a :: S1, S2, st, h => by
    obtain ⟨u, t', rfl, q1, q2⟩ := h
    obtain ⟨t1, t2, rfl, q3, q4⟩ := zRS_split q2
    exact ⟨u :: t1, t2, rfl, ⟨u, t1, rfl, q1, q3⟩, q4⟩
/-- what stands in a field -/
def zFt (g : zG) (sz N : Nat) (I : zI) (ft : zT) (x : Value) : Prop :=
  (ft.1 = 0 ∧ x = .int (I ft.2)) ∨ (ft.1 = 1 ∧ ∃ v : Int32, x = .int v ∧ g.2.2.2.1 ft.2 v) ∨ (ft.1 = 2 ∧ x = .ref (sz + ft.2) ∧ ft.2 < N) ∨ (ft.1 = 3 ∧ ∃ r : Nat, r < N ∧ g.1 r = ft.2 ∧ x = .ref (sz + r))
/-- whether something stands at a place of an array of cells -/
def zflag : Option Nat → Int32
  | none => 0
  | some _ => 1
/-- what a cell is -/
def zCell (g : zG) (sz N : Nat) (tys : List (ClassId × FieldType)) (I : zI) (k : Nat) (u : va_E) : Prop := match g.2.1 (g.1 k) with
  | .inl (ci, fts) => ∃ vs : List Value, u = .inr (ci, vs) ∧ vs.length = fts.length ∧ ∀ (j : Nat) (ft : zT), fts[j]? = some ft → ∃ x, vs[j]? = some x ∧ zFt g sz N I ft x
  | .inr (t, n) => ∃ (cA : ClassId) (ty : FieldType), tys[t]? = some (cA, ty) ∧ n < 2147483648 ∧
      ((t < 3 ∧ ∃ f : Nat → Int32, u = .inl (cA, n, .inl f) ∧ ∀ j, j < n → zE g I (g.1 k) j (f j)) ∨ (t = 3 ∧ ∃ f : Nat → Int64, u = .inl (cA, n, .inr (.inl f)) ∧ ∀ j, j < n → g.2.2.2.2.1 (g.1 k) j (f j)) ∨
       (t = 4 ∧ ∃ f : Nat → Option Nat, u = .inl (cA, n, .inr (.inr (.inr (.inr f)))) ∧ (∀ j a, j < n → f j = some a → ∃ r, r < N ∧ g.1 r = 1000 ∧ a = sz + r) ∧ ∀ j, j < n → zE g I (g.1 k) j (zflag (f j))))
theorem zFt_mono {g : zG} {sz N N' : Nat} {I : zI} (h : N ≤ N') {ft : zT} {x : Value} (hx : zFt g sz N I ft x) : zFt g sz N' I ft x := by
  rcases hx with h1 | h1 | ⟨h1, h2, h3⟩ | ⟨h1, r, h2, h3, h4⟩
  · exact Or.inl h1
  · exact Or.inr (Or.inl h1)
  · exact Or.inr (Or.inr (Or.inl ⟨h1, h2, Nat.lt_of_lt_of_le h3 h⟩))
  · exact Or.inr (Or.inr (Or.inr ⟨h1, r, Nat.lt_of_lt_of_le h2 h, h3, h4⟩))
theorem zCell_mono {g : zG} {sz N N' : Nat} {tys : List (ClassId × FieldType)} {I : zI} (h : N ≤ N') {k : Nat} {u : va_E} (hu : zCell g sz N tys I k u) : zCell g sz N' tys I k u := by
  unfold zCell at hu ⊢
  cases hd : g.2.1 (g.1 k) with
  | inl q =>
    obtain ⟨ci, fts⟩ := q
    rw [hd] at hu
    obtain ⟨vs, h1, h2, h3⟩ := hu
    refine ⟨vs, h1, h2, fun j ft hj => ?_⟩
    obtain ⟨x, h4, h5⟩ := h3 j ft hj
    exact ⟨x, h4, zFt_mono h h5⟩
  | inr q =>
    obtain ⟨t, n⟩ := q
    rw [hd] at hu
    obtain ⟨cA, ty, h1, h2, h3⟩ := hu
    refine ⟨cA, ty, h1, h2, ?_⟩
    rcases h3 with h3 | h3 | ⟨h3, f, h4, h5, h6⟩
    · exact Or.inl h3
    · exact Or.inr (Or.inl h3)
    · refine Or.inr (Or.inr ⟨h3, f, h4, fun j a hj ha => ?_, h6⟩)
      obtain ⟨r, h7, h8, h9⟩ := h5 j a hj ha
      exact ⟨r, Nat.lt_of_lt_of_le h7 h, h8, h9⟩
def zW (g : zG) (sz N : Nat) (tys : List (ClassId × FieldType)) (I : zI) (ws : va_W) : Prop := ws.length = N ∧ (∀ k, k < N → ∃ u : va_E, ws[k]? = some (sz + k, u) ∧ zCell g sz N tys I k u) ∧ 119 ≤ N ∧ N % 6 = 5
theorem zW_addr {g : zG} {sz N : Nat} {tys : List (ClassId × FieldType)} {I : zI} {ws : va_W} (h : zW g sz N tys I ws) {k : Nat} {q : Nat × va_E} (hk : ws[k]? = some q) : q.1 = sz + k := by
  have hl : k < ws.length := (List.getElem?_eq_some_iff.mp hk).1
  rw [h.1] at hl
  obtain ⟨u, h1, -⟩ := h.2.1 k hl
  cases h1.symm.trans hk
  rfl
theorem zW_D {g : zG} {sz N : Nat} {tys : List (ClassId × FieldType)} {I : zI} {ws : va_W} (h : zW g sz N tys I ws) : va_D (fun q => sz ≤ q) ws :=
  ⟨fun i j p q hi hj he => by have h1 := zW_addr h hi; have h2 := zW_addr h hj; omega, fun k q hk => by have h1 := zW_addr h hk; show sz ≤ q.1; omega⟩
/-- the two texts of the class: where they lie, what stands in them; nothing of it is of the walk's own cells -/
def zByt : List (List Int32) := [[59, 61, 43, 45, 42, 47, 60, 40, 41], [104, 111, 117, 115, 101, 32, 32, 32, 118, 101, 114, 115, 101, 32, 32, 32, 108, 101, 97, 118, 101, 32, 32, 32, 114, 97, 110, 107, 32, 32, 32, 32, 119, 101, 97, 114, 115, 32, 32, 32, 112, 97, 121, 115, 32, 32, 32, 32, 115, 112, 111, 105, 108, 115, 32, 32, 116, 104, 105, 101, 118, 101, 115, 32, 115, 101, 101, 100, 32, 32, 32, 32, 105, 102, 32, 32, 32, 32, 32, 32, 116, 104, 101, 110, 32, 32, 32, 32, 101, 108, 115, 101, 32, 32, 32, 32, 118, 97, 108, 117, 101, 32, 32, 32, 100, 117, 101, 32, 32, 32, 32, 32, 100, 97, 121, 32, 32, 32, 32, 32, 119, 111, 114, 110, 32, 32, 32, 32, 104, 97, 115, 32, 32, 32, 32, 32, 119, 104, 105, 99, 104, 32, 32, 32, 108, 101, 116, 116, 101, 114, 32, 32, 108, 111, 110, 103, 32, 32, 32, 32, 108, 101, 110, 116, 32, 32, 32, 32]]
def zTx0 : String := ";=+-*/<()"
def zTx1 : String := "house   verse   leave   rank    wears   pays    spoils  thieves seed    if      then    else    value   due     day     worn    has     which   letter  long    lent    "
def zStr (sz : Nat) (s : State) : Prop := ∃ adK adV : Nat → Nat, vk_R "CapitalCase$Tokens" 39 zTx0 (adK 0) s ∧ vk_R "CapitalCase$Tokens" 51 zTx1 (adK 1) s ∧ vk_S 2 [9, 168] zByt adK adV (fun q => sz ≤ q) s s.heap ∧ va_Z "java/lang/String" "COMPACT_STRINGS" "Z" (.int 1) (fun q => sz ≤ q) s s.heap ∧ va_Zq "jdk/internal/util/Preconditions" "SIOOBE_FORMATTER" "Ljava/util/function/BiFunction;" (fun q => sz ≤ q) s s.heap
theorem zStr_mv {sz : Nat} {s U : State} {locs : List Loc} (hW : s.WarmedH U.vm) (hS : va_S (fun q => sz ≤ q) s.heap U.heap locs) (h : zStr sz s) : zStr sz U := by
  obtain ⟨adK, adV, h1, h2, h3, h4, h5⟩ := h
  exact ⟨adK, adV, vk_R.warm hW h1, vk_R.warm hW h2, vk_S.moved hW.alike (vk_S.kept h3 hS.2.1), va_Z.moved hW.alike (va_Z.kept h4 hS.2.1), va_Zq.moved hW.alike (va_Zq.kept h5 hS.2.1)⟩
theorem zStr_same {sz : Nat} {s U : State} (hv : U.vm = s.vm) (hh : U.heap = s.heap) (h : zStr sz s) : zStr sz U := by
  obtain ⟨adK, adV, h1, h2, h3, h4, h5⟩ := h
  have ha : s.vm.Alike U.vm := by rw [hv]; exact Vm.Alike.refl s.vm
  exact ⟨adK, adV, vk_R.same hv h1, vk_R.same hv h2, by rw [hh]; exact vk_S.moved ha h3, by rw [hh]; exact va_Z.moved ha h4, by rw [hh]; exact va_Zq.moved ha h5⟩
/-- the memory of a walk: sc is the count of cells at the method's entry -/
def zMem (g : zG) (D : va_G) (tys : List (ClassId × FieldType)) (sz N sc : Nat) (s : State) (I : zI) (μ : xM) (H : Heap) (locs : List Loc) : Prop :=
  (∃ ws : va_W, zW g sz N tys I ws ∧ va_P D vwCl ws H ∧ zXs sz μ ws) ∧ H.size = sz + N ∧ va_S (fun q => sz ≤ q) s.heap H locs ∧ s.heap.size = sz + sc ∧ zStr sz s
def zRL (sz N : Nat) (L : zL) (ls : Array Slot) (nL : Nat) : Prop :=
  L.length = nL ∧ ∃ lv : List (Nat × Value), lv_has ls nL lv ∧ ∀ (i : Nat) (v : zV), L[i]? = some (some v) → ∃ u : Value, (i, u) ∈ lv ∧ zRV sz N v u
/-- contracts: at depth d, of method j: pre, post, the bound of cells and slots -/
abbrev zPre : Type := Nat → Nat → List zV → zI → Prop
abbrev zPost : Type := Nat → List zV → zI → Option zV → zI → Prop
def zRO (sz N : Nat) (r : Option zV) (v : Option Value) : Prop := match r with
  | none => v = none
  | some a => ∃ u, v = some u ∧ zRV sz N a u
def zPc (g : zG) (D : va_G) (tys : List (ClassId × FieldType)) (sz : Nat) (as : List zV) (I : zI) (μ : xM) : Array Value → State → Prop := fun v U =>
  ∃ (N : Nat) (us : List Value), v = us.toArray ∧ zRS sz N as us ∧ (∃ ws : va_W, zW g sz N tys I ws ∧ va_P D vwCl ws U.heap ∧ zXs sz μ ws) ∧ U.heap.size = sz + N ∧ va_K D vwCl tys U ∧ tys.map Prod.snd = xTys ∧ xN U ∧ zStr sz U
def zQc (g : zG) (D : va_G) (tys : List (ClassId × FieldType)) (sz : Nat) (P : Option zV → zI → Prop) (E : Option zV → xM → Prop) : Array Value → State → Outcome → State → Prop := fun _ st o t =>
  ∃ (N : Nat) (v : Option Value) (r : Option zV) (I : zI) (μ : xM), st.heap.size ≤ sz + N ∧ o = .returned v ∧ (P r I ∧ E r μ) ∧ zRO sz N r v ∧ (∃ ws : va_W, zW g sz N tys I ws ∧ va_P D vwCl ws t.heap ∧ zXs sz μ ws) ∧ t.heap.size = sz + N ∧ va_F (fun q => sz ≤ q) st t
def zMet (g : zG) (q : xP) (d : Nat) (bd : Nat × Nat) (as : List zV) (I : zI) (P : Option zV → zI → Prop) : Prop :=
  ∀ (l : Launch) (D : va_G) (tys : List (ClassId × FieldType)) (sz : Nat) (μ : xM), Met l q.1 (.code q.1 q.2.1 q.2.2.1 q.2.2.2 :: xTB) (xRm d bd.1 bd.2) (zPc g D tys sz as I μ) (zQc g D tys sz P (Ex (zk g) q as μ)) bd.1 bd.2 (fun a => sz ≤ a)
def zCalls (g : zG) (PX : xPX) (bd : Nat → Nat × Nat) (pre : zPre) (post : zPost) (d : Nat) : Prop := ∀ (j : Nat) (as : List zV) (I : zI) (q : xP), pre d j as I → PX j = some q → zMet g q d (bd j) as I (post j as I)
/-- a step is sound; d: the depth left, the method's bound of cells and slots -/
def zSound (g : zG) (PX : xPX) (bd : Nat → Nat × Nat) (pre : zPre) (post : zPost) (d : Nat × Nat × Nat) (cc : ByteArray) (own : String) (pc : Nat) (f : zF) : Prop :=
  ∀ (K : zK) (L : zL) (S : List zV) (I : zI) (B : Nat × Nat), f K L S I B → zCalls g PX bd pre post d.1 →
    ∀ (p : Program) (l : Launch) (e : Env) (R : Room) (s : State) (m : MethodId) (args : Array Value) (below : List Frame) (meth : Method) (c : Code) (Q : State → Prop) (nL : Nat) (D : va_G) (tys : List (ClassId × FieldType)) (sz sc : Nat) (TT : eS → Prop), xCl (zk g) cc own TT →
    xCtx p s m args meth c cc own false nL D tys → d.1 + 1 ≤ R.frames → (64 * (d.1 + 1) ≤ R.locals ∧ d.2.1 ≤ R.cells ∧ d.2.2 ≤ R.slots) →
    (∀ (pc' : Nat) (L' : zL) (S' : List zV) (I' : zI) (B' : Nat × Nat), K pc' L' S' I' B' → ∀ (N' : Nat) (ls' : Array Slot) (st' : List Value) (H' : Heap) (locs' : List Loc) (μ' : xM), zMem g D tys sz N' sc s I' μ' H' locs' → zRL sz N' L' ls' nL → zRS sz N' S' st' → B'.1 ≤ R.cells → B'.2 ≤ R.slots → TT (pc', L', S', μ') → W p l e R s m args below meth c H' locs' B'.1 B'.2 Q (F0 m pc' ls' st')) →
    ∀ (N : Nat) (ls : Array Slot) (st : List Value) (H : Heap) (locs : List Loc) (μ : xM), zMem g D tys sz N sc s I μ H locs → zRL sz N L ls nL → zRS sz N S st → B.1 ≤ R.cells → B.2 ≤ R.slots → TT (pc, L, S, μ) → W p l e R s m args below meth c H locs B.1 B.2 Q (F0 m pc ls st)
