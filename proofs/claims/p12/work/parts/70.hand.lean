/-! ===== BY HAND: walks at whole numbers ===== -/
def zf (I : zI) (id : Nat) : Int := (I id).toInt
def zv (I : zI) (kd : Nat) (i : Int) : Int := (I (zid kd i.toNat)).toInt
theorem zf_upd (I : zI) (a b : Nat) (v : Int32) : zf (zupd I a v) b = if b = a then v.toInt else zf I b := by
  unfold zf zupd
  split <;> rfl
theorem zf_arr (I : zI) (kd i b : Nat) (v : Int32) (hb : b < 4096) : zf (zupd I (zid kd i) v) b = zf I b := by
  rw [zf_upd, if_neg]
  unfold zid
  omega
theorem zv_fld (I : zI) (a kd : Nat) (i : Int) (v : Int32) (ha : a < 4096) : zv (zupd I a v) kd i = zv I kd i := by
  unfold zv zupd
  rw [if_neg]
  unfold zid
  omega
theorem zv_at (I : zI) (kd : Nat) (i : Int) (v : Int32) : zv (zupd I (zid kd i.toNat) v) kd i = v.toInt := by
  unfold zv zupd
  rw [if_pos rfl]
theorem zv_ne (I : zI) (kd kd' : Nat) (i j : Int) (v : Int32) (hi : i < 4096) (hj : j < 4096) (h : kd' ≠ kd ∨ (0 ≤ i ∧ 0 ≤ j ∧ j ≠ i)) : zv (zupd I (zid kd i.toNat) v) kd' j = zv I kd' j := by
  unfold zv zupd
  rw [if_neg]
  unfold zid
  omega
theorem i0 {z : Int32} (h : z.toInt = 0) : z = 0 := by
  apply Int32.toInt_inj.mp
  rw [h]
  rfl
theorem i1 {z : Int32} (h : z.toInt = 1) : z = 1 := by
  apply Int32.toInt_inj.mp
  rw [h]
  rfl
theorem i01 {z : Int32} (h : 0 ≤ z.toInt) (h1 : z.toInt ≤ 1) : z = 0 ∨ z = 1 := by
  have : z.toInt = 0 ∨ z.toInt = 1 := by omega
  rcases this with h | h
  · exact Or.inl (i0 h)
  · exact Or.inr (i1 h)
theorem ix {x : Int32} {n : Nat} (h0 : 0 ≤ x.toInt) (h1 : x.toInt < (n : Int)) : vp_in x n ∧ x.toNatClampNeg = x.toInt.toNat := ⟨(an_ix h0 h1).1, rfl⟩
section HA
variable {PX : xPX} {bd : Nat → Nat × Nat} {pre : zPre} {post : zPost} {d : Nat × Nat × Nat} {cc : ByteArray} {own : String} {K : zK} {pc n : Nat} {L L' : zL} {S : List zV} {I : zI} {B : Nat × Nat}
theorem hA {f : zF} (hs : zSound zG0 PX bd pre post d cc own pc f) (h : f (fun pc' L' S' I' B' => zAt zG0 PX bd pre post d cc own K pc' L' S' I' B') L S I B) : zAt zG0 PX bd pre post d cc own K pc L S I B := zAt_step hs h (fun _ _ _ _ _ h => h)
theorem hA_const {v : Int32} {k : Int} (hs : zSound zG0 PX bd pre post d cc own pc (z_const v n)) (hk : v.toInt = k) (h : ∀ z : Int32, z.toInt = k → zAt zG0 PX bd pre post d cc own K n L (.inl z :: S) I B) : zAt zG0 PX bd pre post d cc own K pc L S I B := hA hs (h v hk)
theorem hA_lconst {v : Int64} (hs : zSound zG0 PX bd pre post d cc own pc (z_lconst v n)) (h : zAt zG0 PX bd pre post d cc own K n L (.inr (.inr v) :: S) I B) : zAt zG0 PX bd pre post d cc own K pc L S I B := hA hs h
theorem hA_iload {i : Nat} {x : Int32} (hs : zSound zG0 PX bd pre post d cc own pc (z_iload i n)) (hl : L[i]? = some (some (.inl x))) (h : zAt zG0 PX bd pre post d cc own K n L (.inl x :: S) I B) : zAt zG0 PX bd pre post d cc own K pc L S I B := hA hs (by unfold z_iload; rw [hl]; exact h)
theorem hA_aload {i : Nat} {r : Option Nat} (hs : zSound zG0 PX bd pre post d cc own pc (z_aload i n)) (hl : L[i]? = some (some (.inr (.inl r)))) (h : zAt zG0 PX bd pre post d cc own K n L (.inr (.inl r) :: S) I B) : zAt zG0 PX bd pre post d cc own K pc L S I B := hA hs (by unfold z_aload; rw [hl]; exact h)
theorem hA_lload {i : Nat} {x : Int64} (hs : zSound zG0 PX bd pre post d cc own pc (z_lload i n)) (hl : L[i]? = some (some (.inr (.inr x)))) (h : zAt zG0 PX bd pre post d cc own K n L (.inr (.inr x) :: S) I B) : zAt zG0 PX bd pre post d cc own K pc L S I B := hA hs (by unfold z_lload; rw [hl]; exact h)
theorem hA_istore {i : Nat} {x : Int32} (hs : zSound zG0 PX bd pre post d cc own pc (z_istore i n)) (hc : zcan L i) (hL : L.set i (some (.inl x)) = L') (h : zAt zG0 PX bd pre post d cc own K n L' S I B) : zAt zG0 PX bd pre post d cc own K pc L (.inl x :: S) I B := hA hs ⟨hc, by rw [hL]; exact h⟩
theorem hA_astore {i : Nat} {r : Option Nat} (hs : zSound zG0 PX bd pre post d cc own pc (z_astore i n)) (hc : zcan L i) (hL : L.set i (some (.inr (.inl r))) = L') (h : zAt zG0 PX bd pre post d cc own K n L' S I B) : zAt zG0 PX bd pre post d cc own K pc L (.inr (.inl r) :: S) I B := hA hs ⟨hc, by rw [hL]; exact h⟩
theorem hA_lstore {i : Nat} {x : Int64} (hs : zSound zG0 PX bd pre post d cc own pc (z_lstore i n)) (hc : i + 1 < L.length ∧ zlg L[i - 1]? = false) (hL : (L.set i (some (.inr (.inr x)))).set (i + 1) none = L') (h : zAt zG0 PX bd pre post d cc own K n L' S I B) : zAt zG0 PX bd pre post d cc own K pc L (.inr (.inr x) :: S) I B := hA hs ⟨hc, by rw [hL]; exact h⟩
theorem hA_iinc {i : Nat} {x k : Int32} {c : Int} (hs : zSound zG0 PX bd pre post d cc own pc (z_iinc i k n)) (hk : k.toInt = c) (hl : L[i]? = some (some (.inl x))) (hc : zcan L i) (h1 : -2147483648 ≤ x.toInt + c) (h2 : x.toInt + c ≤ 2147483647) (h : ∀ z : Int32, z.toInt = x.toInt + c → zAt zG0 PX bd pre post d cc own K n (L.set i (some (.inl z))) S I B) : zAt zG0 PX bd pre post d cc own K pc L S I B := hA hs (by unfold z_iinc; rw [hl]; exact ⟨hc, h _ (by rw [an_add (by omega) (by omega), hk])⟩)
theorem hA_add {x y : Int32} (hs : zSound zG0 PX bd pre post d cc own pc (z_bin (fun x y => x + y) n)) (h1 : -2147483648 ≤ x.toInt + y.toInt) (h2 : x.toInt + y.toInt ≤ 2147483647) (h : ∀ z : Int32, z.toInt = x.toInt + y.toInt → zAt zG0 PX bd pre post d cc own K n L (.inl z :: S) I B) : zAt zG0 PX bd pre post d cc own K pc L (.inl y :: .inl x :: S) I B := hA hs (h _ (an_add h1 h2))
theorem hA_sub {x y : Int32} (hs : zSound zG0 PX bd pre post d cc own pc (z_bin (fun x y => x - y) n)) (h1 : -2147483648 ≤ x.toInt - y.toInt) (h2 : x.toInt - y.toInt ≤ 2147483647) (h : ∀ z : Int32, z.toInt = x.toInt - y.toInt → zAt zG0 PX bd pre post d cc own K n L (.inl z :: S) I B) : zAt zG0 PX bd pre post d cc own K pc L (.inl y :: .inl x :: S) I B := hA hs (h _ (an_sub h1 h2))
theorem hA_mulc {x y : Int32} {c : Int} (hs : zSound zG0 PX bd pre post d cc own pc (z_bin (fun x y => x * y) n)) (hc : x.toInt = c ∨ y.toInt = c) (h1 : -2147483648 ≤ x.toInt * y.toInt) (h2 : x.toInt * y.toInt ≤ 2147483647) (h : ∀ z : Int32, z.toInt = x.toInt * y.toInt → zAt zG0 PX bd pre post d cc own K n L (.inl z :: S) I B) : zAt zG0 PX bd pre post d cc own K pc L (.inl y :: .inl x :: S) I B := hA hs (h _ (an_mul h1 h2))
/-- a number times another, the one written -/
theorem hA_mull {x y : Int32} {c : Int} (hs : zSound zG0 PX bd pre post d cc own pc (z_bin (fun x y => x * y) n)) (hc : x.toInt = c) (h1 : -2147483648 ≤ c * y.toInt) (h2 : c * y.toInt ≤ 2147483647) (h : ∀ z : Int32, z.toInt = c * y.toInt → zAt zG0 PX bd pre post d cc own K n L (.inl z :: S) I B) : zAt zG0 PX bd pre post d cc own K pc L (.inl y :: .inl x :: S) I B := hA hs (h _ (by rw [an_mul (by rw [hc]; exact h1) (by rw [hc]; exact h2), hc]))
theorem hA_mulr {x y : Int32} {c : Int} (hs : zSound zG0 PX bd pre post d cc own pc (z_bin (fun x y => x * y) n)) (hc : y.toInt = c) (h1 : -2147483648 ≤ x.toInt * c) (h2 : x.toInt * c ≤ 2147483647) (h : ∀ z : Int32, z.toInt = x.toInt * c → zAt zG0 PX bd pre post d cc own K n L (.inl z :: S) I B) : zAt zG0 PX bd pre post d cc own K pc L (.inl y :: .inl x :: S) I B := hA hs (h _ (by rw [an_mul (by rw [hc]; exact h1) (by rw [hc]; exact h2), hc]))
/-- a number of which nothing is kept -/
theorem hA_bin {f : Int32 → Int32 → Int32} {x y : Int32} (hs : zSound zG0 PX bd pre post d cc own pc (z_bin f n)) (h : ∀ z : Int32, zAt zG0 PX bd pre post d cc own K n L (.inl z :: S) I B) : zAt zG0 PX bd pre post d cc own K pc L (.inl y :: .inl x :: S) I B := hA hs (h _)
theorem hA_div {f : Int32 → Int32 → Int32} {x y : Int32} (hs : zSound zG0 PX bd pre post d cc own pc (z_div f n)) (hy : ¬ y.toInt = 0) (h : ∀ z : Int32, zAt zG0 PX bd pre post d cc own K n L (.inl z :: S) I B) : zAt zG0 PX bd pre post d cc own K pc L (.inl y :: .inl x :: S) I B := hA hs ⟨fun e => hy (by rw [e]; rfl), h _⟩
theorem hA_un {f : Int32 → Int32} {x : Int32} (hs : zSound zG0 PX bd pre post d cc own pc (z_un f n)) (h : ∀ z : Int32, zAt zG0 PX bd pre post d cc own K n L (.inl z :: S) I B) : zAt zG0 PX bd pre post d cc own K pc L (.inl x :: S) I B := hA hs (h _)
theorem hA_dup {v : zV} (hs : zSound zG0 PX bd pre post d cc own pc (z_dup n)) (hv : z1 v = true) (h : zAt zG0 PX bd pre post d cc own K n L (v :: v :: S) I B) : zAt zG0 PX bd pre post d cc own K pc L (v :: S) I B := hA hs ⟨hv, h⟩
theorem hA_dup2 {v u : zV} (hs : zSound zG0 PX bd pre post d cc own pc (z_dup2 n)) (hv : z1 v = true) (hu : z1 u = true) (h : zAt zG0 PX bd pre post d cc own K n L (v :: u :: v :: u :: S) I B) : zAt zG0 PX bd pre post d cc own K pc L (v :: u :: S) I B := hA hs ⟨hv, hu, h⟩
theorem hA_pop {v : zV} (hs : zSound zG0 PX bd pre post d cc own pc (z_pop n)) (hv : z1 v = true) (h : zAt zG0 PX bd pre post d cc own K n L S I B) : zAt zG0 PX bd pre post d cc own K pc L (v :: S) I B := hA hs ⟨hv, h⟩
theorem hA_goto (hs : zSound zG0 PX bd pre post d cc own pc (z_goto n)) (h : zAt zG0 PX bd pre post d cc own K n L S I B) : zAt zG0 PX bd pre post d cc own K pc L S I B := hA hs h
def xcmpI (op : Nat) (x y : Int) : Prop := match op with
  | 0 => x = y
  | 1 => ¬ x = y
  | 2 => x < y
  | 3 => y ≤ x
  | 4 => y < x
  | _ => x ≤ y
theorem xcmpI_eq (op : Nat) (x y : Int32) : xcmpP op x y ↔ xcmpI op x.toInt y.toInt := by
  unfold xcmpP xcmpI
  split
  · exact Int32.toInt_inj.symm
  · exact not_congr Int32.toInt_inj.symm
  · exact Int32.lt_iff_toInt_lt
  · exact Int32.le_iff_toInt_le
  · exact Int32.lt_iff_toInt_lt
  · rename_i h0 h1 h2 h3 h4
    split
    · exact absurd rfl h0
    · exact absurd rfl h1
    · exact absurd rfl h2
    · exact absurd rfl h3
    · exact absurd rfl h4
    · exact Int32.le_iff_toInt_le
theorem hA_if {op t : Nat} {x : Int32} (hs : zSound zG0 PX bd pre post d cc own pc (z_if op t n)) (h1 : xcmpI op x.toInt 0 → zAt zG0 PX bd pre post d cc own K t L S I B) (h2 : ¬ xcmpI op x.toInt 0 → zAt zG0 PX bd pre post d cc own K n L S I B) : zAt zG0 PX bd pre post d cc own K pc L (.inl x :: S) I B := hA hs ⟨fun h => h1 ((xcmpI_eq op x 0).mp h), fun h => h2 (fun q => h ((xcmpI_eq op x 0).mpr q))⟩
theorem hA_icmp {op t : Nat} {x y : Int32} (hs : zSound zG0 PX bd pre post d cc own pc (z_icmp op t n)) (h1 : xcmpI op x.toInt y.toInt → zAt zG0 PX bd pre post d cc own K t L S I B) (h2 : ¬ xcmpI op x.toInt y.toInt → zAt zG0 PX bd pre post d cc own K n L S I B) : zAt zG0 PX bd pre post d cc own K pc L (.inl y :: .inl x :: S) I B := hA hs ⟨fun h => h1 ((xcmpI_eq op x y).mp h), fun h => h2 (fun q => h ((xcmpI_eq op x y).mpr q))⟩
end HA
