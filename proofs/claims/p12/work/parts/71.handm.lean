section HB
variable {PX : xPX} {bd : Nat → Nat × Nat} {pre : zPre} {post : zPost} {d : Nat × Nat × Nat} {cc : ByteArray} {own : String} {K : zK} {pc n : Nat} {L L' : zL} {S : List zV} {I : zI} {B : Nat × Nat}
/-- fields: known ints, ints in bounds, a cell, some cell of a kind -/
theorem hA_getf0 {ci j a id : Nat} (hs : zSound zG0 PX bd pre post d cc own pc (z_getf zG0 ci j n)) (hk : ∃ fts, zG0.2.1 (zG0.1 a) = .inl (ci, fts) ∧ fts[j]? = some (0, id)) (h : ∀ z : Int32, z.toInt = zf I id → zAt zG0 PX bd pre post d cc own K n L (.inl z :: S) I B) : zAt zG0 PX bd pre post d cc own K pc L (.inr (.inl (some a)) :: S) I B := by
  obtain ⟨fts, e1, e2⟩ := hk
  refine hA hs ?_
  unfold z_getf
  simp only [e1, e2]
  exact ⟨trivial, zget0 (h _ rfl)⟩
theorem hA_getf1 {ci j a iv : Nat} {q : aQ} (hs : zSound zG0 PX bd pre post d cc own pc (z_getf zG0 ci j n)) (hk : ∃ fts, zG0.2.1 (zG0.1 a) = .inl (ci, fts) ∧ fts[j]? = some (1, iv)) (hq : zfv iv = q) (h : ∀ z : Int32, q.1 ≤ z.toInt → z.toInt ≤ q.2 → zAt zG0 PX bd pre post d cc own K n L (.inl z :: S) I B) : zAt zG0 PX bd pre post d cc own K pc L (.inr (.inl (some a)) :: S) I B := by
  obtain ⟨fts, e1, e2⟩ := hk
  refine hA hs ?_
  unfold z_getf
  simp only [e1, e2]
  refine ⟨trivial, zget1 (fun v hv => h v ?_ ?_)⟩
  · rw [← hq]; exact hv.1
  · rw [← hq]; exact hv.2
theorem hA_getf2 {ci j a r : Nat} (hs : zSound zG0 PX bd pre post d cc own pc (z_getf zG0 ci j n)) (hk : ∃ fts, zG0.2.1 (zG0.1 a) = .inl (ci, fts) ∧ fts[j]? = some (2, r)) (h : zAt zG0 PX bd pre post d cc own K n L (.inr (.inl (some r)) :: S) I B) : zAt zG0 PX bd pre post d cc own K pc L (.inr (.inl (some a)) :: S) I B := by
  obtain ⟨fts, e1, e2⟩ := hk
  refine hA hs ?_
  unfold z_getf
  simp only [e1, e2]
  exact ⟨trivial, zget2 h⟩
theorem hA_getf3 {ci j a kd : Nat} (hs : zSound zG0 PX bd pre post d cc own pc (z_getf zG0 ci j n)) (hk : ∃ fts, zG0.2.1 (zG0.1 a) = .inl (ci, fts) ∧ fts[j]? = some (3, kd)) (h : ∀ r : Nat, zG0.1 r = kd → zAt zG0 PX bd pre post d cc own K n L (.inr (.inl (some r)) :: S) I B) : zAt zG0 PX bd pre post d cc own K pc L (.inr (.inl (some a)) :: S) I B := by
  obtain ⟨fts, e1, e2⟩ := hk
  refine hA hs ?_
  unfold z_getf
  simp only [e1, e2]
  exact ⟨trivial, zget3 h⟩
theorem hA_puti0 {ci j a id kd : Nat} {v : Int32} (hs : zSound zG0 PX bd pre post d cc own pc (z_puti zG0 ci j kd n)) (hk : ∃ fts, zG0.2.1 (zG0.1 a) = .inl (ci, fts) ∧ fts[j]? = some (0, id)) (hb : kd = 1 → 0 ≤ v.toInt ∧ v.toInt ≤ 1) (h : zAt zG0 PX bd pre post d cc own K n L S (zupd I id v) B) : zAt zG0 PX bd pre post d cc own K pc L (.inl v :: .inr (.inl (some a)) :: S) I B := by
  obtain ⟨fts, e1, e2⟩ := hk
  refine hA hs ?_
  unfold z_puti
  simp only [e1, e2]
  exact ⟨trivial, zput0 (fun q => i01 (hb q).1 (hb q).2) h⟩
theorem hA_puti1 {ci j a iv kd : Nat} {v : Int32} {q : aQ} (hs : zSound zG0 PX bd pre post d cc own pc (z_puti zG0 ci j kd n)) (hk : ∃ fts, zG0.2.1 (zG0.1 a) = .inl (ci, fts) ∧ fts[j]? = some (1, iv)) (hq : zfv iv = q) (hb : kd = 1 → 0 ≤ v.toInt ∧ v.toInt ≤ 1) (h1 : q.1 ≤ v.toInt) (h2 : v.toInt ≤ q.2) (h : zAt zG0 PX bd pre post d cc own K n L S I B) : zAt zG0 PX bd pre post d cc own K pc L (.inl v :: .inr (.inl (some a)) :: S) I B := by
  obtain ⟨fts, e1, e2⟩ := hk
  refine hA hs ?_
  unfold z_puti
  simp only [e1, e2]
  refine ⟨trivial, zput1 (fun q => i01 (hb q).1 (hb q).2) ?_ h⟩
  show (zfv iv).1 ≤ _ ∧ _ ≤ (zfv iv).2
  rw [hq]
  exact ⟨h1, h2⟩
/-- elements: of known arrays, of others -/
theorem hA_iald {a kd len : Nat} {i : Int32} (hs : zSound zG0 PX bd pre post d cc own pc (z_iald zG0 n)) (hk : zG0.1 a = kd ∧ zG0.2.1 kd = .inr (0, len) ∧ zvs kd = true) (h0 : 0 ≤ i.toInt) (h1 : i.toInt < (len : Int)) (h : ∀ z : Int32, z.toInt = zv I kd i.toInt → zAt zG0 PX bd pre post d cc own K n L (.inl z :: S) I B) : zAt zG0 PX bd pre post d cc own K pc L (.inl i :: .inr (.inl (some a)) :: S) I B := by
  obtain ⟨e1, e2, e3⟩ := hk
  refine hA hs ?_
  unfold z_iald
  simp only [e1, e2]
  refine ⟨trivial, (ix h0 h1).1, fun v hv => h v ?_⟩
  rcases hv with ⟨-, rfl⟩ | ⟨h2, -⟩
  · rfl
  · rw [show zG0.2.2.2.2.2 kd = zvs kd from rfl, e3] at h2; cases h2
theorem hA_ialdH {a kd len : Nat} {i : Int32} (hs : zSound zG0 PX bd pre post d cc own pc (z_iald zG0 n)) (hk : zG0.1 a = kd ∧ zG0.2.1 kd = .inr (0, len) ∧ zvs kd = false) (h0 : 0 ≤ i.toInt) (h1 : i.toInt < (len : Int)) (h : ∀ z : Int32, eOK (zta (ztb kd)) i.toInt.toNat z.toInt → zAt zG0 PX bd pre post d cc own K n L (.inl z :: S) I B) : zAt zG0 PX bd pre post d cc own K pc L (.inl i :: .inr (.inl (some a)) :: S) I B := by
  obtain ⟨e1, e2, e3⟩ := hk
  refine hA hs ?_
  unfold z_iald
  simp only [e1, e2]
  refine ⟨trivial, (ix h0 h1).1, fun v hv => h v ?_⟩
  rcases hv with ⟨h2, -⟩ | ⟨-, h2⟩
  · rw [show zG0.2.2.2.2.2 kd = zvs kd from rfl, e3] at h2; cases h2
  · exact h2
theorem hA_bald {a kd len t : Nat} {i : Int32} (hs : zSound zG0 PX bd pre post d cc own pc (z_bald zG0 n)) (hk : zG0.1 a = kd ∧ zG0.2.1 kd = .inr (t, len) ∧ zvs kd = true ∧ (t = 1 ∨ t = 2)) (h0 : 0 ≤ i.toInt) (h1 : i.toInt < (len : Int)) (h : ∀ z : Int32, z.toInt = zv I kd i.toInt → zAt zG0 PX bd pre post d cc own K n L (.inl z :: S) I B) : zAt zG0 PX bd pre post d cc own K pc L (.inl i :: .inr (.inl (some a)) :: S) I B := by
  obtain ⟨e1, e2, e3, e4⟩ := hk
  refine hA hs ?_
  unfold z_bald
  simp only [e1, e2]
  refine ⟨e4, (ix h0 h1).1, fun v hv => h v ?_⟩
  rcases hv with ⟨-, rfl⟩ | ⟨h2, -⟩
  · rfl
  · rw [show zG0.2.2.2.2.2 kd = zvs kd from rfl, e3] at h2; cases h2
theorem hA_baldH {a kd len t : Nat} {i : Int32} (hs : zSound zG0 PX bd pre post d cc own pc (z_bald zG0 n)) (hk : zG0.1 a = kd ∧ zG0.2.1 kd = .inr (t, len) ∧ zvs kd = false ∧ (t = 1 ∨ t = 2)) (h0 : 0 ≤ i.toInt) (h1 : i.toInt < (len : Int)) (h : ∀ z : Int32, eOK (zta (ztb kd)) i.toInt.toNat z.toInt → zAt zG0 PX bd pre post d cc own K n L (.inl z :: S) I B) : zAt zG0 PX bd pre post d cc own K pc L (.inl i :: .inr (.inl (some a)) :: S) I B := by
  obtain ⟨e1, e2, e3, e4⟩ := hk
  refine hA hs ?_
  unfold z_bald
  simp only [e1, e2]
  refine ⟨e4, (ix h0 h1).1, fun v hv => h v ?_⟩
  rcases hv with ⟨h2, -⟩ | ⟨-, h2⟩
  · rw [show zG0.2.2.2.2.2 kd = zvs kd from rfl, e3] at h2; cases h2
  · exact h2
theorem hA_iast {a kd len : Nat} {i v : Int32} (hs : zSound zG0 PX bd pre post d cc own pc (z_iast zG0 n)) (hk : zG0.1 a = kd ∧ zG0.2.1 kd = .inr (0, len) ∧ zvs kd = true) (h0 : 0 ≤ i.toInt) (h1 : i.toInt < (len : Int)) (h : zAt zG0 PX bd pre post d cc own K n L S (zupd I (zid kd i.toInt.toNat) v) B) : zAt zG0 PX bd pre post d cc own K pc L (.inl v :: .inl i :: .inr (.inl (some a)) :: S) I B := by
  obtain ⟨e1, e2, e3⟩ := hk
  refine hA hs ?_
  unfold z_iast
  simp only [e1, e2]
  refine ⟨trivial, (ix h0 h1).1, Or.inl e3, ?_⟩
  unfold zst
  rw [if_pos (show zG0.2.2.2.2.2 kd = true from e3)]
  exact h
theorem hA_iastH {a kd len : Nat} {i v : Int32} (hs : zSound zG0 PX bd pre post d cc own pc (z_iast zG0 n)) (hk : zG0.1 a = kd ∧ zG0.2.1 kd = .inr (0, len) ∧ zvs kd = false) (h0 : 0 ≤ i.toInt) (h1 : i.toInt < (len : Int)) (he : eOK (zta (ztb kd)) i.toInt.toNat v.toInt) (h : zAt zG0 PX bd pre post d cc own K n L S I B) : zAt zG0 PX bd pre post d cc own K pc L (.inl v :: .inl i :: .inr (.inl (some a)) :: S) I B := by
  obtain ⟨e1, e2, e3⟩ := hk
  refine hA hs ?_
  unfold z_iast
  simp only [e1, e2]
  refine ⟨trivial, (ix h0 h1).1, Or.inr he, ?_⟩
  unfold zst
  rw [if_neg (by rw [show zG0.2.2.2.2.2 kd = zvs kd from rfl, e3]; simp)]
  exact h
/-- a boolean's array -/
theorem hA_zast {a kd len : Nat} {i v : Int32} (hs : zSound zG0 PX bd pre post d cc own pc (z_bast zG0 n)) (hk : zG0.1 a = kd ∧ zG0.2.1 kd = .inr (2, len) ∧ zvs kd = true) (h0 : 0 ≤ i.toInt) (h1 : i.toInt < (len : Int)) (hv0 : 0 ≤ v.toInt) (hv1 : v.toInt ≤ 1) (h : zAt zG0 PX bd pre post d cc own K n L S (zupd I (zid kd i.toInt.toNat) v) B) : zAt zG0 PX bd pre post d cc own K pc L (.inl v :: .inl i :: .inr (.inl (some a)) :: S) I B := by
  obtain ⟨e1, e2, e3⟩ := hk
  refine hA hs ?_
  unfold z_bast
  simp only [e1, e2]
  refine ⟨(ix h0 h1).1, Or.inr ⟨trivial, i01 hv0 hv1, Or.inl e3, ?_⟩⟩
  unfold zst
  rw [if_pos (show zG0.2.2.2.2.2 kd = true from e3)]
  exact h
theorem hA_zastH {a kd len : Nat} {i v : Int32} (hs : zSound zG0 PX bd pre post d cc own pc (z_bast zG0 n)) (hk : zG0.1 a = kd ∧ zG0.2.1 kd = .inr (2, len) ∧ zvs kd = false) (h0 : 0 ≤ i.toInt) (h1 : i.toInt < (len : Int)) (hv0 : 0 ≤ v.toInt) (hv1 : v.toInt ≤ 1) (he : eOK (zta (ztb kd)) i.toInt.toNat v.toInt) (h : zAt zG0 PX bd pre post d cc own K n L S I B) : zAt zG0 PX bd pre post d cc own K pc L (.inl v :: .inl i :: .inr (.inl (some a)) :: S) I B := by
  obtain ⟨e1, e2, e3⟩ := hk
  refine hA hs ?_
  unfold z_bast
  simp only [e1, e2]
  refine ⟨(ix h0 h1).1, Or.inr ⟨trivial, i01 hv0 hv1, Or.inr he, ?_⟩⟩
  unfold zst
  rw [if_neg (by rw [show zG0.2.2.2.2.2 kd = zvs kd from rfl, e3]; simp)]
  exact h
/-- a byte's array -/
theorem hA_bastH {a kd len : Nat} {i v : Int32} (hs : zSound zG0 PX bd pre post d cc own pc (z_bast zG0 n)) (hk : zG0.1 a = kd ∧ zG0.2.1 kd = .inr (1, len) ∧ zvs kd = false) (h0 : 0 ≤ i.toInt) (h1 : i.toInt < (len : Int)) (he : ∀ x : Int, -128 ≤ x → x ≤ 127 → eOK (zta (ztb kd)) i.toInt.toNat x) (h : zAt zG0 PX bd pre post d cc own K n L S I B) : zAt zG0 PX bd pre post d cc own K pc L (.inl v :: .inl i :: .inr (.inl (some a)) :: S) I B := by
  obtain ⟨e1, e2, e3⟩ := hk
  refine hA hs ?_
  unfold z_bast
  simp only [e1, e2]
  refine ⟨(ix h0 h1).1, Or.inl ⟨trivial, Or.inr (he _ (an_i2b v).1 (an_i2b v).2), ?_⟩⟩
  unfold zst
  rw [if_neg (by rw [show zG0.2.2.2.2.2 kd = zvs kd from rfl, e3]; simp)]
  exact h
theorem hA_lald {a kd len : Nat} {i : Int32} (hs : zSound zG0 PX bd pre post d cc own pc (z_lald zG0 n)) (hk : zG0.1 a = kd ∧ zG0.2.1 kd = .inr (3, len)) (h0 : 0 ≤ i.toInt) (h1 : i.toInt < (len : Int)) (h : ∀ z : Int64, zG0.2.2.2.2.1 kd i.toInt.toNat z → zAt zG0 PX bd pre post d cc own K n L (.inr (.inr z) :: S) I B) : zAt zG0 PX bd pre post d cc own K pc L (.inl i :: .inr (.inl (some a)) :: S) I B := by
  obtain ⟨e1, e2⟩ := hk
  refine hA hs ?_
  unfold z_lald
  simp only [e1, e2]
  exact ⟨trivial, (ix h0 h1).1, fun v hv => h v hv⟩
theorem hA_last {a kd len : Nat} {i : Int32} {v : Int64} (hs : zSound zG0 PX bd pre post d cc own pc (z_last zG0 n)) (hk : zG0.1 a = kd ∧ zG0.2.1 kd = .inr (3, len)) (h0 : 0 ≤ i.toInt) (h1 : i.toInt < (len : Int)) (he : zG0.2.2.2.2.1 kd i.toInt.toNat v) (h : zAt zG0 PX bd pre post d cc own K n L S I B) : zAt zG0 PX bd pre post d cc own K pc L (.inr (.inr v) :: .inl i :: .inr (.inl (some a)) :: S) I B := by
  obtain ⟨e1, e2⟩ := hk
  refine hA hs ?_
  unfold z_last
  simp only [e1, e2]
  exact ⟨trivial, (ix h0 h1).1, he, h⟩
theorem hA_alen {a kd t len : Nat} (hs : zSound zG0 PX bd pre post d cc own pc (z_alen zG0 n)) (hk : zG0.1 a = kd ∧ zG0.2.1 kd = .inr (t, len) ∧ t < 3 ∧ len < 2147483648) (h : ∀ z : Int32, z.toInt = (len : Int) → zAt zG0 PX bd pre post d cc own K n L (.inl z :: S) I B) : zAt zG0 PX bd pre post d cc own K pc L (.inr (.inl (some a)) :: S) I B := by
  obtain ⟨e1, e2, e3, e4⟩ := hk
  refine hA hs ?_
  unfold z_alen
  simp only [e1, e2]
  exact ⟨e3, h _ (an_ofNat e4)⟩
/-- calls -/
theorem hA_inv {j na : Nat} {as rest : List zV} (hs : zSound zG0 PX bd pre post d cc own pc (z_inv bd pre post d j na n)) (hp : zpop na [] S = some (as, rest)) (hcat : zcat rest ≤ 8) (hpre : pre d.1 j as I) (hb : B.1 + (bd j).1 ≤ d.2.1 ∧ B.2 + (bd j).2 ≤ d.2.2) (h : ∀ (r : Option zV) (I' : zI), post j as I r I' → zAt zG0 PX bd pre post d cc own K n L (zpush r rest) I' (B.1 + (bd j).1, B.2 + (bd j).2)) : zAt zG0 PX bd pre post d cc own K pc L S I B := by
  refine hA hs ?_
  unfold z_inv
  rw [hp]
  exact ⟨hcat, hpre, hb.1, hb.2, h⟩
theorem hA_invV {ci j na a : Nat} {as rest : List zV} (hs : zSound zG0 PX bd pre post d cc own pc (z_invV zG0 bd pre post d ci j na n)) (hp : zpop na [] S = some (.inr (.inl (some a)) :: as, rest)) (hk : ∃ fts, zG0.2.1 (zG0.1 a) = .inl (ci, fts)) (hcat : zcat rest ≤ 8) (hpre : pre d.1 j (.inr (.inl (some a)) :: as) I) (hb : B.1 + (bd j).1 ≤ d.2.1 ∧ B.2 + (bd j).2 ≤ d.2.2) (h : ∀ (r : Option zV) (I' : zI), post j (.inr (.inl (some a)) :: as) I r I' → zAt zG0 PX bd pre post d cc own K n L (zpush r rest) I' (B.1 + (bd j).1, B.2 + (bd j).2)) : zAt zG0 PX bd pre post d cc own K pc L S I B := by
  refine hA hs ?_
  unfold z_invV
  rw [hp]
  exact ⟨hk, hcat, hpre, hb.1, hb.2, h⟩
/-- the ways out -/
theorem hA_ireturn {ret : Option FieldType} {b : Nat × Nat} {P : Option zV → zI → Prop} {x : Int32} (hd : ret = some .int ∧ decode cc pc = .ok (.ireturn, 1)) (hB : B.1 ≤ b.1 ∧ B.2 ≤ b.2) (h : P (some (.inl x)) I) : zAt zG0 PX bd pre post d cc own (zRet cc ret b P) pc L [.inl x] I B := zAt_in ⟨hB, Or.inl ⟨hd.1, hd.2, x, rfl, h⟩⟩
theorem hA_zreturn {ret : Option FieldType} {b : Nat × Nat} {P : Option zV → zI → Prop} {x : Int32} (hd : ret = some .boolean ∧ decode cc pc = .ok (.ireturn, 1)) (hB : B.1 ≤ b.1 ∧ B.2 ≤ b.2) (hx : 0 ≤ x.toInt ∧ x.toInt ≤ 1) (h : P (some (.inl x)) I) : zAt zG0 PX bd pre post d cc own (zRet cc ret b P) pc L [.inl x] I B := zAt_in ⟨hB, Or.inr (Or.inl ⟨hd.1, hd.2, x, i01 hx.1 hx.2, rfl, h⟩)⟩
theorem hA_return {ret : Option FieldType} {b : Nat × Nat} {P : Option zV → zI → Prop} (hd : ret = none ∧ decode cc pc = .ok (.return_, 1)) (hB : B.1 ≤ b.1 ∧ B.2 ≤ b.2) (h : P none I) : zAt zG0 PX bd pre post d cc own (zRet cc ret b P) pc L [] I B := zAt_in ⟨hB, Or.inr (Or.inr (Or.inl ⟨hd.1, hd.2, rfl, h⟩))⟩
theorem hA_lreturn {ret : Option FieldType} {b : Nat × Nat} {P : Option zV → zI → Prop} {x : Int64} (hd : ret = some .long ∧ decode cc pc = .ok (.lreturn, 1)) (hB : B.1 ≤ b.1 ∧ B.2 ≤ b.2) (h : P (some (.inr (.inr x))) I) : zAt zG0 PX bd pre post d cc own (zRet cc ret b P) pc L [.inr (.inr x)] I B := zAt_in ⟨hB, Or.inr (Or.inr (Or.inr ⟨hd.1, hd.2, x, rfl, h⟩))⟩
/-- a method's contract out of a walk by hand -/
theorem hmet {d : Nat} {b : Nat × Nat} {y : MethodName} {maxL : Nat} {ret : Option FieldType} {as : List zV} {P : Option zV → zI → Prop} (hpl : plainName y.cls = true) (hn : (zla as).length ≤ maxL) (hc : zCalls zG0 PX bd pre post d) (hL : zloc maxL as = L) (h : zAt zG0 PX bd pre post (d, b.1, b.2) cc y.cls (zRet cc ret b P) 0 L [] I (0, 0)) : zMet zG0 (y, cc, maxL, ret) (d + 1) b as I P := by
  refine zmet_ok hpl hn (zAt_reach ?_) hc
  intro pc L' S' I' B' hE
  obtain ⟨rfl, rfl, rfl, rfl, rfl⟩ := hE
  rw [hL]
  exact h
end HB
