def z_i2l (n : Nat) : zF := fun K L S I B => match S with
  | .inl x :: S => K n L (.inr (.inr x.toInt64) :: S) I B
  | _ => False
def z_l2i (n : Nat) : zF := fun K L S I B => match S with
  | .inr (.inr x) :: S => K n L (.inl x.toInt32 :: S) I B
  | _ => False
def z_lbin (f : Int64 → Int64 → Int64) (n : Nat) : zF := fun K L S I B => match S with
  | .inr (.inr y) :: .inr (.inr x) :: S => K n L (.inr (.inr (f x y)) :: S) I B
  | _ => False
def z_ldv (f : Int64 → Int64 → Int64) (n : Nat) : zF := fun K L S I B => match S with
  | .inr (.inr y) :: .inr (.inr x) :: S => ¬ y = 0 ∧ K n L (.inr (.inr (f x y)) :: S) I B
  | _ => False
def z_tsw (lo : Int) (ts : List Nat) (df : Nat) : zF := fun K L S I B => match S with
  | .inl x :: S => (∀ (k t : Nat), ts[k]? = some t → x.toInt = lo + (k : Int) → K t L S I B) ∧ ((x.toInt < lo ∨ lo + (ts.length : Int) ≤ x.toInt) → K df L S I B)
  | _ => False
def z_math (f : Int32 → Int32 → Int32) (n : Nat) : zF := fun K L S I B => match S with
  | .inl y :: .inl x :: S => zcat S ≤ 8 ∧ K n L (.inl (f x y) :: S) I B
  | _ => False
section ZS6
variable {g : zG} {PX : xPX} {bd : Nat → Nat × Nat} {pre : zPre} {post : zPost} {d : Nat × Nat × Nat} {cc : ByteArray} {own : String} {pc : Nat}
theorem z_astore_eq {i n : Nat} {K : zK} {L : zL} {S : List zV} {I : zI} {B : Nat × Nat} (h : z_astore i n K L S I B) : ∃ r S0, S = .inr (.inl r) :: S0 ∧ zcan L i ∧ K n (L.set i (some (.inr (.inl r)))) S0 I B := by
  unfold z_astore at h
  split at h
  · exact ⟨_, _, rfl, h⟩
  · exact h.elim
theorem zs_astore_n {k : Fin 4} (hd : decode cc pc = .ok (.astore_n k, 1)) : zSound g PX bd pre post d cc own pc (z_astore k (pc + 1)) := by
  intro K L S I B h hc p l e R s m args below meth c Q nL D tys sz sc TT hT C hf hlo kk N ls st H locs μ hM hL hS hB1 hB2 hτ
  obtain ⟨r, S0, rfl, hst, h⟩ := z_astore_eq h
  obtain ⟨u, st', rfl, hu, hS⟩ := hS
  obtain ⟨hlen, lv, hlv, hl⟩ := hL
  cases r with
  | none =>
    cases hu
    exact lv_astore_nN C.1 C.2.1 hd rfl hlv (hlen ▸ hst.1) rfl (fun ls' h' => kk _ _ _ _ _ h N _ _ _ _ _ hM (zRL_st (ls := ls) (u := .null) hst hlen hl rfl h') hS hB1 hB2 (hT _ _ hτ (est hd (⟨_, _, rfl, rfl⟩))))
  | some r =>
    obtain ⟨rfl, hr⟩ := hu
    exact lv_astore_n C.1 C.2.1 hd rfl hlv (hlen ▸ hst.1) rfl (fun ls' h' => kk _ _ _ _ _ h N _ _ _ _ _ hM (zRL_st (ls := ls) (u := .ref (sz + r)) hst hlen hl ⟨rfl, hr⟩ h') hS hB1 hB2 (hT _ _ hτ (est hd (⟨_, _, rfl, rfl⟩))))
theorem zs_astore {i : Nat} (hd : decode cc pc = .ok (.astore i, 2)) : zSound g PX bd pre post d cc own pc (z_astore i (pc + 2)) := by
  intro K L S I B h hc p l e R s m args below meth c Q nL D tys sz sc TT hT C hf hlo kk N ls st H locs μ hM hL hS hB1 hB2 hτ
  obtain ⟨r, S0, rfl, hst, h⟩ := z_astore_eq h
  obtain ⟨u, st', rfl, hu, hS⟩ := hS
  obtain ⟨hlen, lv, hlv, hl⟩ := hL
  cases r with
  | none =>
    cases hu
    exact lv_astoreN C.1 C.2.1 hd hlv (hlen ▸ hst.1) rfl (fun ls' h' => kk _ _ _ _ _ h N _ _ _ _ _ hM (zRL_st (ls := ls) (u := .null) hst hlen hl rfl h') hS hB1 hB2 (hT _ _ hτ (est hd (⟨_, _, rfl, rfl⟩))))
  | some r =>
    obtain ⟨rfl, hr⟩ := hu
    exact lv_astore C.1 C.2.1 hd hlv (hlen ▸ hst.1) rfl (fun ls' h' => kk _ _ _ _ _ h N _ _ _ _ _ hM (zRL_st (ls := ls) (u := .ref (sz + r)) hst hlen hl ⟨rfl, hr⟩ h') hS hB1 hB2 (hT _ _ hτ (est hd (⟨_, _, rfl, rfl⟩))))
theorem z_lload_eq {i n : Nat} {K : zK} {L : zL} {S : List zV} {I : zI} {B : Nat × Nat} (h : z_lload i n K L S I B) : ∃ q, L[i]? = some (some (.inr (.inr q))) ∧ K n L (.inr (.inr q) :: S) I B := by
  unfold z_lload at h
  split at h
  · rename_i x hx; exact ⟨x, hx, h⟩
  · exact h.elim
theorem zs_lload_n {k : Fin 4} (hd : decode cc pc = .ok (.lload_n k, 1)) : zSound g PX bd pre post d cc own pc (z_lload k (pc + 1)) := by
  intro K L S I B h hc p l e R s m args below meth c Q nL D tys sz sc TT hT C hf hlo kk N ls st H locs μ hM hL hS hB1 hB2 hτ
  obtain ⟨q, hx, h⟩ := z_lload_eq h
  obtain ⟨u, hu, rfl⟩ := zRL_at hL hx
  exact lv_lload_n C.1 C.2.1 hd rfl hu (kk _ _ _ _ _ h N _ _ _ _ _ hM hL ⟨_, _, rfl, rfl, hS⟩ hB1 hB2 (hT _ _ hτ (est hd (⟨_, hx, rfl⟩))))
theorem zs_lload {i : Nat} (hd : decode cc pc = .ok (.lload i, 2)) : zSound g PX bd pre post d cc own pc (z_lload i (pc + 2)) := by
  intro K L S I B h hc p l e R s m args below meth c Q nL D tys sz sc TT hT C hf hlo kk N ls st H locs μ hM hL hS hB1 hB2 hτ
  obtain ⟨q, hx, h⟩ := z_lload_eq h
  obtain ⟨u, hu, rfl⟩ := zRL_at hL hx
  exact lv_lload C.1 C.2.1 hd hu (kk _ _ _ _ _ h N _ _ _ _ _ hM hL ⟨_, _, rfl, rfl, hS⟩ hB1 hB2 (hT _ _ hτ (est hd (⟨_, hx, rfl⟩))))
theorem zs_i2l (hd : decode cc pc = .ok (.i2l, 1)) : zSound g PX bd pre post d cc own pc (z_i2l (pc + 1)) := by
  intro K L S I B h hc p l e R s m args below meth c Q nL D tys sz sc TT hT C hf hlo kk N ls st H locs μ hM hL hS hB1 hB2 hτ
  unfold z_i2l at h
  split at h
  · obtain ⟨u, st', rfl, rfl, hS⟩ := hS
    exact lv_i2l C.1 C.2.1 hd rfl (kk _ _ _ _ _ h N _ _ _ _ _ hM hL ⟨_, _, rfl, rfl, hS⟩ hB1 hB2 (hT _ _ hτ (est hd (⟨_, _, rfl, rfl⟩))))
  · exact h.elim
theorem zs_l2i (hd : decode cc pc = .ok (.l2i, 1)) : zSound g PX bd pre post d cc own pc (z_l2i (pc + 1)) := by
  intro K L S I B h hc p l e R s m args below meth c Q nL D tys sz sc TT hT C hf hlo kk N ls st H locs μ hM hL hS hB1 hB2 hτ
  unfold z_l2i at h
  split at h
  · obtain ⟨u, st', rfl, rfl, hS⟩ := hS
    exact lv_l2i C.1 C.2.1 hd rfl (kk _ _ _ _ _ h N _ _ _ _ _ hM hL ⟨_, _, rfl, rfl, hS⟩ hB1 hB2 (hT _ _ hτ (est hd (⟨_, _, rfl, rfl⟩))))
  · exact h.elim
theorem zs_ladd (hd : decode cc pc = .ok (.ladd, 1)) : zSound g PX bd pre post d cc own pc (z_lbin (fun x y => x + y) (pc + 1)) := by
  intro K L S I B h hc p l e R s m args below meth c Q nL D tys sz sc TT hT C hf hlo kk N ls st H locs μ hM hL hS hB1 hB2 hτ
  unfold z_lbin at h
  split at h
  · obtain ⟨u, st', rfl, rfl, u2, st2, rfl, rfl, hS⟩ := hS
    exact lv_ladd C.1 C.2.1 hd (kk _ _ _ _ _ h N _ _ _ _ _ hM hL ⟨_, _, rfl, rfl, hS⟩ hB1 hB2 (hT _ _ hτ (est hd (⟨_, _, _, rfl, rfl⟩))))
  · exact h.elim
theorem zs_lmul (hd : decode cc pc = .ok (.lmul, 1)) : zSound g PX bd pre post d cc own pc (z_lbin (fun x y => x * y) (pc + 1)) := by
  intro K L S I B h hc p l e R s m args below meth c Q nL D tys sz sc TT hT C hf hlo kk N ls st H locs μ hM hL hS hB1 hB2 hτ
  unfold z_lbin at h
  split at h
  · obtain ⟨u, st', rfl, rfl, u2, st2, rfl, rfl, hS⟩ := hS
    exact lv_lmul C.1 C.2.1 hd (kk _ _ _ _ _ h N _ _ _ _ _ hM hL ⟨_, _, rfl, rfl, hS⟩ hB1 hB2 (hT _ _ hτ (est hd (⟨_, _, _, rfl, rfl⟩))))
  · exact h.elim
theorem zs_tsw {dflt lo hi : Int} {offs : Array Int} {len : Nat} {df : Nat} {ts : List Nat} (hd : decode cc pc = .ok (.tableswitch dflt lo hi offs, len)) (hh : hi + 1 = lo + (ts.length : Int)) (hdf : (pc : Int) + dflt = (df : Int)) (hts : ∀ (i t : Nat), ts[i]? = some t → ∃ off, offs[i]? = some off ∧ (pc : Int) + off = (t : Int)) : zSound g PX bd pre post d cc own pc (z_tsw lo ts df) := by
  intro K L S I B h hc p l e R s m args below meth c Q nL D tys sz sc TT hT C hf hlo kk N ls st H locs μ hM hL hS hB1 hB2 hτ
  unfold z_tsw at h
  split at h
  · rename_i x S0
    obtain ⟨u, st', rfl, rfl, hS⟩ := hS
    obtain ⟨h1, h2⟩ := h
    by_cases hout : x.toInt < lo ∨ lo + (ts.length : Int) ≤ x.toInt
    · exact lv_tableOut C.1 C.2.1 hd (by rcases hout with q | q; exact Or.inl q; exact Or.inr (by omega)) hdf (kk _ _ _ _ _ (h2 hout) N _ _ _ _ _ hM hL hS hB1 hB2 (hT _ _ hτ (est hd (⟨_, _, _, rfl, rfl, Or.inr ⟨(by rcases hout with q | q; exact Or.inl q; exact Or.inr (by omega)), hdf⟩⟩))))
    · have hlt : (x.toInt - lo).toNat < ts.length := by omega
      have hget : ts[(x.toInt - lo).toNat]? = some ts[(x.toInt - lo).toNat] := List.getElem?_eq_getElem hlt
      obtain ⟨off, ho, htg⟩ := hts _ _ hget
      exact lv_tableIn C.1 C.2.1 hd (by omega) (by omega) (off := off) ho htg (kk _ _ _ _ _ (h1 _ _ hget (by omega)) N _ _ _ _ _ hM hL hS hB1 hB2 (hT _ _ hτ (est hd (⟨_, _, _, rfl, rfl, Or.inl ⟨_, _, ho, by omega, htg⟩⟩))))
  · exact h.elim
theorem zs_max {index : Nat} (hd : decode cc pc = .ok (.invokestatic index, 3)) (hw1 : Cond.methodLink own index Lib.Math.max.name ∈ xTB) (hw2 : Cond.static Lib.Math.max.name ∈ xTB) (hw3 : Cond.initialized "java/lang/Math" ∈ xTB) (hw4 : Cond.code Lib.Math.max.name Lib.Math.max.code 2 (some .int) ∈ xTB) (hxt : xTb own index = (6, 0, 0)) : zSound g PX bd pre post d cc own pc (z_math (fun x y => if x < y then y else x) (pc + 3)) := by
  intro K L S I B h hc p l e R s m args below meth c Q nL D tys sz sc TT hT C1 hf hlo kk N ls st H locs μ hM hL hS hB1 hB2 hτ
  unfold z_math at h
  split at h
  · obtain ⟨u, st', rfl, rfl, u2, st2, rfl, rfl, hS⟩ := hS
    have hcs := zcat_ok hS
    obtain ⟨hcat, h⟩ := h
    exact va_mmax C1.1 C1.2.1 (by rw [C1.2.2.1]; obtain ⟨-, lv, g, -⟩ := hL; exact g.1.symm) C1.2.2.2.1 (C1.2.2.2.2.1 _ hw1) (C1.2.2.2.2.1 _ hw2) (C1.2.2.2.2.1 _ hw3) (C1.2.2.2.2.1 _ hw4) (by omega) (by have := hlo.1; omega) hB1 hB2 hd (kk _ _ _ _ _ h N _ _ _ _ _ hM hL ⟨_, _, rfl, rfl, hS⟩ hB1 hB2 (hT _ _ hτ (est hd (Or.inr (Or.inr (Or.inl ⟨hxt, _, _, _, rfl, rfl⟩))))))
  · exact h.elim
theorem zs_min {index : Nat} (hd : decode cc pc = .ok (.invokestatic index, 3)) (hw1 : Cond.methodLink own index Lib.Math.min.name ∈ xTB) (hw2 : Cond.static Lib.Math.min.name ∈ xTB) (hw3 : Cond.initialized "java/lang/Math" ∈ xTB) (hw4 : Cond.code Lib.Math.min.name Lib.Math.min.code 2 (some .int) ∈ xTB) (hxt : xTb own index = (7, 0, 0)) : zSound g PX bd pre post d cc own pc (z_math (fun x y => if y < x then y else x) (pc + 3)) := by
  intro K L S I B h hc p l e R s m args below meth c Q nL D tys sz sc TT hT C1 hf hlo kk N ls st H locs μ hM hL hS hB1 hB2 hτ
  unfold z_math at h
  split at h
  · obtain ⟨u, st', rfl, rfl, u2, st2, rfl, rfl, hS⟩ := hS
    have hcs := zcat_ok hS
    obtain ⟨hcat, h⟩ := h
    exact va_mmin C1.1 C1.2.1 (by rw [C1.2.2.1]; obtain ⟨-, lv, g, -⟩ := hL; exact g.1.symm) C1.2.2.2.1 (C1.2.2.2.2.1 _ hw1) (C1.2.2.2.2.1 _ hw2) (C1.2.2.2.2.1 _ hw3) (C1.2.2.2.2.1 _ hw4) (by omega) (by have := hlo.1; omega) hB1 hB2 hd (kk _ _ _ _ _ h N _ _ _ _ _ hM hL ⟨_, _, rfl, rfl, hS⟩ hB1 hB2 (hT _ _ hτ (est hd (Or.inr (Or.inr (Or.inr ⟨hxt, _, _, _, rfl, rfl⟩))))))
  · exact h.elim
end ZS6
