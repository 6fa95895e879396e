/-! the steps that leave the memory alone -/
def z_const (v : Int32) (n : Nat) : zF := fun K L S I B => K n L (.inl v :: S) I B
def z_lconst (v : Int64) (n : Nat) : zF := fun K L S I B => K n L (.inr (.inr v) :: S) I B
def z_null (n : Nat) : zF := fun K L S I B => K n L (.inr (.inl none) :: S) I B
def z_iload (i n : Nat) : zF := fun K L S I B => match L[i]? with
  | some (some (.inl x)) => K n L (.inl x :: S) I B
  | _ => False
def z_aload (i n : Nat) : zF := fun K L S I B => match L[i]? with
  | some (some (.inr (.inl r))) => K n L (.inr (.inl r) :: S) I B
  | _ => False
def z_lload (i n : Nat) : zF := fun K L S I B => match L[i]? with
  | some (some (.inr (.inr x))) => K n L (.inr (.inr x) :: S) I B
  | _ => False
def zlg (o : Option (Option zV)) : Bool := match o with
  | some (some (.inr (.inr _))) => true
  | _ => false
/-- a local may be stored: no long stands before it -/
def zcan (L : zL) (i : Nat) : Prop := i < L.length ∧ zlg L[i - 1]? = false
def z_istore (i n : Nat) : zF := fun K L S I B => match S with
  | .inl x :: S => zcan L i ∧ K n (L.set i (some (.inl x))) S I B
  | _ => False
def z_astore (i n : Nat) : zF := fun K L S I B => match S with
  | .inr (.inl r) :: S => zcan L i ∧ K n (L.set i (some (.inr (.inl r)))) S I B
  | _ => False
def z_iinc (i : Nat) (k : Int32) (n : Nat) : zF := fun K L S I B => match L[i]? with
  | some (some (.inl x)) => zcan L i ∧ K n (L.set i (some (.inl (x + k)))) S I B
  | _ => False
def z_bin (f : Int32 → Int32 → Int32) (n : Nat) : zF := fun K L S I B => match S with
  | .inl y :: .inl x :: S => K n L (.inl (f x y) :: S) I B
  | _ => False
/-- a division: not by 0 -/
def z_div (f : Int32 → Int32 → Int32) (n : Nat) : zF := fun K L S I B => match S with
  | .inl y :: .inl x :: S => ¬ y = 0 ∧ K n L (.inl (f x y) :: S) I B
  | _ => False
def z_un (f : Int32 → Int32) (n : Nat) : zF := fun K L S I B => match S with
  | .inl x :: S => K n L (.inl (f x) :: S) I B
  | _ => False
def z1 (v : zV) : Bool := match v with
  | .inr (.inr _) => false
  | _ => true
def z_dup (n : Nat) : zF := fun K L S I B => match S with
  | v :: S => z1 v = true ∧ K n L (v :: v :: S) I B
  | _ => False
def z_dup2 (n : Nat) : zF := fun K L S I B => match S with
  | v :: u :: S => z1 v = true ∧ z1 u = true ∧ K n L (v :: u :: v :: u :: S) I B
  | _ => False
def z_pop (n : Nat) : zF := fun K L S I B => match S with
  | v :: S => z1 v = true ∧ K n L S I B
  | _ => False
def z_goto (t : Nat) : zF := fun K L S I B => K t L S I B
def z_if (op t n : Nat) : zF := fun K L S I B => match S with
  | .inl x :: S => (xcmpP op x 0 → K t L S I B) ∧ (¬ xcmpP op x 0 → K n L S I B)
  | _ => False
def z_icmp (op t n : Nat) : zF := fun K L S I B => match S with
  | .inl y :: .inl x :: S => (xcmpP op x y → K t L S I B) ∧ (¬ xcmpP op x y → K n L S I B)
  | _ => False
def z_ifnonnull (t n : Nat) : zF := fun K L S I B => match S with
  | .inr (.inl none) :: S => K n L S I B
  | .inr (.inl (some _)) :: S => K t L S I B
  | _ => False
section ZS1
variable {g : zG} {PX : xPX} {bd : Nat → Nat × Nat} {pre : zPre} {post : zPost} {d : Nat × Nat × Nat} {cc : ByteArray} {own : String} {pc : Nat}
theorem zRV1 {sz N : Nat} {v : zV} {u : Value} (h : zRV sz N v u) (h1 : z1 v = true) : u.category = 1 := by
  match v, h, h1 with
  | .inl a, h, _ => cases h; rfl
  | .inr (.inl none), h, _ => cases h; rfl
  | .inr (.inl (some k)), h, _ => obtain ⟨rfl, -⟩ := h; rfl
theorem zRL_at {sz N nL i : Nat} {L : zL} {ls : Array Slot} {v : zV} (h : zRL sz N L ls nL) (hi : L[i]? = some (some v)) : ∃ u, ls[i]? = some (.val u) ∧ zRV sz N v u := by
  obtain ⟨-, lv, h1, h2⟩ := h
  obtain ⟨u, h3, h4⟩ := h2 i v hi
  exact ⟨u, h1.2.2 (i, u) h3, h4⟩
theorem zs_iconst {n : Int} {v : Int32} (hd : decode cc pc = .ok (.iconst n, 1)) (hv : Int32.ofInt n = v) : zSound g PX bd pre post d cc own pc (z_const v (pc + 1)) := by
  intro K L S I B h hc p l e R s m args below meth c Q nL D tys sz sc TT hT C hf hlo kk N ls st H locs μ hM hL hS hB1 hB2 hτ
  exact lv_iconst C.1 C.2.1 hd hv (kk _ _ _ _ _ h N _ _ _ _ _ hM hL ⟨_, _, rfl, rfl, hS⟩ hB1 hB2 (hT _ _ hτ (est hd (⟨_, hv, rfl⟩))))
theorem zs_bipush {n : Int} {v : Int32} (hd : decode cc pc = .ok (.bipush n, 2)) (hv : (Int8.ofInt n).toInt32 = v) : zSound g PX bd pre post d cc own pc (z_const v (pc + 2)) := by
  intro K L S I B h hc p l e R s m args below meth c Q nL D tys sz sc TT hT C hf hlo kk N ls st H locs μ hM hL hS hB1 hB2 hτ
  exact lv_bipush C.1 C.2.1 hd hv (kk _ _ _ _ _ h N _ _ _ _ _ hM hL ⟨_, _, rfl, rfl, hS⟩ hB1 hB2 (hT _ _ hτ (est hd (⟨_, hv, rfl⟩))))
theorem zs_sipush {n : Int} {v : Int32} (hd : decode cc pc = .ok (.sipush n, 3)) (hv : (Int16.ofInt n).toInt32 = v) : zSound g PX bd pre post d cc own pc (z_const v (pc + 3)) := by
  intro K L S I B h hc p l e R s m args below meth c Q nL D tys sz sc TT hT C hf hlo kk N ls st H locs μ hM hL hS hB1 hB2 hτ
  exact lv_sipush C.1 C.2.1 hd hv (kk _ _ _ _ _ h N _ _ _ _ _ hM hL ⟨_, _, rfl, rfl, hS⟩ hB1 hB2 (hT _ _ hτ (est hd (⟨_, hv, rfl⟩))))
theorem zs_ldc {index : Nat} {v : Int32} (hd : decode cc pc = .ok (.ldc index, 2)) (hw : Cond.constant own index v ∈ xTB) (hxt : xTb own index = (2, 0, v.toInt)) : zSound g PX bd pre post d cc own pc (z_const v (pc + 2)) := by
  intro K L S I B h hc p l e R s m args below meth c Q nL D tys sz sc TT hT C hf hlo kk N ls st H locs μ hM hL hS hB1 hB2 hτ
  exact lv_ldc C.1 C.2.1 C.2.2.2.1 (C.2.2.2.2.1 _ hw) hd (kk _ _ _ _ _ h N _ _ _ _ _ hM hL ⟨_, _, rfl, rfl, hS⟩ hB1 hB2 (hT _ _ hτ (est hd (Or.inl ⟨_, hxt, rfl⟩))))
theorem zs_ldcw {index : Nat} {v : Int32} (hd : decode cc pc = .ok (.ldc_w index, 3)) (hw : Cond.constant own index v ∈ xTB) (hxt : xTb own index = (2, 0, v.toInt)) : zSound g PX bd pre post d cc own pc (z_const v (pc + 3)) := by
  intro K L S I B h hc p l e R s m args below meth c Q nL D tys sz sc TT hT C hf hlo kk N ls st H locs μ hM hL hS hB1 hB2 hτ
  exact lv_ldcw C.1 C.2.1 C.2.2.2.1 (C.2.2.2.2.1 _ hw) hd (kk _ _ _ _ _ h N _ _ _ _ _ hM hL ⟨_, _, rfl, rfl, hS⟩ hB1 hB2 (hT _ _ hτ (est hd (⟨_, hxt, rfl⟩))))
theorem zs_ldc2 {index : Nat} {v : Int64} (hd : decode cc pc = .ok (.ldc2_w index, 3)) (hw : Cond.constantLong own index v ∈ xTB) (hxt : xTb own index = (3, 0, v.toInt)) : zSound g PX bd pre post d cc own pc (z_lconst v (pc + 3)) := by
  intro K L S I B h hc p l e R s m args below meth c Q nL D tys sz sc TT hT C hf hlo kk N ls st H locs μ hM hL hS hB1 hB2 hτ
  exact lv_ldc2 C.1 C.2.1 C.2.2.2.1 (C.2.2.2.2.1 _ hw) hd (kk _ _ _ _ _ h N _ _ _ _ _ hM hL ⟨_, _, rfl, rfl, hS⟩ hB1 hB2 (hT _ _ hτ (est hd (⟨_, hxt, rfl⟩))))
theorem zs_lconst {n : Fin 2} {v : Int64} (hd : decode cc pc = .ok (.lconst n, 1)) (hv : Int64.ofNat (n : Nat) = v) : zSound g PX bd pre post d cc own pc (z_lconst v (pc + 1)) := by
  intro K L S I B h hc p l e R s m args below meth c Q nL D tys sz sc TT hT C hf hlo kk N ls st H locs μ hM hL hS hB1 hB2 hτ
  exact lv_lconst C.1 C.2.1 hd hv (kk _ _ _ _ _ h N _ _ _ _ _ hM hL ⟨_, _, rfl, rfl, hS⟩ hB1 hB2 (hT _ _ hτ (est hd (⟨_, hv, rfl⟩))))
theorem z_iload_eq {i n : Nat} {K : zK} {L : zL} {S : List zV} {I : zI} {B : Nat × Nat} (h : z_iload i n K L S I B) : ∃ x, L[i]? = some (some (.inl x)) ∧ K n L (.inl x :: S) I B := by
  unfold z_iload at h
  split at h
  · rename_i x hx; exact ⟨x, hx, h⟩
  · exact h.elim
theorem zs_iload_n {k : Fin 4} (hd : decode cc pc = .ok (.iload_n k, 1)) : zSound g PX bd pre post d cc own pc (z_iload k (pc + 1)) := by
  intro K L S I B h hc p l e R s m args below meth c Q nL D tys sz sc TT hT C hf hlo kk N ls st H locs μ hM hL hS hB1 hB2 hτ
  obtain ⟨x, hx, h⟩ := z_iload_eq h
  obtain ⟨u, hu, rfl⟩ := zRL_at hL hx
  exact lv_iload_n C.1 C.2.1 hd rfl hu (kk _ _ _ _ _ h N _ _ _ _ _ hM hL ⟨_, _, rfl, rfl, hS⟩ hB1 hB2 (hT _ _ hτ (est hd (⟨_, hx, rfl⟩))))
theorem zs_iload {i : Nat} (hd : decode cc pc = .ok (.iload i, 2)) : zSound g PX bd pre post d cc own pc (z_iload i (pc + 2)) := by
  intro K L S I B h hc p l e R s m args below meth c Q nL D tys sz sc TT hT C hf hlo kk N ls st H locs μ hM hL hS hB1 hB2 hτ
  obtain ⟨x, hx, h⟩ := z_iload_eq h
  obtain ⟨u, hu, rfl⟩ := zRL_at hL hx
  exact lv_iload C.1 C.2.1 hd hu (kk _ _ _ _ _ h N _ _ _ _ _ hM hL ⟨_, _, rfl, rfl, hS⟩ hB1 hB2 (hT _ _ hτ (est hd (⟨_, hx, rfl⟩))))
theorem z_aload_eq {i n : Nat} {K : zK} {L : zL} {S : List zV} {I : zI} {B : Nat × Nat} (h : z_aload i n K L S I B) : ∃ r, L[i]? = some (some (.inr (.inl r))) ∧ K n L (.inr (.inl r) :: S) I B := by
  unfold z_aload at h
  split at h
  · rename_i x hx; exact ⟨x, hx, h⟩
  · exact h.elim
theorem zs_aload_n {k : Fin 4} (hd : decode cc pc = .ok (.aload_n k, 1)) : zSound g PX bd pre post d cc own pc (z_aload k (pc + 1)) := by
  intro K L S I B h hc p l e R s m args below meth c Q nL D tys sz sc TT hT C hf hlo kk N ls st H locs μ hM hL hS hB1 hB2 hτ
  obtain ⟨r, hx, h⟩ := z_aload_eq h
  obtain ⟨u, hu, hv⟩ := zRL_at hL hx
  cases r with
  | none =>
    cases hv
    exact lv_aload_nN C.1 C.2.1 hd rfl hu (kk _ _ _ _ _ h N _ _ _ _ _ hM hL ⟨_, _, rfl, rfl, hS⟩ hB1 hB2 (hT _ _ hτ (est hd (⟨_, hx, rfl⟩))))
  | some r =>
    obtain ⟨rfl, hr⟩ := hv
    exact lv_aload_n C.1 C.2.1 hd rfl hu (kk _ _ _ _ _ h N _ _ _ _ _ hM hL ⟨_, _, rfl, ⟨rfl, hr⟩, hS⟩ hB1 hB2 (hT _ _ hτ (est hd (⟨_, hx, rfl⟩))))
theorem zs_aload {i : Nat} (hd : decode cc pc = .ok (.aload i, 2)) : zSound g PX bd pre post d cc own pc (z_aload i (pc + 2)) := by
  intro K L S I B h hc p l e R s m args below meth c Q nL D tys sz sc TT hT C hf hlo kk N ls st H locs μ hM hL hS hB1 hB2 hτ
  obtain ⟨r, hx, h⟩ := z_aload_eq h
  obtain ⟨u, hu, hv⟩ := zRL_at hL hx
  cases r with
  | none =>
    cases hv
    exact lv_aloadN C.1 C.2.1 hd hu (kk _ _ _ _ _ h N _ _ _ _ _ hM hL ⟨_, _, rfl, rfl, hS⟩ hB1 hB2 (hT _ _ hτ (est hd (⟨_, hx, rfl⟩))))
  | some r =>
    obtain ⟨rfl, hr⟩ := hv
    exact lv_aload C.1 C.2.1 hd hu (kk _ _ _ _ _ h N _ _ _ _ _ hM hL ⟨_, _, rfl, ⟨rfl, hr⟩, hS⟩ hB1 hB2 (hT _ _ hτ (est hd (⟨_, hx, rfl⟩))))
theorem zRL_st {sz N nL i : Nat} {L : zL} {ls ls' : Array Slot} {lv : List (Nat × Value)} {v : zV} {u : Value} (hst : zcan L i) (hlen : L.length = nL) (hl : ∀ (i : Nat) (v : zV), L[i]? = some (some v) → ∃ u : Value, (i, u) ∈ lv ∧ zRV sz N v u) (hv : zRV sz N v u)
    (h' : lv_has ls' nL ((i, u) :: lv.filter (fun q => !(q.1 == i) && !(q.1 + 1 == i && q.2.category == 2)))) : zRL sz N (L.set i (some v)) ls' nL := by
  obtain ⟨h1, h2⟩ := hst
  refine ⟨by rw [List.length_set]; exact hlen, _, h', fun j v' hj => ?_⟩
  by_cases hji : j = i
  · subst hji
    rw [List.getElem?_set_self h1] at hj
    cases hj
    exact ⟨u, List.mem_cons_self, hv⟩
  · rw [List.getElem?_set_ne (Ne.symm hji)] at hj
    obtain ⟨u', h3, h4⟩ := hl j v' hj
    refine ⟨u', List.mem_cons_of_mem _ (List.mem_filter.mpr ⟨h3, ?_⟩), h4⟩
    have e1 : (j == i) = false := by simpa using hji
    simp only [e1, Bool.not_false, Bool.true_and]
    by_cases hj1 : j + 1 = i
    · have hv1 : z1 v' = true := by
        have e : L[i - 1]? = some (some v') := by rw [show i - 1 = j by omega]; exact hj
        rw [e] at h2
        match v', h2 with
        | .inl a, _ => rfl
        | .inr (.inl r), _ => rfl
      have hc := zRV1 h4 hv1
      simp [hc]
    · simp [hj1]
theorem z_istore_eq {i n : Nat} {K : zK} {L : zL} {S : List zV} {I : zI} {B : Nat × Nat} (h : z_istore i n K L S I B) : ∃ x S0, S = .inl x :: S0 ∧ zcan L i ∧ K n (L.set i (some (.inl x))) S0 I B := by
  unfold z_istore at h
  split at h
  · exact ⟨_, _, rfl, h⟩
  · exact h.elim
theorem zs_istore_n {k : Fin 4} (hd : decode cc pc = .ok (.istore_n k, 1)) : zSound g PX bd pre post d cc own pc (z_istore k (pc + 1)) := by
  intro K L S I B h hc p l e R s m args below meth c Q nL D tys sz sc TT hT C hf hlo kk N ls st H locs μ hM hL hS hB1 hB2 hτ
  obtain ⟨x, S0, rfl, hst, h⟩ := z_istore_eq h
  obtain ⟨u, st', rfl, rfl, hS⟩ := hS
  obtain ⟨hlen, lv, hlv, hl⟩ := hL
  exact lv_istore_n C.1 C.2.1 hd rfl hlv (hlen ▸ hst.1) rfl (fun ls' h' => kk _ _ _ _ _ h N _ _ _ _ _ hM (zRL_st (ls := ls) hst hlen hl rfl h') hS hB1 hB2 (hT _ _ hτ (est hd (⟨_, _, rfl, rfl⟩))))
theorem zs_istore {i : Nat} (hd : decode cc pc = .ok (.istore i, 2)) : zSound g PX bd pre post d cc own pc (z_istore i (pc + 2)) := by
  intro K L S I B h hc p l e R s m args below meth c Q nL D tys sz sc TT hT C hf hlo kk N ls st H locs μ hM hL hS hB1 hB2 hτ
  obtain ⟨x, S0, rfl, hst, h⟩ := z_istore_eq h
  obtain ⟨u, st', rfl, rfl, hS⟩ := hS
  obtain ⟨hlen, lv, hlv, hl⟩ := hL
  exact lv_istore C.1 C.2.1 hd hlv (hlen ▸ hst.1) rfl (fun ls' h' => kk _ _ _ _ _ h N _ _ _ _ _ hM (zRL_st (ls := ls) hst hlen hl rfl h') hS hB1 hB2 (hT _ _ hτ (est hd (⟨_, _, rfl, rfl⟩))))
theorem zs_iinc {i : Nat} {n : Int} {k : Int32} (hd : decode cc pc = .ok (.iinc i n, 3)) (hk : Int32.ofInt n = k) : zSound g PX bd pre post d cc own pc (z_iinc i k (pc + 3)) := by
  intro K L S I B h hc p l e R s m args below meth c Q nL D tys sz sc TT hT C hf hlo kk N ls st H locs μ hM hL hS hB1 hB2 hτ
  unfold z_iinc at h
  split at h
  · rename_i x hx
    obtain ⟨hst, h⟩ := h
    obtain ⟨hlen, lv, hlv, hl⟩ := hL
    obtain ⟨u, hm, rfl⟩ := hl i _ hx
    obtain ⟨q, hq⟩ := List.getElem?_of_mem hm
    exact lv_iinc C.1 C.2.1 hd hlv hq (by rw [hk]) (hlen ▸ hst.1) rfl (fun ls' h' => kk _ _ _ _ _ h N _ _ _ _ _ hM (zRL_st (ls := ls) hst hlen hl rfl h') hS hB1 hB2 (hT _ _ hτ (est hd (⟨_, _, hx, hk, rfl⟩))))
  · exact h.elim
theorem z_bin_eq {f : Int32 → Int32 → Int32} {n : Nat} {K : zK} {L : zL} {S : List zV} {I : zI} {B : Nat × Nat} (h : z_bin f n K L S I B) : ∃ y x S0, S = .inl y :: .inl x :: S0 ∧ K n L (.inl (f x y) :: S0) I B := by
  unfold z_bin at h
  split at h
  · exact ⟨_, _, _, rfl, h⟩
  · exact h.elim
theorem zs_iadd (hd : decode cc pc = .ok (.iadd, 1)) : zSound g PX bd pre post d cc own pc (z_bin (fun x y => x + y) (pc + 1)) := by
  intro K L S I B h hc p l e R s m args below meth c Q nL D tys sz sc TT hT C hf hlo kk N ls st H locs μ hM hL hS hB1 hB2 hτ
  obtain ⟨y, x, S0, rfl, h⟩ := z_bin_eq h
  obtain ⟨u, st', rfl, rfl, u2, st2, rfl, rfl, hS⟩ := hS
  exact lv_iadd C.1 C.2.1 hd (kk _ _ _ _ _ h N _ _ _ _ _ hM hL ⟨_, _, rfl, rfl, hS⟩ hB1 hB2 (hT _ _ hτ (est hd (⟨_, _, _, rfl, rfl⟩))))
theorem zs_isub (hd : decode cc pc = .ok (.isub, 1)) : zSound g PX bd pre post d cc own pc (z_bin (fun x y => x - y) (pc + 1)) := by
  intro K L S I B h hc p l e R s m args below meth c Q nL D tys sz sc TT hT C hf hlo kk N ls st H locs μ hM hL hS hB1 hB2 hτ
  obtain ⟨y, x, S0, rfl, h⟩ := z_bin_eq h
  obtain ⟨u, st', rfl, rfl, u2, st2, rfl, rfl, hS⟩ := hS
  exact lv_isub C.1 C.2.1 hd (kk _ _ _ _ _ h N _ _ _ _ _ hM hL ⟨_, _, rfl, rfl, hS⟩ hB1 hB2 (hT _ _ hτ (est hd (⟨_, _, _, rfl, rfl⟩))))
theorem zs_imul (hd : decode cc pc = .ok (.imul, 1)) : zSound g PX bd pre post d cc own pc (z_bin (fun x y => x * y) (pc + 1)) := by
  intro K L S I B h hc p l e R s m args below meth c Q nL D tys sz sc TT hT C hf hlo kk N ls st H locs μ hM hL hS hB1 hB2 hτ
  obtain ⟨y, x, S0, rfl, h⟩ := z_bin_eq h
  obtain ⟨u, st', rfl, rfl, u2, st2, rfl, rfl, hS⟩ := hS
  exact lv_imul C.1 C.2.1 hd (kk _ _ _ _ _ h N _ _ _ _ _ hM hL ⟨_, _, rfl, rfl, hS⟩ hB1 hB2 (hT _ _ hτ (est hd (⟨_, _, _, rfl, rfl⟩))))
theorem zs_iand (hd : decode cc pc = .ok (.iand, 1)) : zSound g PX bd pre post d cc own pc (z_bin (fun x y => x &&& y) (pc + 1)) := by
  intro K L S I B h hc p l e R s m args below meth c Q nL D tys sz sc TT hT C hf hlo kk N ls st H locs μ hM hL hS hB1 hB2 hτ
  obtain ⟨y, x, S0, rfl, h⟩ := z_bin_eq h
  obtain ⟨u, st', rfl, rfl, u2, st2, rfl, rfl, hS⟩ := hS
  exact lv_iand C.1 C.2.1 hd (kk _ _ _ _ _ h N _ _ _ _ _ hM hL ⟨_, _, rfl, rfl, hS⟩ hB1 hB2 (hT _ _ hτ (est hd (⟨_, _, _, rfl, rfl⟩))))
theorem zs_ior (hd : decode cc pc = .ok (.ior, 1)) : zSound g PX bd pre post d cc own pc (z_bin (fun x y => x ||| y) (pc + 1)) := by
  intro K L S I B h hc p l e R s m args below meth c Q nL D tys sz sc TT hT C hf hlo kk N ls st H locs μ hM hL hS hB1 hB2 hτ
  obtain ⟨y, x, S0, rfl, h⟩ := z_bin_eq h
  obtain ⟨u, st', rfl, rfl, u2, st2, rfl, rfl, hS⟩ := hS
  exact lv_ior C.1 C.2.1 hd (kk _ _ _ _ _ h N _ _ _ _ _ hM hL ⟨_, _, rfl, rfl, hS⟩ hB1 hB2 (hT _ _ hτ (est hd (⟨_, _, _, rfl, rfl⟩))))
theorem zs_ixor (hd : decode cc pc = .ok (.ixor, 1)) : zSound g PX bd pre post d cc own pc (z_bin (fun x y => x ^^^ y) (pc + 1)) := by
  intro K L S I B h hc p l e R s m args below meth c Q nL D tys sz sc TT hT C hf hlo kk N ls st H locs μ hM hL hS hB1 hB2 hτ
  obtain ⟨y, x, S0, rfl, h⟩ := z_bin_eq h
  obtain ⟨u, st', rfl, rfl, u2, st2, rfl, rfl, hS⟩ := hS
  exact lv_ixor C.1 C.2.1 hd (kk _ _ _ _ _ h N _ _ _ _ _ hM hL ⟨_, _, rfl, rfl, hS⟩ hB1 hB2 (hT _ _ hτ (est hd (⟨_, _, _, rfl, rfl⟩))))
theorem zs_ishl (hd : decode cc pc = .ok (.ishl, 1)) : zSound g PX bd pre post d cc own pc (z_bin (fun x y => x <<< (y &&& 31)) (pc + 1)) := by
  intro K L S I B h hc p l e R s m args below meth c Q nL D tys sz sc TT hT C hf hlo kk N ls st H locs μ hM hL hS hB1 hB2 hτ
  obtain ⟨y, x, S0, rfl, h⟩ := z_bin_eq h
  obtain ⟨u, st', rfl, rfl, u2, st2, rfl, rfl, hS⟩ := hS
  exact lv_ishl C.1 C.2.1 hd (kk _ _ _ _ _ h N _ _ _ _ _ hM hL ⟨_, _, rfl, rfl, hS⟩ hB1 hB2 (hT _ _ hτ (est hd (⟨_, _, _, rfl, rfl⟩))))
theorem zs_ishr (hd : decode cc pc = .ok (.ishr, 1)) : zSound g PX bd pre post d cc own pc (z_bin (fun x y => x >>> (y &&& 31)) (pc + 1)) := by
  intro K L S I B h hc p l e R s m args below meth c Q nL D tys sz sc TT hT C hf hlo kk N ls st H locs μ hM hL hS hB1 hB2 hτ
  obtain ⟨y, x, S0, rfl, h⟩ := z_bin_eq h
  obtain ⟨u, st', rfl, rfl, u2, st2, rfl, rfl, hS⟩ := hS
  exact lv_ishr C.1 C.2.1 hd (kk _ _ _ _ _ h N _ _ _ _ _ hM hL ⟨_, _, rfl, rfl, hS⟩ hB1 hB2 (hT _ _ hτ (est hd (⟨_, _, _, rfl, rfl⟩))))
theorem zs_iushr (hd : decode cc pc = .ok (.iushr, 1)) : zSound g PX bd pre post d cc own pc (z_bin (fun x y => (x.toUInt32 >>> (y.toUInt32 &&& Int32.toUInt32 31)).toInt32) (pc + 1)) := by
  intro K L S I B h hc p l e R s m args below meth c Q nL D tys sz sc TT hT C hf hlo kk N ls st H locs μ hM hL hS hB1 hB2 hτ
  obtain ⟨y, x, S0, rfl, h⟩ := z_bin_eq h
  obtain ⟨u, st', rfl, rfl, u2, st2, rfl, rfl, hS⟩ := hS
  exact lv_iushr C.1 C.2.1 hd rfl (kk _ _ _ _ _ h N _ _ _ _ _ hM hL ⟨_, _, rfl, rfl, hS⟩ hB1 hB2 (hT _ _ hτ (est hd (⟨_, _, _, rfl, rfl⟩))))
theorem zs_idiv (hd : decode cc pc = .ok (.idiv, 1)) : zSound g PX bd pre post d cc own pc (z_div (fun x y => x / y) (pc + 1)) := by
  intro K L S I B h hc p l e R s m args below meth c Q nL D tys sz sc TT hT C hf hlo kk N ls st H locs μ hM hL hS hB1 hB2 hτ
  unfold z_div at h
  split at h
  · obtain ⟨u, st', rfl, rfl, u2, st2, rfl, rfl, hS⟩ := hS
    exact lv_idiv C.1 C.2.1 hd h.1 (kk _ _ _ _ _ h.2 N _ _ _ _ _ hM hL ⟨_, _, rfl, rfl, hS⟩ hB1 hB2 (hT _ _ hτ (est hd (⟨_, _, _, rfl, h.1, rfl⟩))))
  · exact h.elim
theorem zs_irem (hd : decode cc pc = .ok (.irem, 1)) : zSound g PX bd pre post d cc own pc (z_div (fun x y => x - x / y * y) (pc + 1)) := by
  intro K L S I B h hc p l e R s m args below meth c Q nL D tys sz sc TT hT C hf hlo kk N ls st H locs μ hM hL hS hB1 hB2 hτ
  unfold z_div at h
  split at h
  · obtain ⟨u, st', rfl, rfl, u2, st2, rfl, rfl, hS⟩ := hS
    exact lv_irem C.1 C.2.1 hd h.1 (kk _ _ _ _ _ h.2 N _ _ _ _ _ hM hL ⟨_, _, rfl, rfl, hS⟩ hB1 hB2 (hT _ _ hτ (est hd (⟨_, _, _, rfl, h.1, rfl⟩))))
  · exact h.elim
theorem zs_i2b (hd : decode cc pc = .ok (.i2b, 1)) : zSound g PX bd pre post d cc own pc (z_un (fun x => x.toInt8.toInt32) (pc + 1)) := by
  intro K L S I B h hc p l e R s m args below meth c Q nL D tys sz sc TT hT C hf hlo kk N ls st H locs μ hM hL hS hB1 hB2 hτ
  unfold z_un at h
  split at h
  · obtain ⟨u, st', rfl, rfl, hS⟩ := hS
    exact lv_i2b C.1 C.2.1 hd rfl (kk _ _ _ _ _ h N _ _ _ _ _ hM hL ⟨_, _, rfl, rfl, hS⟩ hB1 hB2 (hT _ _ hτ (est hd (⟨_, _, rfl, rfl⟩))))
  · exact h.elim
theorem zs_dup (hd : decode cc pc = .ok (.dup, 1)) : zSound g PX bd pre post d cc own pc (z_dup (pc + 1)) := by
  intro K L S I B h hc p l e R s m args below meth c Q nL D tys sz sc TT hT C hf hlo kk N ls st H locs μ hM hL hS hB1 hB2 hτ
  unfold z_dup at h
  split at h
  · obtain ⟨u, st', rfl, hu, hS⟩ := hS
    exact lv_dup C.1 C.2.1 hd (zRV1 hu h.1) (kk _ _ _ _ _ h.2 N _ _ _ _ _ hM hL ⟨_, _, rfl, hu, _, _, rfl, hu, hS⟩ hB1 hB2 (hT _ _ hτ (est hd (⟨_, _, rfl, rfl⟩))))
  · exact h.elim
theorem zs_pop (hd : decode cc pc = .ok (.pop, 1)) : zSound g PX bd pre post d cc own pc (z_pop (pc + 1)) := by
  intro K L S I B h hc p l e R s m args below meth c Q nL D tys sz sc TT hT C hf hlo kk N ls st H locs μ hM hL hS hB1 hB2 hτ
  unfold z_pop at h
  split at h
  · obtain ⟨u, st', rfl, hu, hS⟩ := hS
    exact lv_pop C.1 C.2.1 hd (zRV1 hu h.1) (kk _ _ _ _ _ h.2 N _ _ _ _ _ hM hL hS hB1 hB2 (hT _ _ hτ (est hd (⟨_, _, rfl, rfl⟩))))
  · exact h.elim
theorem zs_dup2 (hd : decode cc pc = .ok (.dup2, 1)) : zSound g PX bd pre post d cc own pc (z_dup2 (pc + 1)) := by
  intro K L S I B h hc p l e R s m args below meth c Q nL D tys sz sc TT hT C hf hlo kk N ls st H locs μ hM hL hS hB1 hB2 hτ
  unfold z_dup2 at h
  split at h
  · obtain ⟨u, st', rfl, hu, u2, st2, rfl, hu2, hS⟩ := hS
    exact lv_dup2_11 C.1 C.2.1 hd (zRV1 hu h.1) (zRV1 hu2 h.2.1) (kk _ _ _ _ _ h.2.2 N _ _ _ _ _ hM hL ⟨_, _, rfl, hu, _, _, rfl, hu2, _, _, rfl, hu, _, _, rfl, hu2, hS⟩ hB1 hB2 (hT _ _ hτ (est hd (⟨_, _, _, rfl, rfl⟩))))
  · exact h.elim
theorem zs_goto {off : Int} {t : Nat} (hd : decode cc pc = .ok (.goto off, 3)) (ht : (pc : Int) + off = (t : Int)) : zSound g PX bd pre post d cc own pc (z_goto t) := by
  intro K L S I B h hc p l e R s m args below meth c Q nL D tys sz sc TT hT C hf hlo kk N ls st H locs μ hM hL hS hB1 hB2 hτ
  exact lv_goto C.1 C.2.1 hd ht (kk _ _ _ _ _ h N _ _ _ _ _ hM hL hS hB1 hB2 (hT _ _ hτ (est hd (⟨_, ht, rfl⟩))))
theorem zs_ifnonnull {off : Int} {t : Nat} (hd : decode cc pc = .ok (.ifnonnull off, 3)) (ht : (pc : Int) + off = (t : Int)) : zSound g PX bd pre post d cc own pc (z_ifnonnull t (pc + 3)) := by
  intro K L S I B h hc p l e R s m args below meth c Q nL D tys sz sc TT hT C hf hlo kk N ls st H locs μ hM hL hS hB1 hB2 hτ
  unfold z_ifnonnull at h
  split at h
  · obtain ⟨u, st', rfl, rfl, hS⟩ := hS
    exact lv_ifnonnullN C.1 C.2.1 hd (kk _ _ _ _ _ h N _ _ _ _ _ hM hL hS hB1 hB2 (hT _ _ hτ (est hd (⟨_, _, _, rfl, ht, Or.inl ⟨rfl, rfl⟩⟩))))
  · obtain ⟨u, st', rfl, ⟨rfl, -⟩, hS⟩ := hS
    exact lv_ifnonnull C.1 C.2.1 hd ht (kk _ _ _ _ _ h N _ _ _ _ _ hM hL hS hB1 hB2 (hT _ _ hτ (est hd (⟨_, _, _, rfl, ht, Or.inr ⟨(fun q => by cases q), rfl⟩⟩))))
  · exact h.elim
end ZS1
