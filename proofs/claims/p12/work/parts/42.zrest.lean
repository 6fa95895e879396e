/-! more longs, lookupswitch, arraycopy -/
def zlook (ps : List (Int × Nat)) (df : Nat) (x : Int) : Nat := match ps with
  | [] => df
  | q :: ps => if x = q.1 then q.2 else zlook ps df x
def z_lsw (ps : List (Int × Nat)) (df : Nat) : zF := fun K L S I B => match S with
  | .inl x :: S => K (zlook ps df x.toInt) L S I B
  | _ => False
def z_lcmp (n : Nat) : zF := fun K L S I B => match S with
  | .inr (.inr y) :: .inr (.inr x) :: S => K n L (.inl (lg_cmp x y) :: S) I B
  | _ => False
/-- a long's local: no long stands before it -/
def z_lstore (i n : Nat) : zF := fun K L S I B => match S with
  | .inr (.inr x) :: S => (i + 1 < L.length ∧ zlg L[i - 1]? = false) ∧ K n ((L.set i (some (.inr (.inr x)))).set (i + 1) none) S I B
  | _ => False
/-- a whole array over another -/
def zcp (g : zG) (I : zI) (k0 k1 n : Nat) : zI := fun id => if g.2.2.2.2.2 k1 = true ∧ zid k1 0 ≤ id ∧ id < zid k1 n then I (zid k0 (id - zid k1 0)) else I id
def z_copy (g : zG) (n : Nat) : zF := fun K L S I B => match S with
  | .inl k :: .inl dp :: .inr (.inl (some a)) :: .inl sp :: .inr (.inl (some a0)) :: S => (match g.2.1 (g.1 a0) with
    | .inr (t0, n0) => (match g.2.1 (g.1 a) with
      | .inr (t, len) => t0 = 0 ∧ t = 0 ∧ zcat S ≤ 8 ∧ sp = 0 ∧ dp = 0 ∧ k = Int32.ofNat len ∧ len ≤ n0 ∧ g.2.2.2.2.2 (g.1 a) = g.2.2.2.2.2 (g.1 a0) ∧ (g.2.2.2.2.2 (g.1 a0) = false → ∀ (j : Nat) (v : Int32), j < len → g.2.2.1 (g.1 a0) j v → g.2.2.1 (g.1 a) j v) ∧ K n L S (zcp g I (g.1 a0) (g.1 a) len) B
      | .inl _ => False)
    | .inl _ => False)
  | _ => False
section ZS8
variable {g : zG} {PX : xPX} {bd : Nat → Nat × Nat} {pre : zPre} {post : zPost} {d : Nat × Nat × Nat} {cc : ByteArray} {own : String} {pc : Nat}
theorem zlook_ok {pc : Nat} {dflt : Int} {df : Nat} (hdf : (pc : Int) + dflt = (df : Int)) {x : Int} : ∀ (ps : List (Int × Int)) (ts : List (Int × Nat)), ps.length = ts.length → (∀ (i : Nat) (q : Int × Int) (t : Int × Nat), ps[i]? = some q → ts[i]? = some t → q.1 = t.1 ∧ (pc : Int) + q.2 = (t.2 : Int)) → (pc : Int) + Op.lookupswitch.offset ps dflt x = (zlook ts df x : Int)
  | [], [], _, _ => by show (pc : Int) + dflt = _; exact hdf
  | q :: ps, t :: ts, hl, h => by
    obtain ⟨e1, e2⟩ := h 0 q t rfl rfl
    have ih := zlook_ok hdf (x := x) ps ts (by simpa using hl) (fun i q t h1 h2 => h (i + 1) q t h1 h2)
    obtain ⟨q1, q2⟩ := q
    obtain ⟨t1, t2⟩ := t
    cases e1
    by_cases hx : x = q1
    · subst hx
      simp only [zlook, if_true]
      rw [← e2]
      simp [Op.lookupswitch.offset]
    · simp only [zlook, if_neg hx]
      rw [← ih]
      simp [Op.lookupswitch.offset, Ne.symm hx, hx]
theorem zs_lsw {dflt : Int} {ps : Array (Int × Int)} {len df : Nat} {ts : List (Int × Nat)} (hd : decode cc pc = .ok (.lookupswitch dflt ps, len)) (hp : (ps.toList.zip (ps.toList.drop 1)).all (fun (a, next) => a.1 < next.1) = true) (hdf : (pc : Int) + dflt = (df : Int)) (hl : ps.toList.length = ts.length) (hts : ∀ (i : Nat) (q : Int × Int) (t : Int × Nat), ps.toList[i]? = some q → ts[i]? = some t → q.1 = t.1 ∧ (pc : Int) + q.2 = (t.2 : Int)) : zSound g PX bd pre post d cc own pc (z_lsw ts df) := by
  intro K L S I B h hc p l e R s m args below meth c Q nL D tys sz sc TT hT C hf hlo kk N ls st H locs μ hM hL hS hB1 hB2 hτ
  unfold z_lsw at h
  split at h
  · obtain ⟨u, st', rfl, rfl, hS⟩ := hS
    exact lv_lookup C.1 C.2.1 hd hp rfl (zlook_ok hdf ps.toList ts hl hts) (kk _ _ _ _ _ h N _ _ _ _ _ hM hL hS hB1 hB2 (hT _ _ hτ (est hd (⟨_, _, _, rfl, rfl, zlook_ok hdf ps.toList ts hl hts⟩))))
  · exact h.elim
theorem zs_lcmp (hd : decode cc pc = .ok (.lcmp, 1)) : zSound g PX bd pre post d cc own pc (z_lcmp (pc + 1)) := by
  intro K L S I B h hc p l e R s m args below meth c Q nL D tys sz sc TT hT C hf hlo kk N ls st H locs μ hM hL hS hB1 hB2 hτ
  unfold z_lcmp at h
  split at h
  · obtain ⟨u, st', rfl, rfl, u2, st2, rfl, rfl, hS⟩ := hS
    exact W.lcmp C.1 C.2.1 hd (kk _ _ _ _ _ h N _ _ _ _ _ hM hL ⟨_, _, rfl, rfl, hS⟩ hB1 hB2 (hT _ _ hτ (est hd (⟨_, _, _, rfl, rfl⟩))))
  · exact h.elim
theorem zs_ldiv (hd : decode cc pc = .ok (.ldiv, 1)) : zSound g PX bd pre post d cc own pc (z_ldv (fun x y => x / y) (pc + 1)) := by
  intro K L S I B h hc p l e R s m args below meth c Q nL D tys sz sc TT hT C hf hlo kk N ls st H locs μ hM hL hS hB1 hB2 hτ
  unfold z_ldv at h
  split at h
  · obtain ⟨u, st', rfl, rfl, u2, st2, rfl, rfl, hS⟩ := hS
    exact lv_ldiv C.1 C.2.1 hd h.1 (kk _ _ _ _ _ h.2 N _ _ _ _ _ hM hL ⟨_, _, rfl, rfl, hS⟩ hB1 hB2 (hT _ _ hτ (est hd (⟨_, _, _, rfl, rfl⟩))))
  · exact h.elim
theorem zs_lrem (hd : decode cc pc = .ok (.lrem, 1)) : zSound g PX bd pre post d cc own pc (z_ldv (fun x y => x - x / y * y) (pc + 1)) := by
  intro K L S I B h hc p l e R s m args below meth c Q nL D tys sz sc TT hT C hf hlo kk N ls st H locs μ hM hL hS hB1 hB2 hτ
  unfold z_ldv at h
  split at h
  · obtain ⟨u, st', rfl, rfl, u2, st2, rfl, rfl, hS⟩ := hS
    exact lv_lrem C.1 C.2.1 hd h.1 (kk _ _ _ _ _ h.2 N _ _ _ _ _ hM hL ⟨_, _, rfl, rfl, hS⟩ hB1 hB2 (hT _ _ hτ (est hd (⟨_, _, _, rfl, rfl⟩))))
  · exact h.elim
theorem zs_i2c (hd : decode cc pc = .ok (.i2c, 1)) : zSound g PX bd pre post d cc own pc (z_un (fun x => (x.toUInt32 % 65536).toInt32) (pc + 1)) := by
  intro K L S I B h hc p l e R s m args below meth c Q nL D tys sz sc TT hT C hf hlo kk N ls st H locs μ hM hL hS hB1 hB2 hτ
  unfold z_un at h
  split at h
  · obtain ⟨u, st', rfl, rfl, hS⟩ := hS
    exact lv_i2c C.1 C.2.1 hd rfl (kk _ _ _ _ _ h N _ _ _ _ _ hM hL ⟨_, _, rfl, rfl, hS⟩ hB1 hB2 (hT _ _ hτ (est hd (⟨_, _, rfl, rfl⟩))))
  · exact h.elim
theorem zRL_st2 {sz N nL i : Nat} {L : zL} {ls' : Array Slot} {lv : List (Nat × Value)} {x : Int64} (hst : i + 1 < L.length ∧ zlg L[i - 1]? = false) (hlen : L.length = nL) (hl : ∀ (i : Nat) (v : zV), L[i]? = some (some v) → ∃ u : Value, (i, u) ∈ lv ∧ zRV sz N v u)
    (h' : lv_has ls' nL ((i, Value.long x) :: lv.filter (fun q => !(q.1 == i) && (!(q.1 == i + 1) && !(q.1 + 1 == i && q.2.category == 2))))) : zRL sz N ((L.set i (some (.inr (.inr x)))).set (i + 1) none) ls' nL := by
  obtain ⟨h1, h2⟩ := hst
  refine ⟨by rw [List.length_set, List.length_set]; exact hlen, _, h', fun j v' hj => ?_⟩
  by_cases hji1 : j = i + 1
  · subst hji1
    rw [List.getElem?_set_self (by rw [List.length_set]; exact h1)] at hj
    cases hj
  · rw [List.getElem?_set_ne (Ne.symm hji1)] at hj
    by_cases hji : j = i
    · subst hji
      rw [List.getElem?_set_self (by omega)] at hj
      cases hj
      exact ⟨_, List.mem_cons_self, rfl⟩
    · rw [List.getElem?_set_ne (Ne.symm hji)] at hj
      obtain ⟨u', h3, h4⟩ := hl j v' hj
      refine ⟨u', List.mem_cons_of_mem _ (List.mem_filter.mpr ⟨h3, ?_⟩), h4⟩
      have e1 : (j == i) = false := by simpa using hji
      have e2 : (j == i + 1) = false := by simpa using hji1
      simp only [e1, e2, Bool.not_false, Bool.true_and]
      by_cases hj1 : j + 1 = i
      · have hv1 : z1 v' = true := by
          have e : L[i - 1]? = some (some v') := by rw [show i - 1 = j by omega]; exact hj
          rw [e] at h2
          match v', h2 with
          | .inl a, _ => rfl
          | .inr (.inl r), _ => rfl
        have hc := zRV1 h4 hv1
        simp [hc]
      · simp [hj1]
theorem z_lstore_eq {i n : Nat} {K : zK} {L : zL} {S : List zV} {I : zI} {B : Nat × Nat} (h : z_lstore i n K L S I B) : ∃ x S0, S = .inr (.inr x) :: S0 ∧ (i + 1 < L.length ∧ zlg L[i - 1]? = false) ∧ K n ((L.set i (some (.inr (.inr x)))).set (i + 1) none) S0 I B := by
  unfold z_lstore at h
  split at h
  · exact ⟨_, _, rfl, h⟩
  · exact h.elim
theorem zs_lstore_n {k : Fin 4} (hd : decode cc pc = .ok (.lstore_n k, 1)) : zSound g PX bd pre post d cc own pc (z_lstore k (pc + 1)) := by
  intro K L S I B h hc p l e R s m args below meth c Q nL D tys sz sc TT hT C hf hlo kk N ls st H locs μ hM hL hS hB1 hB2 hτ
  obtain ⟨x, S0, rfl, hst, h⟩ := z_lstore_eq h
  obtain ⟨u, st', rfl, rfl, hS⟩ := hS
  obtain ⟨hlen, lv, hlv, hl⟩ := hL
  exact lv_lstore_n C.1 C.2.1 hd rfl hlv (hlen ▸ hst.1) rfl (fun ls' h' => kk _ _ _ _ _ h N _ _ _ _ _ hM (zRL_st2 hst hlen hl h') hS hB1 hB2 (hT _ _ hτ (est hd (⟨_, _, rfl, rfl⟩))))
theorem zs_lstore {i : Nat} (hd : decode cc pc = .ok (.lstore i, 2)) : zSound g PX bd pre post d cc own pc (z_lstore i (pc + 2)) := by
  intro K L S I B h hc p l e R s m args below meth c Q nL D tys sz sc TT hT C hf hlo kk N ls st H locs μ hM hL hS hB1 hB2 hτ
  obtain ⟨x, S0, rfl, hst, h⟩ := z_lstore_eq h
  obtain ⟨u, st', rfl, rfl, hS⟩ := hS
  obtain ⟨hlen, lv, hlv, hl⟩ := hL
  exact lv_lstore C.1 C.2.1 hd hlv (hlen ▸ hst.1) rfl (fun ls' h' => kk _ _ _ _ _ h N _ _ _ _ _ hM (zRL_st2 hst hlen hl h') hS hB1 hB2 (hT _ _ hτ (est hd (⟨_, _, rfl, rfl⟩))))
end ZS8
