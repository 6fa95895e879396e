section XS2
variable {PX : xPX} {G : State → Nat → Nat → Prop} {cc : ByteArray} {own : String} {ini : Bool} {pc : Nat}
theorem xst_eq {L L' : List (Option xV)} {i : Nat} {v : xV} (h : xst L i v = some L') : i < L.length ∧ xlg (xget L (i - 1)) = false ∧ L' = L.set i (some v) := by
  unfold xst at h
  split at h
  · cases h
  · rename_i o ho
    rw [xget_eq] at ho
    cases hb : xlg (xget L (i - 1)) with
    | true => rw [hb] at h; cases h
    | false =>
      rw [hb] at h
      have h := (Option.some.inj h).symm
      rw [xset_eq] at h
      exact ⟨(List.getElem?_eq_some_iff.mp ho).1, rfl, h⟩
/-- a value is stored: what the locals are then -/
theorem xRL_st {sz b nL i : Nat} {L L' : List (Option xV)} {ls : Array Slot} {lv : List (Nat × Value)} {v : xV} {u : Value} (hst : xst L i v = some L') (hlen : L.length = nL) (hl : ∀ (i : Nat) (v : xV), xget L i = some (some v) → ∃ u : Value, (i, u) ∈ lv ∧ xRV sz b v u) (hv : xRV sz b v u) {ls' : Array Slot}
    (h' : lv_has ls' nL ((i, u) :: lv.filter (fun q => !(q.1 == i) && !(q.1 + 1 == i && q.2.category == 2)))) : xRL sz b L' ls' nL := by
  obtain ⟨h1, h2, rfl⟩ := xst_eq hst
  refine ⟨by rw [List.length_set]; exact hlen, _, h', fun j v' hj => ?_⟩
  rw [xget_eq] at hj
  by_cases hji : j = i
  · subst hji
    rw [List.getElem?_set_self h1] at hj
    cases hj
    exact ⟨u, List.mem_cons_self, hv⟩
  · rw [List.getElem?_set_ne (Ne.symm hji), ← xget_eq] at hj
    obtain ⟨u', h3, h4⟩ := hl j v' hj
    refine ⟨u', List.mem_cons_of_mem _ (List.mem_filter.mpr ⟨h3, ?_⟩), h4⟩
    have e1 : (j == i) = false := by simpa using hji
    simp only [e1, Bool.not_false, Bool.true_and]
    by_cases hj1 : j + 1 = i
    · have hv1 : x1 v' = true := by
        have e : xget L (i - 1) = some (some v') := by rw [show i - 1 = j by omega]; exact hj
        rw [e] at h2
        match v', h2 with
        | .inl a, _ => rfl
        | .inr (.inl r), _ => rfl
        | .inr (.inr 0), _ => rfl
        | .inr (.inr (k + 1)), h2 => cases h2
      have hc := xRV1 h4 hv1
      simp [hc]
    · simp [hj1]
theorem x_istore_eq {i n : Nat} {call : xC} {L : List (Option xV)} {S : List xV} {w : xW} {r : xS} (h : x_istore i n call L S w = some r) : ∃ a S0 L1, S = .inl a :: S0 ∧ xst L i (.inl a) = some L1 ∧ r = (n, L1, S0, w) := by
  unfold x_istore at h
  split at h
  · split at h
    · rename_i L1 hL1
      exact ⟨_, _, L1, rfl, hL1, (Option.some.inj h).symm⟩
    · cases h
  · cases h
theorem s_istore_n {k : Fin 4} (hd : decode cc pc = .ok (.istore_n k, 1)) : xSound PX G cc own ini pc (x_istore k (pc + 1)) := by
  intro call d hc L S w pc' L' S' w' h
  obtain ⟨a, S0, L1, rfl, hst, hr⟩ := x_istore_eq h
  cases hr
  refine ⟨xLe_rf, ?_⟩
  intro p l e R s m args below meth c Q nL D tys sz b c0 s0 C hG hf hlo h1 h2 ls st H locs cells slots hM hL hS kk
  obtain ⟨u, st', rfl, ⟨x, rfl, hx⟩, hS⟩ := hS
  obtain ⟨hlen, lv, hlv, hl⟩ := hL
  exact lv_istore_n C.1 C.2.1 hd rfl hlv (hlen ▸ (xst_eq hst).1) rfl (fun ls' h' => kk _ _ _ _ _ _ hM (xRL_st (ls := ls) hst hlen hl ⟨x, rfl, hx⟩ h') hS)
theorem s_istore {i : Nat} (hd : decode cc pc = .ok (.istore i, 2)) : xSound PX G cc own ini pc (x_istore i (pc + 2)) := by
  intro call d hc L S w pc' L' S' w' h
  obtain ⟨a, S0, L1, rfl, hst, hr⟩ := x_istore_eq h
  cases hr
  refine ⟨xLe_rf, ?_⟩
  intro p l e R s m args below meth c Q nL D tys sz b c0 s0 C hG hf hlo h1 h2 ls st H locs cells slots hM hL hS kk
  obtain ⟨u, st', rfl, ⟨x, rfl, hx⟩, hS⟩ := hS
  obtain ⟨hlen, lv, hlv, hl⟩ := hL
  exact lv_istore C.1 C.2.1 hd hlv (hlen ▸ (xst_eq hst).1) rfl (fun ls' h' => kk _ _ _ _ _ _ hM (xRL_st (ls := ls) hst hlen hl ⟨x, rfl, hx⟩ h') hS)
theorem x_astore_eq {i n : Nat} {call : xC} {L : List (Option xV)} {S : List xV} {w : xW} {r : xS} (h : x_astore i n call L S w = some r) : ∃ a S0 L1, S = .inr (.inl a) :: S0 ∧ xst L i (.inr (.inl a)) = some L1 ∧ r = (n, L1, S0, w) := by
  unfold x_astore at h
  split at h
  · split at h
    · rename_i L1 hL1
      exact ⟨_, _, L1, rfl, hL1, (Option.some.inj h).symm⟩
    · cases h
  · cases h
theorem s_astore_n {k : Fin 4} (hd : decode cc pc = .ok (.astore_n k, 1)) : xSound PX G cc own ini pc (x_astore k (pc + 1)) := by
  intro call d hc L S w pc' L' S' w' h
  obtain ⟨a, S0, L1, rfl, hst, hr⟩ := x_astore_eq h
  cases hr
  refine ⟨xLe_rf, ?_⟩
  intro p l e R s m args below meth c Q nL D tys sz b c0 s0 C hG hf hlo h1 h2 ls st H locs cells slots hM hL hS kk
  obtain ⟨u, st', rfl, hu, hS⟩ := hS
  obtain ⟨hlen, lv, hlv, hl⟩ := hL
  cases a with
  | none =>
    cases hu
    exact lv_astore_nN C.1 C.2.1 hd rfl hlv (hlen ▸ (xst_eq hst).1) rfl (fun ls' h' => kk _ _ _ _ _ _ hM (xRL_st (ls := ls) (u := .null) hst hlen hl rfl h') hS)
  | some a =>
    cases hu
    exact lv_astore_n C.1 C.2.1 hd rfl hlv (hlen ▸ (xst_eq hst).1) rfl (fun ls' h' => kk _ _ _ _ _ _ hM (xRL_st (ls := ls) (u := .ref (sz + a)) hst hlen hl rfl h') hS)
theorem s_astore {i : Nat} (hd : decode cc pc = .ok (.astore i, 2)) : xSound PX G cc own ini pc (x_astore i (pc + 2)) := by
  intro call d hc L S w pc' L' S' w' h
  obtain ⟨a, S0, L1, rfl, hst, hr⟩ := x_astore_eq h
  cases hr
  refine ⟨xLe_rf, ?_⟩
  intro p l e R s m args below meth c Q nL D tys sz b c0 s0 C hG hf hlo h1 h2 ls st H locs cells slots hM hL hS kk
  obtain ⟨u, st', rfl, hu, hS⟩ := hS
  obtain ⟨hlen, lv, hlv, hl⟩ := hL
  cases a with
  | none =>
    cases hu
    exact lv_astoreN C.1 C.2.1 hd hlv (hlen ▸ (xst_eq hst).1) rfl (fun ls' h' => kk _ _ _ _ _ _ hM (xRL_st (ls := ls) (u := .null) hst hlen hl rfl h') hS)
  | some a =>
    cases hu
    exact lv_astore C.1 C.2.1 hd hlv (hlen ▸ (xst_eq hst).1) rfl (fun ls' h' => kk _ _ _ _ _ _ hM (xRL_st (ls := ls) (u := .ref (sz + a)) hst hlen hl rfl h') hS)
theorem s_iinc {i : Nat} {n : Int} {k : Nat} (hd : decode cc pc = .ok (.iinc i n, 3)) (hk : xo (Int32.ofInt n) = k) : xSound PX G cc own ini pc (x_iinc i k (pc + 3)) := by
  intro call d hc L S w pc' L' S' w' h
  unfold x_iinc at h
  split at h
  · rename_i a ha
    split at h
    · rename_i L1 hst
      cases h
      refine ⟨xLe_rf, ?_⟩
      intro p l e R s m args below meth c Q nL D tys sz b c0 s0 C hG hf hlo h1 h2 ls st H locs cells slots hM hL hS kk
      obtain ⟨hlen, lv, hlv, hl⟩ := hL
      obtain ⟨u, hm, x, rfl, hx⟩ := hl i _ ha
      obtain ⟨q, hq⟩ := List.getElem?_of_mem hm
      exact lv_iinc C.1 C.2.1 hd hlv hq rfl (hlen ▸ (xst_eq hst).1) rfl (fun ls' h' => kk _ _ _ _ _ _ hM (xRL_st (ls := ls) hst hlen hl ⟨_, rfl, xbin_ok hx (hk ▸ xRI_c (Int32.ofInt n)) (xo_add _ _)⟩ h') hS)
    · cases h
  · cases h
theorem x_bin_eq {f : Nat → Nat → Nat} {n : Nat} {call : xC} {L : List (Option xV)} {S : List xV} {w : xW} {r : xS} (h : x_bin f n call L S w = some r) : ∃ b a S0, S = .inl b :: .inl a :: S0 ∧ r = (n, L, .inl (xbin f a b) :: S0, w) := by
  unfold x_bin at h
  split at h
  · exact ⟨_, _, _, rfl, (Option.some.inj h).symm⟩
  · cases h
theorem s_iadd (hd : decode cc pc = .ok (.iadd, 1)) : xSound PX G cc own ini pc (x_bin xfadd (pc + 1)) := by
  intro call d hc L S w pc' L' S' w' h
  obtain ⟨b2, a2, S0, rfl, hr⟩ := x_bin_eq h
  cases hr
  refine ⟨xLe_rf, ?_⟩
  intro p l e R s m args below meth c Q nL D tys sz b c0 s0 C hG hf hlo h1 h2 ls st H locs cells slots hM hL hS kk
  obtain ⟨u, st', rfl, ⟨y, rfl, hy⟩, u2, st2, rfl, ⟨x, rfl, hx⟩, hS⟩ := hS
  exact lv_iadd C.1 C.2.1 hd (kk _ _ _ _ _ _ hM hL ⟨_, _, rfl, ⟨_, rfl, xbin_ok hx hy (xo_add x y)⟩, hS⟩)
theorem s_isub (hd : decode cc pc = .ok (.isub, 1)) : xSound PX G cc own ini pc (x_bin xfsub (pc + 1)) := by
  intro call d hc L S w pc' L' S' w' h
  obtain ⟨b2, a2, S0, rfl, hr⟩ := x_bin_eq h
  cases hr
  refine ⟨xLe_rf, ?_⟩
  intro p l e R s m args below meth c Q nL D tys sz b c0 s0 C hG hf hlo h1 h2 ls st H locs cells slots hM hL hS kk
  obtain ⟨u, st', rfl, ⟨y, rfl, hy⟩, u2, st2, rfl, ⟨x, rfl, hx⟩, hS⟩ := hS
  exact lv_isub C.1 C.2.1 hd (kk _ _ _ _ _ _ hM hL ⟨_, _, rfl, ⟨_, rfl, xbin_ok hx hy (xo_sub x y)⟩, hS⟩)
theorem s_imul (hd : decode cc pc = .ok (.imul, 1)) : xSound PX G cc own ini pc (x_bin (xfg (fun x y => x * y)) (pc + 1)) := by
  intro call d hc L S w pc' L' S' w' h
  obtain ⟨b2, a2, S0, rfl, hr⟩ := x_bin_eq h
  cases hr
  refine ⟨xLe_rf, ?_⟩
  intro p l e R s m args below meth c Q nL D tys sz b c0 s0 C hG hf hlo h1 h2 ls st H locs cells slots hM hL hS kk
  obtain ⟨u, st', rfl, ⟨y, rfl, hy⟩, u2, st2, rfl, ⟨x, rfl, hx⟩, hS⟩ := hS
  exact lv_imul C.1 C.2.1 hd (kk _ _ _ _ _ _ hM hL ⟨_, _, rfl, ⟨_, rfl, xbin_ok hx hy (xfg_ok (fun x y => x * y) x y)⟩, hS⟩)
theorem s_iand (hd : decode cc pc = .ok (.iand, 1)) : xSound PX G cc own ini pc (x_bin (xfg (fun x y => x &&& y)) (pc + 1)) := by
  intro call d hc L S w pc' L' S' w' h
  obtain ⟨b2, a2, S0, rfl, hr⟩ := x_bin_eq h
  cases hr
  refine ⟨xLe_rf, ?_⟩
  intro p l e R s m args below meth c Q nL D tys sz b c0 s0 C hG hf hlo h1 h2 ls st H locs cells slots hM hL hS kk
  obtain ⟨u, st', rfl, ⟨y, rfl, hy⟩, u2, st2, rfl, ⟨x, rfl, hx⟩, hS⟩ := hS
  exact lv_iand C.1 C.2.1 hd (kk _ _ _ _ _ _ hM hL ⟨_, _, rfl, ⟨_, rfl, xbin_ok hx hy (xfg_ok (fun x y => x &&& y) x y)⟩, hS⟩)
theorem s_ior (hd : decode cc pc = .ok (.ior, 1)) : xSound PX G cc own ini pc (x_bin (xfg (fun x y => x ||| y)) (pc + 1)) := by
  intro call d hc L S w pc' L' S' w' h
  obtain ⟨b2, a2, S0, rfl, hr⟩ := x_bin_eq h
  cases hr
  refine ⟨xLe_rf, ?_⟩
  intro p l e R s m args below meth c Q nL D tys sz b c0 s0 C hG hf hlo h1 h2 ls st H locs cells slots hM hL hS kk
  obtain ⟨u, st', rfl, ⟨y, rfl, hy⟩, u2, st2, rfl, ⟨x, rfl, hx⟩, hS⟩ := hS
  exact lv_ior C.1 C.2.1 hd (kk _ _ _ _ _ _ hM hL ⟨_, _, rfl, ⟨_, rfl, xbin_ok hx hy (xfg_ok (fun x y => x ||| y) x y)⟩, hS⟩)
theorem s_ixor (hd : decode cc pc = .ok (.ixor, 1)) : xSound PX G cc own ini pc (x_bin (xfg (fun x y => x ^^^ y)) (pc + 1)) := by
  intro call d hc L S w pc' L' S' w' h
  obtain ⟨b2, a2, S0, rfl, hr⟩ := x_bin_eq h
  cases hr
  refine ⟨xLe_rf, ?_⟩
  intro p l e R s m args below meth c Q nL D tys sz b c0 s0 C hG hf hlo h1 h2 ls st H locs cells slots hM hL hS kk
  obtain ⟨u, st', rfl, ⟨y, rfl, hy⟩, u2, st2, rfl, ⟨x, rfl, hx⟩, hS⟩ := hS
  exact lv_ixor C.1 C.2.1 hd (kk _ _ _ _ _ _ hM hL ⟨_, _, rfl, ⟨_, rfl, xbin_ok hx hy (xfg_ok (fun x y => x ^^^ y) x y)⟩, hS⟩)
theorem s_ishl (hd : decode cc pc = .ok (.ishl, 1)) : xSound PX G cc own ini pc (x_bin (xfg (fun x y => x <<< (y &&& 31))) (pc + 1)) := by
  intro call d hc L S w pc' L' S' w' h
  obtain ⟨b2, a2, S0, rfl, hr⟩ := x_bin_eq h
  cases hr
  refine ⟨xLe_rf, ?_⟩
  intro p l e R s m args below meth c Q nL D tys sz b c0 s0 C hG hf hlo h1 h2 ls st H locs cells slots hM hL hS kk
  obtain ⟨u, st', rfl, ⟨y, rfl, hy⟩, u2, st2, rfl, ⟨x, rfl, hx⟩, hS⟩ := hS
  exact lv_ishl C.1 C.2.1 hd (kk _ _ _ _ _ _ hM hL ⟨_, _, rfl, ⟨_, rfl, xbin_ok hx hy (xfg_ok (fun x y => x <<< (y &&& 31)) x y)⟩, hS⟩)
theorem s_ishr (hd : decode cc pc = .ok (.ishr, 1)) : xSound PX G cc own ini pc (x_bin (xfg (fun x y => x >>> (y &&& 31))) (pc + 1)) := by
  intro call d hc L S w pc' L' S' w' h
  obtain ⟨b2, a2, S0, rfl, hr⟩ := x_bin_eq h
  cases hr
  refine ⟨xLe_rf, ?_⟩
  intro p l e R s m args below meth c Q nL D tys sz b c0 s0 C hG hf hlo h1 h2 ls st H locs cells slots hM hL hS kk
  obtain ⟨u, st', rfl, ⟨y, rfl, hy⟩, u2, st2, rfl, ⟨x, rfl, hx⟩, hS⟩ := hS
  exact lv_ishr C.1 C.2.1 hd (kk _ _ _ _ _ _ hM hL ⟨_, _, rfl, ⟨_, rfl, xbin_ok hx hy (xfg_ok (fun x y => x >>> (y &&& 31)) x y)⟩, hS⟩)
theorem s_iushr (hd : decode cc pc = .ok (.iushr, 1)) : xSound PX G cc own ini pc (x_bin (xfg (fun x y => (x.toUInt32 >>> (y.toUInt32 &&& Int32.toUInt32 31)).toInt32)) (pc + 1)) := by
  intro call d hc L S w pc' L' S' w' h
  obtain ⟨b2, a2, S0, rfl, hr⟩ := x_bin_eq h
  cases hr
  refine ⟨xLe_rf, ?_⟩
  intro p l e R s m args below meth c Q nL D tys sz b c0 s0 C hG hf hlo h1 h2 ls st H locs cells slots hM hL hS kk
  obtain ⟨u, st', rfl, ⟨y, rfl, hy⟩, u2, st2, rfl, ⟨x, rfl, hx⟩, hS⟩ := hS
  exact lv_iushr C.1 C.2.1 hd rfl (kk _ _ _ _ _ _ hM hL ⟨_, _, rfl, ⟨_, rfl, xbin_ok hx hy (xfg_ok (fun x y => (x.toUInt32 >>> (y.toUInt32 &&& Int32.toUInt32 31)).toInt32) x y)⟩, hS⟩)
theorem s_irem (hd : decode cc pc = .ok (.irem, 1)) : xSound PX G cc own ini pc (x_rem (pc + 1)) := by
  intro call d hc L S w pc' L' S' w' h
  unfold x_rem at h
  split at h
  · rename_i b2 a2 S0
    cases hcnd : (Nat.beq a2.1 a2.2 && (Nat.beq b2.1 b2.2 && (Nat.ble 2147483648 a2.1 && Nat.blt 2147483648 b2.1))) with
    | false => rw [hcnd] at h; cases h
    | true =>
      rw [hcnd] at h
      cases h
      simp only [Bool.and_eq_true, Nat.beq_eq] at hcnd
      obtain ⟨q1, q2, q3, q4⟩ := hcnd
      have q3 := xble q3
      have q4 := xblt q4
      refine ⟨xLe_rf, ?_⟩
      intro p l e R s m args below meth c Q nL D tys sz b c0 s0 C hG hf hlo h1 h2 ls st H locs cells slots hM hL hS kk
      obtain ⟨u, st', rfl, ⟨y, rfl, hy⟩, u2, st2, rfl, ⟨x, rfl, hx⟩, hS⟩ := hS
      have ex : xo x = a2.1 := Nat.le_antisymm (by rw [q1]; exact hx.2) hx.1
      have ey : xo y = b2.1 := Nat.le_antisymm (by rw [q2]; exact hy.2) hy.1
      have lx := xo_lt x
      have ly := xo_lt y
      have nx : x = nI (a2.1 - 2147483648) := xo_inj (by rw [ex, show nI (a2.1 - 2147483648) = Int32.ofNat (a2.1 - 2147483648) from rfl, xo_nat (by omega)]; omega)
      have ny : y = nI (b2.1 - 2147483648) := xo_inj (by rw [ey, show nI (b2.1 - 2147483648) = Int32.ofNat (b2.1 - 2147483648) from rfl, xo_nat (by omega)]; omega)
      have hlt : (a2.1 - 2147483648) % (b2.1 - 2147483648) < b2.1 - 2147483648 := Nat.mod_lt _ (by omega)
      have er : xo (x - x / y * y) = 2147483648 + (a2.1 - 2147483648) % (b2.1 - 2147483648) := by
        rw [nx, ny, pk_rem (by omega) (by omega) (by omega)]
        rw [show nI ((a2.1 - 2147483648) % (b2.1 - 2147483648)) = Int32.ofNat ((a2.1 - 2147483648) % (b2.1 - 2147483648)) from rfl, xo_nat (by omega)]
        omega
      have hy0 : ¬ y = 0 := fun q => by rw [q, xo_zero] at ey; omega
      exact lv_irem C.1 C.2.1 hd hy0 (kk _ _ _ _ _ _ hM hL ⟨_, _, rfl, ⟨_, rfl, by rw [← er]; exact xRI_c _⟩, hS⟩)
  · cases h
theorem s_i2b (hd : decode cc pc = .ok (.i2b, 1)) : xSound PX G cc own ini pc (x_un (fun o => xo ((xi o).toInt8.toInt32)) (pc + 1)) := by
  intro call d hc L S w pc' L' S' w' h
  unfold x_un at h
  split at h
  · cases h
    refine ⟨xLe_rf, ?_⟩
    intro p l e R s m args below meth c Q nL D tys sz b c0 s0 C hG hf hlo h1 h2 ls st H locs cells slots hM hL hS kk
    obtain ⟨u, st', rfl, ⟨x, rfl, hx⟩, hS⟩ := hS
    exact lv_i2b C.1 C.2.1 hd rfl (kk _ _ _ _ _ _ hM hL ⟨_, _, rfl, ⟨_, rfl, xun_ok hx (by rw [xi_xo])⟩, hS⟩)
  · cases h
theorem s_i2l (hd : decode cc pc = .ok (.i2l, 1)) : xSound PX G cc own ini pc (x_i2l (pc + 1)) := by
  intro call d hc L S w pc' L' S' w' h
  unfold x_i2l at h
  split at h
  · cases h
    refine ⟨xLe_rf, ?_⟩
    intro p l e R s m args below meth c Q nL D tys sz b c0 s0 C hG hf hlo h1 h2 ls st H locs cells slots hM hL hS kk
    obtain ⟨u, st', rfl, ⟨x, rfl, hx⟩, hS⟩ := hS
    exact lv_i2l C.1 C.2.1 hd rfl (kk _ _ _ _ _ _ hM hL ⟨_, _, rfl, ⟨_, rfl, xil_ok hx⟩, hS⟩)
  · cases h
theorem x_lbin_eq {f : Nat → Nat → Nat} {n : Nat} {call : xC} {L : List (Option xV)} {S : List xV} {w : xW} {r : xS} (h : x_lbin f n call L S w = some r) : ∃ i j S0, S = .inr (.inr (j + 1)) :: .inr (.inr (i + 1)) :: S0 ∧ r = (n, L, .inr (.inr (xlb f i j + 1)) :: S0, w) := by
  unfold x_lbin at h
  split at h
  · exact ⟨_, _, _, rfl, (Option.some.inj h).symm⟩
  · cases h
theorem s_ladd (hd : decode cc pc = .ok (.ladd, 1)) : xSound PX G cc own ini pc (x_lbin Nat.add (pc + 1)) := by
  intro call d hc L S w pc' L' S' w' h
  obtain ⟨i, j, S0, rfl, hr⟩ := x_lbin_eq h
  cases hr
  refine ⟨xLe_rf, ?_⟩
  intro p l e R s m args below meth c Q nL D tys sz b c0 s0 C hG hf hlo h1 h2 ls st H locs cells slots hM hL hS kk
  obtain ⟨u, st', rfl, ⟨y, rfl, hy⟩, u2, st2, rfl, ⟨x, rfl, hx⟩, hS⟩ := hS
  exact lv_ladd C.1 C.2.1 hd (kk _ _ _ _ _ _ hM hL ⟨_, _, rfl, ⟨_, rfl, xlb_ok xlb_add hx hy⟩, hS⟩)
theorem s_lmul (hd : decode cc pc = .ok (.lmul, 1)) : xSound PX G cc own ini pc (x_lbin Nat.mul (pc + 1)) := by
  intro call d hc L S w pc' L' S' w' h
  obtain ⟨i, j, S0, rfl, hr⟩ := x_lbin_eq h
  cases hr
  refine ⟨xLe_rf, ?_⟩
  intro p l e R s m args below meth c Q nL D tys sz b c0 s0 C hG hf hlo h1 h2 ls st H locs cells slots hM hL hS kk
  obtain ⟨u, st', rfl, ⟨y, rfl, hy⟩, u2, st2, rfl, ⟨x, rfl, hx⟩, hS⟩ := hS
  exact lv_lmul C.1 C.2.1 hd (kk _ _ _ _ _ _ hM hL ⟨_, _, rfl, ⟨_, rfl, xlb_ok xlb_mul hx hy⟩, hS⟩)
theorem s_dup (hd : decode cc pc = .ok (.dup, 1)) : xSound PX G cc own ini pc (x_dup (pc + 1)) := by
  intro call d hc L S w pc' L' S' w' h
  unfold x_dup at h
  split at h
  · rename_i v S0
    cases hv : x1 v with
    | false => rw [hv] at h; cases h
    | true =>
      rw [hv] at h
      cases h
      refine ⟨xLe_rf, ?_⟩
      intro p l e R s m args below meth c Q nL D tys sz b c0 s0 C hG hf hlo h1 h2 ls st H locs cells slots hM hL hS kk
      obtain ⟨u, st', rfl, hu, hS⟩ := hS
      exact lv_dup C.1 C.2.1 hd (xRV1 hu hv) (kk _ _ _ _ _ _ hM hL ⟨_, _, rfl, hu, _, _, rfl, hu, hS⟩)
  · cases h
theorem s_dup2 (hd : decode cc pc = .ok (.dup2, 1)) : xSound PX G cc own ini pc (x_dup2 (pc + 1)) := by
  intro call d hc L S w pc' L' S' w' h
  unfold x_dup2 at h
  split at h
  · rename_i v u0 S0
    cases hv : (x1 v && x1 u0) with
    | false => rw [hv] at h; cases h
    | true =>
      rw [hv] at h
      cases h
      simp only [Bool.and_eq_true] at hv
      refine ⟨xLe_rf, ?_⟩
      intro p l e R s m args below meth c Q nL D tys sz b c0 s0 C hG hf hlo h1 h2 ls st H locs cells slots hM hL hS kk
      obtain ⟨u, st', rfl, hu, u2, st2, rfl, hu2, hS⟩ := hS
      exact lv_dup2_11 C.1 C.2.1 hd (xRV1 hu hv.1) (xRV1 hu2 hv.2) (kk _ _ _ _ _ _ hM hL ⟨_, _, rfl, hu, _, _, rfl, hu2, _, _, rfl, hu, _, _, rfl, hu2, hS⟩)
  · cases h
theorem s_goto {off : Int} {t : Nat} (hd : decode cc pc = .ok (.goto off, 3)) (ht : (pc : Int) + off = (t : Int)) : xSound PX G cc own ini pc (x_goto t) := by
  intro call d hc L S w pc' L' S' w' h
  cases h
  refine ⟨xLe_rf, ?_⟩
  intro p l e R s m args below meth c Q nL D tys sz b c0 s0 C hG hf hlo h1 h2 ls st H locs cells slots hM hL hS kk
  exact lv_goto C.1 C.2.1 hd ht (kk _ _ _ _ _ _ hM hL hS)
theorem s_ifnonnull {off : Int} {t : Nat} (hd : decode cc pc = .ok (.ifnonnull off, 3)) (ht : (pc : Int) + off = (t : Int)) : xSound PX G cc own ini pc (x_ifnonnull t (pc + 3)) := by
  intro call d hc L S w pc' L' S' w' h
  unfold x_ifnonnull at h
  split at h
  · cases h
    refine ⟨xLe_rf, ?_⟩
    intro p l e R s m args below meth c Q nL D tys sz b c0 s0 C hG hf hlo h1 h2 ls st H locs cells slots hM hL hS kk
    obtain ⟨u, st', rfl, hu, hS⟩ := hS
    cases hu
    exact lv_ifnonnullN C.1 C.2.1 hd (kk _ _ _ _ _ _ hM hL hS)
  · cases h
    refine ⟨xLe_rf, ?_⟩
    intro p l e R s m args below meth c Q nL D tys sz b c0 s0 C hG hf hlo h1 h2 ls st H locs cells slots hM hL hS kk
    obtain ⟨u, st', rfl, hu, hS⟩ := hS
    cases hu
    exact lv_ifnonnull C.1 C.2.1 hd ht (kk _ _ _ _ _ _ hM hL hS)
  · cases h
/-- the branch on an int -/
theorem x_if_eq {op t n : Nat} {call : xC} {L : List (Option xV)} {S : List xV} {w : xW} {r : xS} (h : x_if op t n call L S w = some r) : ∃ a S0 q, S = .inl a :: S0 ∧ xcmp op a (2147483648, 2147483648) = some q ∧ r = (bif q then t else n, L, S0, w) := by
  unfold x_if at h
  split at h
  · split at h
    · rename_i hq; exact ⟨_, _, true, rfl, hq, (Option.some.inj h).symm⟩
    · rename_i hq; exact ⟨_, _, false, rfl, hq, (Option.some.inj h).symm⟩
    · cases h
  · cases h
theorem x_icmp_eq {op t n : Nat} {call : xC} {L : List (Option xV)} {S : List xV} {w : xW} {r : xS} (h : x_icmp op t n call L S w = some r) : ∃ b a S0 q, S = .inl b :: .inl a :: S0 ∧ xcmp op a b = some q ∧ r = (bif q then t else n, L, S0, w) := by
  unfold x_icmp at h
  split at h
  · split at h
    · rename_i hq; exact ⟨_, _, _, true, rfl, hq, (Option.some.inj h).symm⟩
    · rename_i hq; exact ⟨_, _, _, false, rfl, hq, (Option.some.inj h).symm⟩
    · cases h
  · cases h
theorem xRI_z : xRI (2147483648, 2147483648) 0 := by
  have h := xRI_c 0
  rw [xo_zero] at h
  exact h
theorem s_if {op : Nat} {t n : Nat} (hrow : ∀ (p : Program) (l : Launch) (e : Env) (R : Room) (s : State) (m : MethodId) (args : Array Value) (below : List Frame) (meth : Method) (c : Code) (H : Heap) (locs : List Loc) (cells slots : Nat) (Q : State → Prop) (ls : Array Slot) (rest : List Value) (x : Int32), p.tables.exec = Jvm.exec → c.code = cc → (xcmpP op x 0 → W p l e R s m args below meth c H locs cells slots Q (F0 m t ls rest)) → (¬ xcmpP op x 0 → W p l e R s m args below meth c H locs cells slots Q (F0 m n ls rest)) → W p l e R s m args below meth c H locs cells slots Q (F0 m pc ls (.int x :: rest))) :
    xSound PX G cc own ini pc (x_if op t n) := by
  intro call d hc L S w pc' L' S' w' h
  obtain ⟨a, S0, q, rfl, hq, hr⟩ := x_if_eq h
  cases hr
  refine ⟨xLe_rf, ?_⟩
  intro p l e R s m args below meth c Q nL D tys sz b c0 s0 C hG hf hlo h1 h2 ls st H locs cells slots hM hL hS kk
  obtain ⟨u, st', rfl, ⟨x, rfl, hx⟩, hS⟩ := hS
  have hk := xcmp_ok hx xRI_z hq
  cases q with
  | true => exact hrow _ _ _ _ _ _ _ _ _ _ _ _ _ _ _ _ _ _ C.1 C.2.1 (fun _ => kk _ _ _ _ _ _ hM hL hS) (fun z => absurd (hk.1 rfl) z)
  | false => exact hrow _ _ _ _ _ _ _ _ _ _ _ _ _ _ _ _ _ _ C.1 C.2.1 (fun z => absurd z (hk.2 rfl)) (fun _ => kk _ _ _ _ _ _ hM hL hS)
theorem s_icmp {op : Nat} {t n : Nat} (hrow : ∀ (p : Program) (l : Launch) (e : Env) (R : Room) (s : State) (m : MethodId) (args : Array Value) (below : List Frame) (meth : Method) (c : Code) (H : Heap) (locs : List Loc) (cells slots : Nat) (Q : State → Prop) (ls : Array Slot) (rest : List Value) (x y : Int32), p.tables.exec = Jvm.exec → c.code = cc → (xcmpP op x y → W p l e R s m args below meth c H locs cells slots Q (F0 m t ls rest)) → (¬ xcmpP op x y → W p l e R s m args below meth c H locs cells slots Q (F0 m n ls rest)) → W p l e R s m args below meth c H locs cells slots Q (F0 m pc ls (.int y :: .int x :: rest))) :
    xSound PX G cc own ini pc (x_icmp op t n) := by
  intro call d hc L S w pc' L' S' w' h
  obtain ⟨b2, a, S0, q, rfl, hq, hr⟩ := x_icmp_eq h
  cases hr
  refine ⟨xLe_rf, ?_⟩
  intro p l e R s m args below meth c Q nL D tys sz b c0 s0 C hG hf hlo h1 h2 ls st H locs cells slots hM hL hS kk
  obtain ⟨u, st', rfl, ⟨y, rfl, hy⟩, u2, st2, rfl, ⟨x, rfl, hx⟩, hS⟩ := hS
  have hk := xcmp_ok hx hy hq
  cases q with
  | true => exact hrow _ _ _ _ _ _ _ _ _ _ _ _ _ _ _ _ _ _ _ C.1 C.2.1 (fun _ => kk _ _ _ _ _ _ hM hL hS) (fun z => absurd (hk.1 rfl) z)
  | false => exact hrow _ _ _ _ _ _ _ _ _ _ _ _ _ _ _ _ _ _ _ C.1 C.2.1 (fun z => absurd z (hk.2 rfl)) (fun _ => kk _ _ _ _ _ _ hM hL hS)
theorem s_ifeq {off : Int} {t : Nat} (hd : decode cc pc = .ok (.ifCond .eq off, 3)) (ht : (pc : Int) + off = (t : Int)) : xSound PX G cc own ini pc (x_if 0 t (pc + 3)) := s_if (fun _ _ _ _ _ _ _ _ _ _ _ _ _ _ _ _ _ _ hx hb a b => lv_if_eq hx hb hd ht a b)
theorem s_ifne {off : Int} {t : Nat} (hd : decode cc pc = .ok (.ifCond .ne off, 3)) (ht : (pc : Int) + off = (t : Int)) : xSound PX G cc own ini pc (x_if 1 t (pc + 3)) := s_if (fun _ _ _ _ _ _ _ _ _ _ _ _ _ _ _ _ _ _ hx hb a b => lv_if_ne hx hb hd ht a (fun q => b (fun n => n q)))
theorem s_iflt {off : Int} {t : Nat} (hd : decode cc pc = .ok (.ifCond .lt off, 3)) (ht : (pc : Int) + off = (t : Int)) : xSound PX G cc own ini pc (x_if 2 t (pc + 3)) := s_if (fun _ _ _ _ _ _ _ _ _ _ _ _ _ _ _ _ _ _ hx hb a b => lv_if_lt hx hb hd ht a b)
theorem s_ifge {off : Int} {t : Nat} (hd : decode cc pc = .ok (.ifCond .ge off, 3)) (ht : (pc : Int) + off = (t : Int)) : xSound PX G cc own ini pc (x_if 3 t (pc + 3)) := s_if (fun _ _ _ _ _ _ _ _ _ _ _ _ _ _ _ _ _ _ hx hb a b => lv_if_ge hx hb hd ht a b)
theorem s_ifgt {off : Int} {t : Nat} (hd : decode cc pc = .ok (.ifCond .gt off, 3)) (ht : (pc : Int) + off = (t : Int)) : xSound PX G cc own ini pc (x_if 4 t (pc + 3)) := s_if (fun _ _ _ _ _ _ _ _ _ _ _ _ _ _ _ _ _ _ hx hb a b => lv_if_gt hx hb hd ht a b)
theorem s_ifle {off : Int} {t : Nat} (hd : decode cc pc = .ok (.ifCond .le off, 3)) (ht : (pc : Int) + off = (t : Int)) : xSound PX G cc own ini pc (x_if 5 t (pc + 3)) := s_if (fun _ _ _ _ _ _ _ _ _ _ _ _ _ _ _ _ _ _ hx hb a b => lv_if_le hx hb hd ht a b)
theorem s_icmpeq {off : Int} {t : Nat} (hd : decode cc pc = .ok (.if_icmp .eq off, 3)) (ht : (pc : Int) + off = (t : Int)) : xSound PX G cc own ini pc (x_icmp 0 t (pc + 3)) := s_icmp (fun _ _ _ _ _ _ _ _ _ _ _ _ _ _ _ _ _ _ _ hx hb a b => lv_icmp_eq hx hb hd ht a b)
theorem s_icmpne {off : Int} {t : Nat} (hd : decode cc pc = .ok (.if_icmp .ne off, 3)) (ht : (pc : Int) + off = (t : Int)) : xSound PX G cc own ini pc (x_icmp 1 t (pc + 3)) := s_icmp (fun _ _ _ _ _ _ _ _ _ _ _ _ _ _ _ _ _ _ _ hx hb a b => lv_icmp_ne hx hb hd ht a (fun q => b (fun n => n q)))
theorem s_icmplt {off : Int} {t : Nat} (hd : decode cc pc = .ok (.if_icmp .lt off, 3)) (ht : (pc : Int) + off = (t : Int)) : xSound PX G cc own ini pc (x_icmp 2 t (pc + 3)) := s_icmp (fun _ _ _ _ _ _ _ _ _ _ _ _ _ _ _ _ _ _ _ hx hb a b => lv_icmp_lt hx hb hd ht a b)
theorem s_icmpge {off : Int} {t : Nat} (hd : decode cc pc = .ok (.if_icmp .ge off, 3)) (ht : (pc : Int) + off = (t : Int)) : xSound PX G cc own ini pc (x_icmp 3 t (pc + 3)) := s_icmp (fun _ _ _ _ _ _ _ _ _ _ _ _ _ _ _ _ _ _ _ hx hb a b => lv_icmp_ge hx hb hd ht a b)
theorem s_icmpgt {off : Int} {t : Nat} (hd : decode cc pc = .ok (.if_icmp .gt off, 3)) (ht : (pc : Int) + off = (t : Int)) : xSound PX G cc own ini pc (x_icmp 4 t (pc + 3)) := s_icmp (fun _ _ _ _ _ _ _ _ _ _ _ _ _ _ _ _ _ _ _ hx hb a b => lv_icmp_gt hx hb hd ht a b)
theorem s_icmple {off : Int} {t : Nat} (hd : decode cc pc = .ok (.if_icmp .le off, 3)) (ht : (pc : Int) + off = (t : Int)) : xSound PX G cc own ini pc (x_icmp 5 t (pc + 3)) := s_icmp (fun _ _ _ _ _ _ _ _ _ _ _ _ _ _ _ _ _ _ _ hx hb a b => lv_icmp_le hx hb hd ht a b)
theorem s_tsw {dflt lo hi : Int} {offs : Array Int} {len : Nat} {k df : Nat} {ts : List Nat} (hd : decode cc pc = .ok (.tableswitch dflt lo hi offs, len)) (hk : lo + 2147483648 = (k : Int)) (hh : hi + 1 = lo + (ts.length : Int)) (hdf : (pc : Int) + dflt = (df : Int)) (hts : ∀ (i t : Nat), xget ts i = some t → ∃ off, offs[i]? = some off ∧ (pc : Int) + off = (t : Int)) : xSound PX G cc own ini pc (x_tsw k ts df) := by
  intro call d hc L S w pc' L' S' w' h
  unfold x_tsw at h
  split at h
  · rename_i a S0
    cases hc1 : (Nat.blt a.2 k || Nat.ble (k + ts.length) a.1) with
    | true =>
      rw [hc1] at h
      cases h
      refine ⟨xLe_rf, ?_⟩
      intro p l e R s m args below meth c Q nL D tys sz b c0 s0 C hG hf hlo h1 h2 ls st H locs cells slots hM hL hS kk
      obtain ⟨u, st', rfl, ⟨x, rfl, hx⟩, hS⟩ := hS
      have hxi := xo_int x
      refine lv_tableOut C.1 C.2.1 hd ?_ hdf (kk _ _ _ _ _ _ hM hL hS)
      obtain ⟨x1, x2⟩ := hx
      simp only [Bool.or_eq_true] at hc1
      rcases hc1 with q | q
      · have := xblt q; left; omega
      · have := xble q; right; omega
    | false =>
      rw [hc1] at h
      cases hc2 : Nat.beq a.1 a.2 with
      | false => rw [hc2] at h; cases h
      | true =>
        rw [hc2] at h
        have e2 := Nat.eq_of_beq_eq_true hc2
        cases ht : xget ts (a.1 - k) with
        | none => simp only [ht] at h; cases h
        | some t =>
          simp only [ht] at h
          cases h
          refine ⟨xLe_rf, ?_⟩
          intro p l e R s m args below meth c Q nL D tys sz b c0 s0 C hG hf hlo h1 h2 ls st H locs cells slots hM hL hS kk
          obtain ⟨u, st', rfl, ⟨x, rfl, hx⟩, hS⟩ := hS
          have hxi := xo_int x
          obtain ⟨x1, x2⟩ := hx
          obtain ⟨off, ho, htg⟩ := hts _ _ ht
          have hl : a.1 - k < ts.length := by rw [xget_eq] at ht; exact (List.getElem?_eq_some_iff.mp ht).1
          simp only [Bool.or_eq_false_iff] at hc1
          have n1 : k ≤ a.2 := by
            rcases Nat.lt_or_ge a.2 k with q | q
            · have : Nat.blt a.2 k = true := Nat.ble_eq_true_of_le q
              rw [this] at hc1; cases hc1.1
            · exact q
          refine lv_tableIn C.1 C.2.1 hd (by omega) (by omega) (off := off) ?_ htg (kk _ _ _ _ _ _ hM hL hS)
          rw [show (x.toInt - lo).toNat = a.1 - k by omega]
          exact ho
  · cases h
end XS2
