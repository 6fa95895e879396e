/-! ===== fields, arrays, new cells ===== -/
noncomputable def x_getf (ci k n : Nat) : xF := fun _ L S w => match S with
  | .inr (.inl (some a)) :: S => (match xwg w a with
    | some (.inr (.inr (c, fs))) => bif Nat.beq c ci then (match xget fs k with
      | some v => some (n, L, v :: S, w)
      | none => none) else none
    | _ => none)
  | _ => none
/-- may it stand in a field: 0 an int's, 1 a boolean's, 2 a reference's -/
def xfit (kd : Nat) (v : xV) : Bool := match kd, v with
  | 0, .inl _ => true
  | 1, .inl a => Nat.ble 2147483648 a.1 && Nat.ble a.2 2147483649
  | 2, .inr (.inl _) => true
  | _, _ => false
noncomputable def x_putf (ci k kd n : Nat) : xF := fun _ L S w => match S with
  | v :: .inr (.inl (some a)) :: S => (match xwg w a with
    | some (.inr (.inr (c, fs))) => bif Nat.beq c ci && (xfit kd v && Nat.blt k fs.length) then some (n, L, S, xws w a (.inr (.inr (c, xset v fs k)))) else none
    | _ => none)
  | _ => none
/-- an index that is known -/
def xix (i : Nat × Nat) (n : Nat) : Option Nat := bif Nat.beq i.1 i.2 && (Nat.ble 2147483648 i.1 && Nat.blt i.1 (n + 2147483648)) then some (i.1 - 2147483648) else none
noncomputable def x_iald (n : Nat) : xF := fun _ L S w => match S with
  | .inl i :: .inr (.inl (some a)) :: S => (match xwg w a with
    | some (.inl (0, len, d, us)) => (match xix i len with
      | some j => some (n, L, .inl (xlk us d j) :: S, w)
      | none => none)
    | _ => none)
  | _ => none
noncomputable def x_bald (n : Nat) : xF := fun _ L S w => match S with
  | .inl i :: .inr (.inl (some a)) :: S => (match xwg w a with
    | some (.inl (1, len, d, us)) => (match xix i len with
      | some j => some (n, L, .inl (xlk us d j) :: S, w)
      | none => none)
    | some (.inl (2, len, d, us)) => (match xix i len with
      | some j => some (n, L, .inl (xlk us d j) :: S, w)
      | none => none)
    | _ => none)
  | _ => none
noncomputable def x_aald (n : Nat) : xF := fun _ L S w => match S with
  | .inl i :: .inr (.inl (some a)) :: S => (match xwg w a with
    | some (.inr (.inl (t, len, us))) => (match xix i len with
      | some j => some (n, L, .inr (.inl (xlq us j)) :: S, w)
      | none => none)
    | _ => none)
  | _ => none
/-- an int is put into an array: nothing is written where it stands already -/
noncomputable def xup (w : xW) (a t len : Nat) (d : Nat × Nat) (us : List (Nat × Nat × Nat)) (j : Nat) (v : Nat × Nat) : xW :=
  bif Nat.beq (xlk us d j).1 v.1 && Nat.beq (xlk us d j).2 v.2 then w else xws w a (.inl (t, len, d, xlp us j v))
noncomputable def x_iast (n : Nat) : xF := fun _ L S w => match S with
  | .inl v :: .inl i :: .inr (.inl (some a)) :: S => (match xwg w a with
    | some (.inl (0, len, d, us)) => (match xix i len with
      | some j => some (n, L, S, xup w a 0 len d us j v)
      | none => none)
    | _ => none)
  | _ => none
def xnb (v : Nat × Nat) : Nat × Nat := bif Nat.ble 2147483520 v.1 && Nat.ble v.2 2147483775 then v else (2147483520, 2147483775)
noncomputable def x_bast (n : Nat) : xF := fun _ L S w => match S with
  | .inl v :: .inl i :: .inr (.inl (some a)) :: S => (match xwg w a with
    | some (.inl (1, len, d, us)) => (match xix i len with
      | some j => some (n, L, S, xup w a 1 len d us j (xnb v))
      | none => none)
    | some (.inl (2, len, d, us)) => (match xix i len with
      | some j => bif Nat.ble 2147483648 v.1 && Nat.ble v.2 2147483649 then some (n, L, S, xup w a 2 len d us j v) else none
      | none => none)
    | _ => none)
  | _ => none
noncomputable def x_last (n : Nat) : xF := fun _ L S w => match S with
  | .inr (.inr (q + 1)) :: .inl i :: .inr (.inl (some a)) :: S => (match xwg w a with
    | some (.inl (3, len, d, us)) => (match xix i len with
      | some j => some (n, L, S, xws w a (.inl (3, len, d, xlp us j (1, q))))
      | none => none)
    | _ => none)
  | _ => none
noncomputable def x_alen (n : Nat) : xF := fun _ L S w => match S with
  | .inr (.inl (some a)) :: S => (match xwg w a with
    | some (.inl (0, len, _, _)) => some (n, L, .inl (len + 2147483648, len + 2147483648) :: S, w)
    | _ => none)
  | _ => none
section XS3
variable {PX : xPX} {G : State → Nat → Nat → Prop} {cc : ByteArray} {own : String} {ini : Bool} {pc : Nat}
theorem xgood (C : String) (T : u_T) (N : Nat) : ∀ w ∈ u_ws C T N, goodWord w = true := by
  intro w h
  obtain ⟨k, -, rfl⟩ := List.mem_map.mp h
  unfold u_lay
  split <;> rfl
theorem xin1 {C : String} {T : u_T} {N : Nat} (h : ∀ w ∈ u_ws C T N, w ∈ lw_tbl) : ∀ w ∈ u_ws C T N, w ∈ xTB := fun w hw => xmem (h w hw) (xgood C T N w hw)
theorem xcell {sz b a : Nat} {tys : List (ClassId × FieldType)} {w : xW} {ws : va_W} {e : xE} (h : xRW sz b tys w ws) (ha : xwg w a = some e) : ∃ u, ws[a]? = some (sz + a, u) ∧ xRE sz b tys e u := h.2.1 a e ha
theorem s_getf {index ci k : Nat} {C : String} {T : u_T} {N : Nat} (hd : decode cc pc = .ok (.getfield index, 3)) (hcl : vwCl[ci]? = some (C, T, N)) (hin : ∀ w ∈ u_ws C T N, w ∈ lw_tbl) (hk : k < N) (hw : Cond.fieldLink own index (T k).1 (T k).2.1 (T k).2.2.1 ∈ xTB) : xSound PX G cc own ini pc (x_getf ci k (pc + 3)) := by
  intro call d hc L S w pc' L' S' w' h
  unfold x_getf at h
  split at h
  · rename_i a S0
    split at h
    · rename_i c1 fs ha
      cases hb : Nat.beq c1 ci with
      | false => rw [hb] at h; cases h
      | true =>
        rw [hb] at h
        have e1 := Nat.eq_of_beq_eq_true hb
        subst e1
        cases hv : xget fs k with
        | none => simp only [hv] at h; cases h
        | some v =>
          simp only [hv] at h
          cases h
          refine ⟨xLe_rf, ?_⟩
          intro p l e R s m args below meth c Q nL D tys sz b c0 s0 C1 hG hf hlo h1 h2 ls st H locs cells slots hM hL hS kk
          obtain ⟨u, st', rfl, hu, hS⟩ := hS
          cases hu
          obtain ⟨⟨ws, hR, hP⟩, hM2⟩ := id hM
          obtain ⟨u, hu, vs, rfl, hvs⟩ := xcell hR ha
          rw [xget_eq] at hv
          obtain ⟨x, hx, hxv⟩ := xRS_get hvs hv
          exact va_get C1.1 C1.2.1 C1.2.2.2.2.1 (xin1 hin) C1.2.2.2.1 C1.2.2.2.2.2.1 hP a hu hcl k hk (C1.2.2.2.2.1 _ hw) (fun _ h9 => h9) hx hd (kk _ _ _ _ _ _ hM hL ⟨_, _, rfl, hxv, hS⟩)
    · cases h
  · cases h
theorem x_putf_eq {ci k kd n : Nat} {call : xC} {L : List (Option xV)} {S : List xV} {w : xW} {r : xS} (h : x_putf ci k kd n call L S w = some r) : ∃ v a S0 fs, S = v :: .inr (.inl (some a)) :: S0 ∧ xwg w a = some (.inr (.inr (ci, fs))) ∧ xfit kd v = true ∧ k < fs.length ∧ r = (n, L, S0, xws w a (.inr (.inr (ci, fs.set k v)))) := by
  unfold x_putf at h
  split at h
  · split at h
    · rename_i v a S0 _ c1 fs ha
      cases hb : (Nat.beq c1 ci && (xfit kd v && Nat.blt k fs.length)) with
      | false => rw [hb] at h; cases h
      | true =>
        rw [hb] at h
        simp only [Bool.and_eq_true] at hb
        have e1 := Nat.eq_of_beq_eq_true hb.1
        subst e1
        have h := (Option.some.inj h).symm
        rw [xset_eq] at h
        exact ⟨v, a, S0, fs, rfl, ha, hb.2.1, xblt hb.2.2, h⟩
    · cases h
  · cases h
def xkd (kd : Nat) (ty : FieldType) : Prop := (kd = 0 ∧ ty = .int) ∨ (kd = 1 ∧ ty = .boolean) ∨ (kd = 2 ∧ ((∃ C, ty = .object C) ∨ ∃ t, ty = .array t))
theorem xz1 {x : Int32} (h1 : 2147483648 ≤ xo x) (h2 : xo x ≤ 2147483649) : x = 0 ∨ x = 1 := by
  have e1 : xo 1 = 2147483649 := by decide +kernel
  rcases Nat.lt_or_ge (xo x) 2147483649 with q | q
  · exact Or.inl (xo_inj (by rw [xo_zero]; omega))
  · exact Or.inr (xo_inj (by rw [e1]; omega))
theorem xfit_ok {kd sz b : Nat} {ty : FieldType} {v : xV} {u : Value} (hk : xkd kd ty) (hf : xfit kd v = true) (hv : xRV sz b v u) : narrow ty u = u ∧ fits ty u = true := by
  rcases hk with ⟨rfl, rfl⟩ | ⟨rfl, rfl⟩ | ⟨rfl, hk⟩
  · match v, hf, hv with
    | .inl a, _, hv =>
      obtain ⟨x, rfl, -⟩ := hv
      exact ⟨rfl, rfl⟩
  · match v, hf, hv with
    | .inl a, hf, hv =>
      obtain ⟨x, rfl, hx1, hx2⟩ := hv
      simp only [xfit, Bool.and_eq_true] at hf
      rcases xz1 (x := x) (Nat.le_trans (xble hf.1) hx1) (Nat.le_trans hx2 (xble hf.2)) with rfl | rfl
      · exact ⟨by decide +kernel, by decide +kernel⟩
      · exact ⟨by decide +kernel, by decide +kernel⟩
  · match v, hf, hv with
    | .inr (.inl none), _, hv =>
      cases hv
      rcases hk with ⟨C, rfl⟩ | ⟨t, rfl⟩ <;> exact ⟨rfl, rfl⟩
    | .inr (.inl (some a)), _, hv =>
      cases hv
      rcases hk with ⟨C, rfl⟩ | ⟨t, rfl⟩ <;> exact ⟨rfl, rfl⟩
theorem xLe_set {w : xW} {a : Nat} {e : xE} : xLe w (xws w a e) := by
  have h := xws_nums w a e
  exact ⟨by rw [h.2]; exact Nat.le_refl _, by rw [h.1]; exact Nat.le_refl _⟩
theorem xMem_set {D : va_G} {tys : List (ClassId × FieldType)} {sz b c0 s0 : Nat} {s : State} {w : xW} {ws : va_W} {H H1 : Heap} {locs locs1 : List Loc} {cells slots a : Nat} {e0 e : xE} {u : va_E} (hM : xMem D tys sz b s c0 s0 w H locs cells slots) (hR : xRW sz b tys w ws) (ha : xwg w a = some e0) (hu : xRE sz b tys e u)
    (hP : va_P D vwCl (ws.set a (sz + a, u)) H1) (hz : H1.size = H.size) (hS : va_S (fun q => sz ≤ q) s.heap H1 locs1) : xMem D tys sz b s c0 s0 (xws w a e) H1 locs1 cells slots := by
  obtain ⟨-, h1, -, h3, h4, h5⟩ := hM
  have hn := xws_nums w a e
  exact ⟨⟨_, xRW_set hR ha hu, hP⟩, by rw [hz, hn.2]; exact h1, hS, by rw [hn.2]; exact h3, by rw [hn.1]; exact h4, h5⟩
theorem s_putf {index ci k kd : Nat} {C : String} {T : u_T} {N : Nat} {ty : Nat → FieldType} (hd : decode cc pc = .ok (.putfield index, 3)) (hcl : vwCl[ci]? = some (C, T, N)) (hin : ∀ w ∈ u_ws C T N, w ∈ lw_tbl) (hty : ∀ k, k < N → parseFieldDescriptor (T k).2.2.1 = some (ty k)) (hnm : ∀ a, a < N → ∀ b, b < N → a ≠ b → (T a).2.1 ≠ (T b).2.1) (hk : k < N) (hw : Cond.fieldLink own index (T k).1 (T k).2.1 (T k).2.2.1 ∈ xTB) (hkd : xkd kd (ty k)) (hfin : (T k).2.2.2 = false) : xSound PX G cc own ini pc (x_putf ci k kd (pc + 3)) := by
  intro call d hc L S w pc' L' S' w' h
  obtain ⟨v, a, S0, fs, rfl, ha, hfit, hkl, hr⟩ := x_putf_eq h
  cases hr
  refine ⟨xLe_set, ?_⟩
  intro p l e R s m args below meth c Q nL D tys sz b c0 s0 C1 hG hf hlo h1 h2 ls st H locs cells slots hM hL hS kk
  obtain ⟨x, st', rfl, hx, u2, st2, rfl, hu, hS⟩ := hS
  cases hu
  obtain ⟨⟨ws, hR, hP⟩, hz, hS0, hM2⟩ := id hM
  obtain ⟨u, hu, vs, rfl, hvs⟩ := xcell hR ha
  obtain ⟨hn, hft⟩ := xfit_ok hkd hfit hx
  obtain ⟨hx0, hb, hml, hown, hts, hK, hmap, hini⟩ := C1
  have hD := xRW_D hR
  have hin := xin1 hin
  have hap := va_apart (own := own) hts hin ty hty hnm hK hcl
  obtain ⟨r, g1, cell, q1, q2, q3, q4⟩ := hP a _ hu
  have hr : r = (C, T, N) := Option.some.inj (g1.symm.trans hcl)
  subst hr
  obtain ⟨hSl, hfc, kC, hkC, hkind⟩ := hK.1 ci _ hcl
  obtain ⟨cf, kf, fi, f, hi, hsl⟩ := hSl k hk
  have hlay := hts _ (hin _ (u_in_lay hk))
  unfold u_lay at hlay
  rw [if_neg (by rw [hfin]; decide)] at hlay
  have hst := (u_facts hfc hkC (u_lays hts hin hk) hi).1
  have h6 := u_store hfc hkC hkind hlay hi (hty k hk) hn hft
  refine W.putK hx0 hb (f := f) ⟨hown, hts _ hw, ⟨_, _, _, hi⟩, hst⟩ (by rw [q2]; exact h6) q1 q3 (by rw [hsl]; exact k2_hasslot (q4 k hk)) rfl rfl hd fun H' e1 e2 e3 => ?_
  rw [hsl] at e1 ⊢
  have hl : k < vs.length := by rw [xRS_len hvs]; exact hkl
  have hP' : va_P D vwCl (ws.set a (sz + a, .inr (ci, vs.set k x))) H' := hP.set hD hu ⟨_, hcl, t_OB.to (V := updV (vp_V vs) k x) ⟨_, e1, q2, q3, t_set q4 hap hk x⟩ (fun j _ => vp_updV_set hl x j)⟩ e3
  exact kk _ _ _ _ _ _ (xMem_set hM hR ha (e := .inr (.inr (ci, fs.set k v))) ⟨vs.set k x, rfl, xRS_set hx k hvs⟩ hP' e2 (hS0.put e2 e3 (Nat.le_add_right sz a))) hL hS
end XS3
