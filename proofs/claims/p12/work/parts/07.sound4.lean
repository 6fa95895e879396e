/-- new cells; fs, d: what stands in them -/
noncomputable def x_new (ci N : Nat) (fs : List xV) (n : Nat) : xF := fun _ L S w => match xwp w (.inr (.inr (ci, fs))) N with
  | some w' => some (n, L, .inr (.inl (some w.2.1)) :: S, w')
  | none => none
noncomputable def x_newa (t n : Nat) : xF := fun _ L S w => match S with
  | .inl i :: S => bif Nat.beq i.1 i.2 && (Nat.ble 2147483648 i.1 && Nat.blt i.1 2148483648) then (match xwp w (.inl (t, i.1 - 2147483648, (2147483648, 2147483648), [])) (i.1 - 2147483648) with
    | some w' => some (n, L, .inr (.inl (some w.2.1)) :: S, w')
    | none => none) else none
  | _ => none
noncomputable def x_newq (n : Nat) : xF := fun _ L S w => match S with
  | .inl i :: S => bif Nat.beq i.1 i.2 && (Nat.ble 2147483648 i.1 && Nat.blt i.1 2148483648) then (match xwp w (.inr (.inl (4, i.1 - 2147483648, []))) (i.1 - 2147483648) with
    | some w' => some (n, L, .inr (.inl (some w.2.1)) :: S, w')
    | none => none) else none
  | _ => none
noncomputable def x_aast (ci n : Nat) : xF := fun _ L S w => match S with
  | .inr (.inl (some v)) :: .inl i :: .inr (.inl (some a)) :: S => (match xwg w a with
    | some (.inr (.inl (t, len, us))) => (match xix i len with
      | some j => (match xwg w v with
        | some (.inr (.inr (c, _))) => bif Nat.beq c ci then some (n, L, S, xws w a (.inr (.inl (t, len, (j, v) :: us)))) else none
        | _ => none)
      | none => none)
    | _ => none)
  | _ => none
theorem fb_byte0 {x : Int32} (h1 : -128 ≤ x.toInt) (h2 : x.toInt < 128) : x.toInt8.toInt32 = x := by
  apply Int32.toInt_inj.mp
  rw [Int8.toInt_toInt32, Int32.toInt_toInt8, Int.bmod_def]
  omega
theorem fb_byte_rng0 (x : Int32) : -128 ≤ x.toInt8.toInt32.toInt ∧ x.toInt8.toInt32.toInt < 128 := by
  rw [Int8.toInt_toInt32, Int32.toInt_toInt8, Int.bmod_def]
  omega
section XS4
variable {PX : xPX} {G : State → Nat → Nat → Prop} {cc : ByteArray} {own : String} {ini : Bool} {pc : Nat}
theorem s_putF {index ci k kd : Nat} {C : String} {T : u_T} {N : Nat} {ty : Nat → FieldType} (hd : decode cc pc = .ok (.putfield index, 3)) (hcl : vwCl[ci]? = some (C, T, N)) (hin : ∀ w ∈ u_ws C T N, w ∈ lw_tbl) (hty : ∀ k, k < N → parseFieldDescriptor (T k).2.2.1 = some (ty k)) (hnm : ∀ a, a < N → ∀ b, b < N → a ≠ b → (T a).2.1 ≠ (T b).2.1) (hk : k < N) (hw : Cond.fieldLink own index (T k).1 (T k).2.1 (T k).2.2.1 ∈ xTB) (hkd : xkd kd (ty k)) (hfin : (T k).2.2.2 = true) (hi2 : ini = true) (hdecl : (T k).1 = own) : xSound PX G cc own ini pc (x_putf ci k kd (pc + 3)) := by
  intro call d hc L S w pc' L' S' w' h
  obtain ⟨v, a, S0, fs, rfl, ha, hfit, hkl, hr⟩ := x_putf_eq h
  cases hr
  refine ⟨xLe_set, ?_⟩
  intro p l e R s m args below meth c Q nL D tys sz b c0 s0 C1 hG hf hlo h1 h2 ls st H locs cells slots hM hL hS kk
  obtain ⟨x, st', rfl, hx, u2, st2, rfl, hu, hS⟩ := hS
  cases hu
  obtain ⟨⟨ws, hR, hP⟩, hz, hS0, hM2⟩ := id hM
  obtain ⟨u, hu, vs, rfl, hvs⟩ := xcell hR ha
  obtain ⟨hn, hft⟩ := xfit_ok hkd hfit hx
  obtain ⟨hx0, hb, hml, hown, hts, hK, hmap, hini⟩ := C1
  have hD := xRW_D hR
  have hin := xin1 hin
  have hap := va_apart (own := own) hts hin ty hty hnm hK hcl
  obtain ⟨r, g1, cell, q1, q2, q3, q4⟩ := hP a _ hu
  have hr : r = (C, T, N) := Option.some.inj (g1.symm.trans hcl)
  subst hr
  obtain ⟨hSl, hfc, kC, hkC, hkind⟩ := hK.1 ci _ hcl
  obtain ⟨cf, kf, fi, f, hi, hsl⟩ := hSl k hk
  have hlay := hts _ (hin _ (u_in_lay hk))
  unfold u_lay at hlay
  rw [if_pos hfin] at hlay
  have hst := (u_facts hfc hkC (u_lays hts hin hk) hi).1
  have hcf : m.cls = cf := by
    obtain ⟨_, _, c', _, _, _, -, -, hf', -, -, -, hown2, -⟩ := Cond.laysFinal_spec hlay
    have e1 : c' = cf := by have := hi.symm.trans hf'; simp at this; exact this.1.symm
    rw [hdecl] at hown2
    rw [← e1]; exact Option.some.inj (hown.symm.trans hown2)
  have h6 := u_fits hfc hkC hkind (Or.inr hlay) hi (hty k hk) hn hft
  have hl : k < vs.length := by rw [xRS_len hvs]; exact hkl
  refine W.putFinK hx0 hb hown (hts _ hw) hi hst hcf (hini.1 hi2) (by rw [q2]; exact h6) q1 q3 (by rw [hsl]; exact k2_hasslot (q4 k hk)) rfl rfl hd fun H' e1 e2 e3 => ?_
  rw [hsl] at e1 ⊢
  have hP' : va_P D vwCl (ws.set a (sz + a, .inr (ci, vs.set k x))) H' := hP.set hD hu ⟨_, hcl, t_OB.to (V := updV (vp_V vs) k x) ⟨_, e1, q2, q3, t_set q4 hap hk x⟩ (fun j _ => vp_updV_set hl x j)⟩ e3
  exact kk _ _ _ _ _ _ (xMem_set hM hR ha (e := .inr (.inr (ci, fs.set k v))) ⟨vs.set k x, rfl, xRS_set hx k hvs⟩ hP' e2 (hS0.put e2 e3 (Nat.le_add_right sz a))) hL hS
theorem xix_eq {i : Nat × Nat} {n j : Nat} {x : Int32} (h : xix i n = some j) (hx : xRI i x) : vp_in x n ∧ x.toNatClampNeg = j ∧ j < n := by
  unfold xix at h
  cases hb : (Nat.beq i.1 i.2 && (Nat.ble 2147483648 i.1 && Nat.blt i.1 (n + 2147483648))) with
  | false => rw [hb] at h; cases h
  | true =>
    rw [hb] at h
    have h := Option.some.inj h
    simp only [Bool.and_eq_true] at hb
    have q1 := Nat.eq_of_beq_eq_true hb.1
    have q2 := xble hb.2.1
    have q3 := xblt hb.2.2
    have ex : xo x = i.1 := Nat.le_antisymm (by rw [q1]; exact hx.2) hx.1
    refine ⟨xo_in (by omega) (by omega), ?_, by omega⟩
    rw [xo_clamp (by omega), ex]
    exact h
theorem xty_of {tys : List (ClassId × FieldType)} {t : Nat} {cA : ClassId} {ty : FieldType} (hm : tys.map Prod.snd = xTys) (h : tys[t]? = some (cA, ty)) : xTys[t]? = some ty := by
  rw [← hm, List.getElem?_map, h]
  rfl
theorem xty_ex {tys : List (ClassId × FieldType)} {t : Nat} {ty : FieldType} (hm : tys.map Prod.snd = xTys) (h : xTys[t]? = some ty) : ∃ cA, tys[t]? = some (cA, ty) := by
  rw [← hm, List.getElem?_map] at h
  cases hq : tys[t]? with
  | none => rw [hq] at h; cases h
  | some q =>
    rw [hq] at h
    cases h
    exact ⟨q.1, rfl⟩
theorem s_iald (hd : decode cc pc = .ok (.iaload, 1)) : xSound PX G cc own ini pc (x_iald (pc + 1)) := by
  intro call d hc L S w pc' L' S' w' h
  unfold x_iald at h
  split at h
  · rename_i i a S0
    split at h
    · rename_i len d0 us ha
      cases hj : xix i len with
      | none => simp only [hj] at h; cases h
      | some j =>
        simp only [hj] at h
        cases h
        refine ⟨xLe_rf, ?_⟩
        intro p l e R s m args below meth c Q nL D tys sz b c0 s0 C1 hG hf hlo h1 h2 ls st H locs cells slots hM hL hS kk
        obtain ⟨x, st', rfl, ⟨x, rfl, hx⟩, u2, st2, rfl, hu, hS⟩ := hS
        cases hu
        obtain ⟨⟨ws, hR, hP⟩, hM2⟩ := id hM
        obtain ⟨u, hu, cA, ty, hty, hlen, hk⟩ := xcell hR ha
        rcases hk with ⟨-, f, rfl, hf2⟩ | ⟨h3, -⟩
        · obtain ⟨hin, hcl, hjl⟩ := xix_eq hj hx
          have ht := Option.some.inj (xty_of C1.2.2.2.2.2.2.1 hty)
          cases ht
          exact va_iald C1.1 C1.2.1 C1.2.2.2.2.2.1 hP a 0 hu hty hin hd (kk _ _ _ _ _ _ hM hL ⟨_, _, rfl, ⟨_, rfl, by rw [hcl]; exact hf2 j hjl⟩, hS⟩)
        · cases h3
    · cases h
  · cases h
theorem s_bald (hd : decode cc pc = .ok (.baload, 1)) : xSound PX G cc own ini pc (x_bald (pc + 1)) := by
  intro call d hc L S w pc' L' S' w' h
  unfold x_bald at h
  split at h
  · rename_i i a S0
    split at h
    · rename_i len d0 us ha
      cases hj : xix i len with
      | none => simp only [hj] at h; cases h
      | some j =>
        simp only [hj] at h
        cases h
        refine ⟨xLe_rf, ?_⟩
        intro p l e R s m args below meth c Q nL D tys sz b c0 s0 C1 hG hf hlo h1 h2 ls st H locs cells slots hM hL hS kk
        obtain ⟨x, st', rfl, ⟨x, rfl, hx⟩, u2, st2, rfl, hu, hS⟩ := hS
        cases hu
        obtain ⟨⟨ws, hR, hP⟩, hM2⟩ := id hM
        obtain ⟨u, hu, cA, ty, hty, hlen, hk⟩ := xcell hR ha
        rcases hk with ⟨-, f, rfl, hf2⟩ | ⟨h3, -⟩
        · obtain ⟨hin, hcl, hjl⟩ := xix_eq hj hx
          have ht := Option.some.inj (xty_of C1.2.2.2.2.2.2.1 hty)
          cases ht
          exact va_bald C1.1 C1.2.1 C1.2.2.2.2.2.1 hP a 1 hu hty hin hd (kk _ _ _ _ _ _ hM hL ⟨_, _, rfl, ⟨_, rfl, by rw [hcl]; exact hf2 j hjl⟩, hS⟩)
        · cases h3
    · rename_i len d0 us ha
      cases hj : xix i len with
      | none => simp only [hj] at h; cases h
      | some j =>
        simp only [hj] at h
        cases h
        refine ⟨xLe_rf, ?_⟩
        intro p l e R s m args below meth c Q nL D tys sz b c0 s0 C1 hG hf hlo h1 h2 ls st H locs cells slots hM hL hS kk
        obtain ⟨x, st', rfl, ⟨x, rfl, hx⟩, u2, st2, rfl, hu, hS⟩ := hS
        cases hu
        obtain ⟨⟨ws, hR, hP⟩, hM2⟩ := id hM
        obtain ⟨u, hu, cA, ty, hty, hlen, hk⟩ := xcell hR ha
        rcases hk with ⟨-, f, rfl, hf2⟩ | ⟨h3, -⟩
        · obtain ⟨hin, hcl, hjl⟩ := xix_eq hj hx
          have ht := Option.some.inj (xty_of C1.2.2.2.2.2.2.1 hty)
          cases ht
          exact va_zald C1.1 C1.2.1 C1.2.2.2.2.2.1 hP a 2 hu hty hin hd (kk _ _ _ _ _ _ hM hL ⟨_, _, rfl, ⟨_, rfl, by rw [hcl]; exact hf2 j hjl⟩, hS⟩)
        · cases h3
    · cases h
  · cases h
theorem s_aald (hd : decode cc pc = .ok (.aaload, 1)) : xSound PX G cc own ini pc (x_aald (pc + 1)) := by
  intro call d hc L S w pc' L' S' w' h
  unfold x_aald at h
  split at h
  · rename_i i a S0
    split at h
    · rename_i t len us ha
      cases hj : xix i len with
      | none => simp only [hj] at h; cases h
      | some j =>
        simp only [hj] at h
        cases h
        refine ⟨xLe_rf, ?_⟩
        intro p l e R s m args below meth c Q nL D tys sz b c0 s0 C1 hG hf hlo h1 h2 ls st H locs cells slots hM hL hS kk
        obtain ⟨x, st', rfl, ⟨x, rfl, hx⟩, u2, st2, rfl, hu, hS⟩ := hS
        cases hu
        obtain ⟨⟨ws, hR, hP⟩, hM2⟩ := id hM
        obtain ⟨u, hu, cA, ty, hty, hlen, rfl, f, rfl, hf2⟩ := xcell hR ha
        obtain ⟨hin, hcl, hjl⟩ := xix_eq hj hx
        have ht := Option.some.inj (xty_of C1.2.2.2.2.2.2.1 hty)
        cases ht
        refine va_aldq C1.1 C1.2.1 C1.2.2.2.2.2.1 hP a 4 hu hty hin hd (kk _ _ _ _ _ _ hM hL ⟨_, _, rfl, ?_, hS⟩)
        rw [hcl, hf2 j hjl]
        cases xlq us j <;> rfl
    · cases h
  · cases h
theorem xRW_same {sz b k : Nat} {tys : List (ClassId × FieldType)} {w : xW} {ws : va_W} {e : xE} {u : va_E} (h : xRW sz b tys w ws) (hk : xwg w k = some e) (hu : xRE sz b tys e u) : xRW sz b tys w (ws.set k (sz + k, u)) := by
  obtain ⟨u0, h0, -⟩ := h.2.1 k e hk
  have hl : k < ws.length := (List.getElem?_eq_some_iff.mp h0).1
  refine ⟨by rw [List.length_set]; exact h.1, fun j e' hj => ?_, fun j q hj => ?_⟩
  · by_cases hjk : j = k
    · subst hjk
      cases hk.symm.trans hj
      exact ⟨u, List.getElem?_set_self hl, hu⟩
    · rw [List.getElem?_set_ne (Ne.symm hjk)]
      exact h.2.1 j e' hj
  · by_cases hjk : j = k
    · subst hjk
      rw [List.getElem?_set_self hl] at hj
      cases hj
      rfl
    · rw [List.getElem?_set_ne (Ne.symm hjk)] at hj
      exact h.2.2 j q hj
theorem xup_nums (w : xW) (a t len : Nat) (d : Nat × Nat) (us : List (Nat × Nat × Nat)) (j : Nat) (v : Nat × Nat) : (xup w a t len d us j v).1 = w.1 ∧ (xup w a t len d us j v).2.1 = w.2.1 := by
  unfold xup
  cases (Nat.beq (xlk us d j).1 v.1 && Nat.beq (xlk us d j).2 v.2) with
  | true => exact ⟨rfl, rfl⟩
  | false => exact xws_nums w a _
theorem xup_ok {sz b a t len j : Nat} {tys : List (ClassId × FieldType)} {w : xW} {ws : va_W} {d v : Nat × Nat} {us : List (Nat × Nat × Nat)} {cA : ClassId} {ty : FieldType} {f : Nat → Int32} {x : Int32} (h : xRW sz b tys w ws) (ha : xwg w a = some (.inl (t, len, d, us))) (ht : t < 3) (hty : tys[t]? = some (cA, ty)) (hlen : len < 2147483648) (hf : ∀ j, j < len → xRI (xlk us d j) (f j)) (hx : xRI v x) : xRW sz b tys (xup w a t len d us j v) (ws.set a (sz + a, .inl (cA, len, .inl (upd f j x)))) := by
  unfold xup
  cases hb : (Nat.beq (xlk us d j).1 v.1 && Nat.beq (xlk us d j).2 v.2) with
  | true =>
    simp only [Bool.and_eq_true, Nat.beq_eq] at hb
    have e1 : xlk us d j = v := Prod.ext hb.1 hb.2
    refine xRW_same h ha ⟨cA, ty, hty, hlen, Or.inl ⟨ht, _, rfl, fun i hi => ?_⟩⟩
    by_cases hij : i = j
    · subst hij
      rw [pk_us, e1]
      exact hx
    · rw [pk_un hij]
      exact hf i hi
  | false =>
    refine xRW_set h ha ⟨cA, ty, hty, hlen, Or.inl ⟨ht, _, rfl, fun i hi => ?_⟩⟩
    rw [xlk_put]
    by_cases hij : i = j
    · subst hij
      rw [pk_us, if_pos rfl]
      exact hx
    · rw [pk_un hij, if_neg hij]
      exact hf i hi
theorem xMem_up {D : va_G} {tys : List (ClassId × FieldType)} {sz b c0 s0 : Nat} {s : State} {w w1 : xW} {ws1 : va_W} {H H1 : Heap} {locs locs1 : List Loc} {cells slots : Nat} (hM : xMem D tys sz b s c0 s0 w H locs cells slots) (hn : w1.1 = w.1 ∧ w1.2.1 = w.2.1) (hR : xRW sz b tys w1 ws1)
    (hP : va_P D vwCl ws1 H1) (hz : H1.size = H.size) (hS : va_S (fun q => sz ≤ q) s.heap H1 locs1) : xMem D tys sz b s c0 s0 w1 H1 locs1 cells slots := by
  obtain ⟨-, h1, -, h3, h4, h5⟩ := hM
  exact ⟨⟨_, hR, hP⟩, by rw [hz, hn.2]; exact h1, hS, by rw [hn.2]; exact h3, by rw [hn.1]; exact h4, h5⟩
theorem xLe_up {w w1 : xW} (hn : w1.1 = w.1 ∧ w1.2.1 = w.2.1) : xLe w w1 := ⟨by rw [hn.2]; exact Nat.le_refl _, by rw [hn.1]; exact Nat.le_refl _⟩
theorem s_iast (hd : decode cc pc = .ok (.iastore, 1)) : xSound PX G cc own ini pc (x_iast (pc + 1)) := by
  intro call d hc L S w pc' L' S' w' h
  unfold x_iast at h
  split at h
  · rename_i v i a S0
    split at h
    · rename_i len d0 us ha
      cases hj : xix i len with
      | none => simp only [hj] at h; cases h
      | some j =>
        simp only [hj] at h
        cases h
        refine ⟨xLe_up (xup_nums _ _ _ _ _ _ _ _), ?_⟩
        intro p l e R s m args below meth c Q nL D tys sz b c0 s0 C1 hG hf hlo h1 h2 ls st H locs cells slots hM hL hS kk
        obtain ⟨y, st', rfl, ⟨y, rfl, hy⟩, x, st', rfl, ⟨x, rfl, hx⟩, u2, st2, rfl, hu, hS⟩ := hS
        cases hu
        obtain ⟨⟨ws, hR, hP⟩, hz, hS0, hM2⟩ := id hM
        obtain ⟨u, hu, cA, ty, hty, hlen, hk⟩ := xcell hR ha
        rcases hk with ⟨-, f, rfl, hf2⟩ | ⟨h3, -⟩
        · obtain ⟨hin, hcl, hjl⟩ := xix_eq hj hx
          have ht := Option.some.inj (xty_of C1.2.2.2.2.2.2.1 hty)
          cases ht
          refine W.iast C1.1 C1.2.1 (hP a _ hu) ((C1.2.2.2.2.2.1.2 0 _ hty).1 len (fun j => .int (f j))) (fun q => by cases q) (by show ¬ (x < 0 ∨ (arrV _ _ _).slots.size ≤ _); rw [arrV_size]; exact hin) rfl rfl hd fun H1 e1 z oq => ?_
          have hP' : va_P D vwCl (ws.set a (sz + a, .inl (cA, len, .inl (upd f j y)))) H1 := by
            refine hP.set (xRW_D hR) hu ?_ oq
            show H1[sz + a]? = some (vp_cell _ _)
            rw [e1, vp_cell_i, vp_cell_i, arrV_store, hcl]
            congr 2
            funext q
            by_cases hq : q = j
            · subst hq; simp [updV, upd]
            · simp [updV, upd, hq]
          exact kk _ _ _ _ _ _ (xMem_up hM (xup_nums _ _ _ _ _ _ _ _) (xup_ok hR ha (by decide) hty hlen hf2 hy) hP' z (hS0.put z oq (Nat.le_add_right sz a))) hL hS
        · cases h3
    · cases h
  · cases h
theorem xnb_ok {v : Nat × Nat} {x : Int32} (h : xRI v x) : xRI (xnb v) (vp_nar .byte x) := by
  rw [vp_nar_byte]
  have hi := xo_int x
  have hb := fb_byte_rng0 x
  have hi2 := xo_int x.toInt8.toInt32
  unfold xnb
  cases hc : (Nat.ble 2147483520 v.1 && Nat.ble v.2 2147483775) with
  | true =>
    simp only [Bool.and_eq_true] at hc
    have q1 := xble hc.1
    have q2 := xble hc.2
    obtain ⟨h1, h2⟩ := h
    have e : x.toInt8.toInt32 = x := fb_byte0 (by omega) (by omega)
    show xRI v _
    rw [e]
    exact ⟨h1, h2⟩
  | false =>
    show 2147483520 ≤ _ ∧ _ ≤ 2147483775
    omega
theorem xnz_ok {v : Nat × Nat} {x : Int32} (h : xRI v x) (h1 : 2147483648 ≤ v.1) (h2 : v.2 ≤ 2147483649) : vp_nar .boolean x = x := by
  rcases xz1 (x := x) (Nat.le_trans h1 h.1) (Nat.le_trans h.2 h2) with rfl | rfl <;> decide +kernel
theorem s_bast (hd : decode cc pc = .ok (.bastore, 1)) : xSound PX G cc own ini pc (x_bast (pc + 1)) := by
  intro call d hc L S w pc' L' S' w' h
  unfold x_bast at h
  split at h
  · rename_i v i a S0
    split at h
    · rename_i len d0 us ha
      cases hj : xix i len with
      | none => simp only [hj] at h; cases h
      | some j =>
        simp only [hj] at h
        cases h
        refine ⟨xLe_up (xup_nums _ _ _ _ _ _ _ _), ?_⟩
        intro p l e R s m args below meth c Q nL D tys sz b c0 s0 C1 hG hf hlo h1 h2 ls st H locs cells slots hM hL hS kk
        obtain ⟨y, st', rfl, ⟨y, rfl, hy⟩, x, st', rfl, ⟨x, rfl, hx⟩, u2, st2, rfl, hu, hS⟩ := hS
        cases hu
        obtain ⟨⟨ws, hR, hP⟩, hz, hS0, hM2⟩ := id hM
        obtain ⟨u, hu, cA, ty, hty, hlen, hk⟩ := xcell hR ha
        rcases hk with ⟨-, f, rfl, hf2⟩ | ⟨h3, -⟩
        · obtain ⟨hin, hcl, hjl⟩ := xix_eq hj hx
          have ht := Option.some.inj (xty_of C1.2.2.2.2.2.2.1 hty)
          cases ht
          refine W.bast C1.1 C1.2.1 (hP a _ hu) ((C1.2.2.2.2.2.1.2 1 _ hty).1 len (fun j => .int (f j))) (fun q => by cases q) (by show ¬ (x < 0 ∨ (arrV _ _ _).slots.size ≤ _); rw [arrV_size]; exact hin) rfl rfl hd fun H1 e1 z oq => ?_
          have hP' : va_P D vwCl (ws.set a (sz + a, .inl (cA, len, .inl (upd f j (vp_nar .byte y))))) H1 := by
            refine hP.set (xRW_D hR) hu ?_ oq
            show H1[sz + a]? = some (vp_cell _ _)
            rw [e1, vp_cell_i, vp_cell_i, arrV_store, hcl]
            congr 2
            funext q
            by_cases hq : q = j
            · subst hq
              simp [updV, upd, vp_nar]
              try rfl
            · simp [updV, upd, hq]
          exact kk _ _ _ _ _ _ (xMem_up hM (xup_nums _ _ _ _ _ _ _ _) (xup_ok hR ha (by decide) hty hlen hf2 (xnb_ok hy)) hP' z (hS0.put z oq (Nat.le_add_right sz a))) hL hS
        · cases h3
    · rename_i len d0 us ha
      cases hj : xix i len with
      | none => simp only [hj] at h; cases h
      | some j =>
        simp only [hj] at h
        cases hcn : (Nat.ble 2147483648 v.1 && Nat.ble v.2 2147483649) with
        | false => rw [hcn] at h; cases h
        | true =>
          rw [hcn] at h
          cases h
          simp only [Bool.and_eq_true] at hcn
          refine ⟨xLe_up (xup_nums _ _ _ _ _ _ _ _), ?_⟩
          intro p l e R s m args below meth c Q nL D tys sz b c0 s0 C1 hG hf hlo h1 h2 ls st H locs cells slots hM hL hS kk
          obtain ⟨y, st', rfl, ⟨y, rfl, hy⟩, x, st', rfl, ⟨x, rfl, hx⟩, u2, st2, rfl, hu, hS⟩ := hS
          cases hu
          obtain ⟨⟨ws, hR, hP⟩, hz, hS0, hM2⟩ := id hM
          obtain ⟨u, hu, cA, ty, hty, hlen, hk⟩ := xcell hR ha
          rcases hk with ⟨-, f, rfl, hf2⟩ | ⟨h3, -⟩
          · obtain ⟨hin, hcl, hjl⟩ := xix_eq hj hx
            have ht := Option.some.inj (xty_of C1.2.2.2.2.2.2.1 hty)
            cases ht
            refine W.zast C1.1 C1.2.1 (hP a _ hu) ((C1.2.2.2.2.2.1.2 2 _ hty).1 len (fun j => .int (f j))) (fun q => by cases q) (by show ¬ (x < 0 ∨ (arrV _ _ _).slots.size ≤ _); rw [arrV_size]; exact hin) rfl rfl hd fun H1 e1 z oq => ?_
            have hnz := xnz_ok hy (xble hcn.1) (xble hcn.2)
            have hP' : va_P D vwCl (ws.set a (sz + a, .inl (cA, len, .inl (upd f j (vp_nar .boolean y))))) H1 := by
              refine hP.set (xRW_D hR) hu ?_ oq
              show H1[sz + a]? = some (vp_cell _ _)
              rw [e1, vp_cell_i, vp_cell_i, arrV_store, hcl]
              congr 2
              funext q
              by_cases hq : q = j
              · subst hq
                simp [updV, upd, vp_nar]
                try rfl
              · simp [updV, upd, hq]
            rw [hnz] at hP'
            exact kk _ _ _ _ _ _ (xMem_up hM (xup_nums _ _ _ _ _ _ _ _) (xup_ok hR ha (by decide) hty hlen hf2 hy) hP' z (hS0.put z oq (Nat.le_add_right sz a))) hL hS
          · cases h3
    · cases h
  · cases h
theorem s_last (hd : decode cc pc = .ok (.lastore, 1)) : xSound PX G cc own ini pc (x_last (pc + 1)) := by
  intro call d hc L S w pc' L' S' w' h
  unfold x_last at h
  split at h
  · rename_i q i a S0
    split at h
    · rename_i len d0 us ha
      cases hj : xix i len with
      | none => simp only [hj] at h; cases h
      | some j =>
        simp only [hj] at h
        cases h
        refine ⟨xLe_set, ?_⟩
        intro p l e R s m args below meth c Q nL D tys sz b c0 s0 C1 hG hf hlo h1 h2 ls st H locs cells slots hM hL hS kk
        obtain ⟨y, st', rfl, ⟨y, rfl, hy⟩, x, st', rfl, ⟨x, rfl, hx⟩, u2, st2, rfl, hu, hS⟩ := hS
        cases hu
        obtain ⟨⟨ws, hR, hP⟩, hz, hS0, hM2⟩ := id hM
        obtain ⟨u, hu, cA, ty, hty, hlen, hk⟩ := xcell hR ha
        rcases hk with ⟨h3, -⟩ | ⟨h3, f, rfl, hf3⟩
        · exact absurd h3 (by decide)
        · obtain ⟨hin, hcl, hjl⟩ := xix_eq hj hx
          have ht := Option.some.inj (xty_of C1.2.2.2.2.2.2.1 hty)
          cases ht
          refine W.last C1.1 C1.2.1 (hP a _ hu) ((C1.2.2.2.2.2.1.2 3 _ hty).1 len (fun j => .long (f j))) (fun q => by cases q) (by show ¬ (x < 0 ∨ (arrV _ _ _).slots.size ≤ _); rw [arrV_size]; exact hin) rfl rfl hd fun H1 e1 z oq => ?_
          have hP' : va_P D vwCl (ws.set a (sz + a, .inl (cA, len, .inr (.inl (vp_updL f j y))))) H1 := by
            refine hP.set (xRW_D hR) hu ?_ oq
            show H1[sz + a]? = some (vp_cell _ _)
            rw [e1, vp_cell_l, vp_cell_l, arrV_store, hcl]
            congr 2
            funext q
            by_cases hq : q = j
            · subst hq; simp [updV, vp_updL]
            · simp [updV, vp_updL, hq]
          have hup : ∀ i, i < len → xRQ (xlk (xlp us j (1, q)) d0 i) (vp_updL f j y i) := fun i hi => by
            rw [xlk_put]
            by_cases hij : i = j
            · subst hij
              rw [if_pos rfl, show vp_updL f i y i = y by simp [vp_updL]]
              exact ⟨fun h => absurd h (by show ¬ (1 : Nat) = 2147483648; decide), fun _ => hy⟩
            · rw [if_neg hij, show vp_updL f j y i = f i by simp [vp_updL, hij]]
              exact hf3 i hi
          exact kk _ _ _ _ _ _ (xMem_set hM hR ha (e := .inl (3, len, d0, xlp us j (1, q))) ⟨cA, _, hty, hlen, Or.inr ⟨rfl, _, rfl, hup⟩⟩ hP' z (hS0.put z oq (Nat.le_add_right sz a))) hL hS
    · cases h
  · cases h
theorem s_alen (hd : decode cc pc = .ok (.arraylength, 1)) : xSound PX G cc own ini pc (x_alen (pc + 1)) := by
  intro call d hc L S w pc' L' S' w' h
  unfold x_alen at h
  split at h
  · rename_i a S0
    split at h
    · rename_i len d0 us ha
      cases h
      refine ⟨xLe_rf, ?_⟩
      intro p l e R s m args below meth c Q nL D tys sz b c0 s0 C1 hG hf hlo h1 h2 ls st H locs cells slots hM hL hS kk
      obtain ⟨u2, st2, rfl, hu, hS⟩ := hS
      cases hu
      obtain ⟨⟨ws, hR, hP⟩, hM2⟩ := id hM
      obtain ⟨u, hu, cA, ty, hty, hlen, hk⟩ := xcell hR ha
      rcases hk with ⟨-, f, rfl, hf2⟩ | ⟨h3, -⟩
      · refine va_alen C1.1 C1.2.1 C1.2.2.2.2.2.1 hP a 0 hu hty rfl hd (kk _ _ _ _ _ _ hM hL ⟨_, _, rfl, ⟨_, rfl, ?_⟩, hS⟩)
        rw [← xo_nat hlen]
        exact xRI_c _
      · cases h3
    · cases h
  · cases h
end XS4
