section XS5
variable {PX : xPX} {G : State → Nat → Nat → Prop} {cc : ByteArray} {own : String} {ini : Bool} {pc : Nat}
/-- what stands in a field that was never written -/
def xdv (ty : FieldType) : xV := match ty with
  | .long => .inr (.inr 1)
  | .object _ => .inr (.inl none)
  | .array _ => .inr (.inl none)
  | _ => .inl (2147483648, 2147483648)
def xokt (ty : FieldType) : Bool := match ty with
  | .float => false
  | .double => false
  | _ => true
theorem xdv_ok {sz b : Nat} {ty : FieldType} (h : xokt ty = true) : xRV sz b (xdv ty) (defaultValue ty) := by
  cases ty with
  | float => cases h
  | double => cases h
  | long => exact ⟨_, rfl, trivial⟩
  | object C => exact rfl
  | array t => exact rfl
  | _ => exact ⟨0, rfl, xRI_z⟩
theorem xwp_nums {w w' : xW} {e : xE} {n : Nat} (h : xwp w e n = some w') : w'.1 = w.1 + n ∧ w'.2.1 = w.2.1 + 1 := ⟨(xwg_push (j := 0) h).1, (xwg_push (j := 0) h).2.1⟩
theorem xLe_push {w w' : xW} {e : xE} {n : Nat} (h : xwp w e n = some w') : xLe w w' := by
  obtain ⟨h1, h2⟩ := xwp_nums h
  exact ⟨by omega, by omega⟩
/-- a new cell at the heap's end -/
theorem xMem_push {D : va_G} {tys : List (ClassId × FieldType)} {sz b c0 s0 : Nat} {s : State} {w w' : xW} {ws : va_W} {H H1 : Heap} {locs : List Loc} {cells slots n : Nat} {e : xE} {u : va_E} (hM : xMem D tys sz b s c0 s0 w H locs cells slots) (hR : xRW sz b tys w ws) (hP : va_P D vwCl ws H) (hp : xwp w e n = some w') (hu : xRE sz b tys e u)
    (hat : va_at D vwCl (sz + w.2.1, u) H1) (hz : H1.size = H.size + 1) (ho : ∀ q, q < H.size → H1[q]? = H[q]?) : xMem D tys sz b s c0 s0 w' H1 locs (cells + 1) (slots + n) := by
  obtain ⟨-, h1, h2, h3, h4, h5⟩ := hM
  obtain ⟨n1, n2⟩ := xwp_nums hp
  refine ⟨⟨_, xRW_push hR hp hu, (hP.kept (fun k x hx => ho x.1 ((hP k x hx).lt))).app (fun k x hx => ?_)⟩, by rw [hz, n2]; omega, ⟨Nat.le_trans h2.1 (by omega), fun x g1 g2 => (ho x (Nat.lt_of_lt_of_le g1 h2.1)).trans (h2.2.1 x g1 g2), h2.2.2⟩, by omega, by omega, h5⟩
  have hz1 : k < 1 := (List.getElem?_eq_some_iff.mp hx).1
  rw [show k = 0 by omega] at hx
  cases hx
  exact hat
theorem s_new {index ci : Nat} {C : String} {T : u_T} {N : Nat} {ty : Nat → FieldType} {fs : List xV} (hd : decode cc pc = .ok (.new index, 3)) (hcl : vwCl[ci]? = some (C, T, N)) (hin : ∀ w ∈ u_ws C T N, w ∈ lw_tbl) (hty : ∀ k, k < N → parseFieldDescriptor (T k).2.2.1 = some (ty k)) (hok : (List.range N).all (fun j => xokt (ty j)) = true) (hfs : fs = (List.range N).map (fun j => xdv (ty j))) (hw1 : Cond.classLink own index C ∈ xTB) (hw2 : Cond.instantiable C N ∈ xTB) (hw3 : Cond.initialized C ∈ xTB) : xSound PX G cc own ini pc (x_new ci N fs (pc + 3)) := by
  intro call d hc L S w pc' L' S' w' h
  unfold x_new at h
  split at h
  · rename_i w1 hp
    cases h
    refine ⟨xLe_push hp, ?_⟩
    intro p l e R s m args below meth c Q nL D tys sz b c0 s0 C1 hG hf hlo h1 h2 ls st H locs cells slots hM hL hS kk
    obtain ⟨⟨ws, hR, hP⟩, hz, hS0, hM3, hM4, hM5⟩ := id hM
    obtain ⟨hx0, hb, hml, hown, hts, hK, hmap, hini⟩ := C1
    obtain ⟨n1, n2⟩ := xwp_nums hp
    have hKn := hK.1 ci _ hcl
    refine W.newcK hx0 hb hown (hts _ hw1) (hts _ hw2) (hts _ hw3) rfl hd (by omega) (by omega) hKn.2.1 hz fun H1 kC hkC e1 z1 o1 => ?_
    have hfv : ∀ j, j < N → defaultValue (ty j) = vp_V ((List.range N).map (fun j => defaultValue (ty j))) j := fun j hj => by
      simp [vp_V, hj]
    exact kk _ _ _ _ _ _ (xMem_push (u := .inr (ci, (List.range N).map (fun j => defaultValue (ty j)))) hM hR hP hp ⟨_, rfl, by rw [hfs]; exact xRS_map _ (fun j hj => xdv_ok (List.all_eq_true.mp hok j hj))⟩ ⟨_, hcl, (u_born ty hts (xin1 hin) hKn hkC e1 hty).to hfv⟩ (by rw [z1, hz]) (fun q hq => o1 q (by rw [← hz]; exact hq))) hL ⟨_, _, rfl, rfl, hS⟩
  · cases h
theorem x_newa_eq {t n : Nat} {call : xC} {L : List (Option xV)} {S : List xV} {w : xW} {r : xS} (h : x_newa t n call L S w = some r) : ∃ i S0 w1, S = .inl i :: S0 ∧ i.1 = i.2 ∧ 2147483648 ≤ i.1 ∧ i.1 < 2148483648 ∧ xwp w (.inl (t, i.1 - 2147483648, (2147483648, 2147483648), [])) (i.1 - 2147483648) = some w1 ∧ r = (n, L, .inr (.inl (some w.2.1)) :: S0, w1) := by
  unfold x_newa at h
  split at h
  · rename_i i S0
    cases hb : (Nat.beq i.1 i.2 && (Nat.ble 2147483648 i.1 && Nat.blt i.1 2148483648)) with
    | false => rw [hb] at h; cases h
    | true =>
      rw [hb] at h
      simp only [Bool.and_eq_true] at hb
      cases hp : xwp w (.inl (t, i.1 - 2147483648, (2147483648, 2147483648), [])) (i.1 - 2147483648) with
      | none => simp only [hp] at h; cases h
      | some w1 =>
        simp only [hp] at h
        exact ⟨i, S0, w1, rfl, Nat.eq_of_beq_eq_true hb.1, xble hb.2.1, xblt hb.2.2, hp, (Option.some.inj h).symm⟩
  · cases h
theorem s_newa {t : Nat} {atype : ArrayType} {ty : FieldType} (hd : decode cc pc = .ok (.newarray atype, 2)) (hta : newarray.typeOf atype = ty) (hty : xTys[t]? = some ty) (hw : Cond.arrayClass (newarray.typeOf atype) ∈ xTB) (hbytes : componentBytes (newarray.typeOf atype) ≤ 8) (hnm : ∀ (U : State) (cA : ClassId), va_RA U cA ty = (U.vm.findClass ("[" ++ ty.toString) = some cA))
    (hk : (t < 3 ∧ defaultValue ty = .int 0) ∨ (t = 3 ∧ defaultValue ty = .long 0)) : xSound PX G cc own ini pc (x_newa t (pc + 2)) := by
  intro call d hc L S w pc' L' S' w' h
  obtain ⟨i, S0, w1, rfl, q1, q2, q3, hp, hr⟩ := x_newa_eq h
  cases hr
  refine ⟨xLe_push hp, ?_⟩
  intro p l e R s m args below meth c Q nL D tys sz b c0 s0 C1 hG hf hlo h1 h2 ls st H locs cells slots hM hL hS kk
  obtain ⟨u, st', rfl, ⟨x, rfl, hx⟩, hS⟩ := hS
  obtain ⟨⟨ws, hR, hP⟩, hz, hS0, hM3, hM4, hM5⟩ := id hM
  obtain ⟨hx0, hb, hml, hown, hts, hK, hmap, hini⟩ := C1
  obtain ⟨n1, n2⟩ := xwp_nums hp
  have ex : xo x = i.1 := Nat.le_antisymm (by rw [q1]; exact hx.2) hx.1
  have hneg : ¬ x < 0 := by rw [xo_lt_iff, xo_zero]; omega
  have hN : x.toNatClampNeg = i.1 - 2147483648 := by rw [xo_clamp (by omega), ex]
  obtain ⟨cA0, htA⟩ := xty_ex hmap hty
  refine va_newaK hx0 hb (hts _ hw) rfl hd rfl hneg hN ?_ (by omega) (by omega) hz fun H1 cA e1 z1 o1 hAr hNm => ?_
  · have : (i.1 - 2147483648) * componentBytes (newarray.typeOf atype) ≤ (i.1 - 2147483648) * 8 := Nat.mul_le_mul_left _ hbytes
    omega
  · subst hta
    have hcA : cA = cA0 := by
      have h9 := (hK.2 t _ htA).2
      rw [hnm] at h9
      exact Option.some.inj (hNm.symm.trans h9)
    subst hcA
    rcases hk with ⟨k1, k2⟩ | ⟨k1, k2⟩
    · refine kk _ _ _ _ _ _ (xMem_push (u := .inl (cA, i.1 - 2147483648, .inl (fun _ => 0))) hM hR hP hp ⟨cA, _, htA, by omega, Or.inl ⟨k1, _, rfl, fun j hj => xRI_z⟩⟩ ?_ (by rw [z1, hz]) (fun q hq => o1 q (by rw [← hz]; exact hq))) hL ⟨_, _, rfl, rfl, hS⟩
      show H1[sz + w.2.1]? = some (vp_cell _ _)
      rw [e1, vp_cell_i, k2]
    · refine kk _ _ _ _ _ _ (xMem_push (u := .inl (cA, i.1 - 2147483648, .inr (.inl (fun _ => 0)))) hM hR hP hp ⟨cA, _, htA, by omega, Or.inr ⟨k1, _, rfl, fun _ _ => ⟨fun _ => rfl, fun h => absurd h (by show ¬ (2147483648 : Nat) = 1; decide)⟩⟩⟩ ?_ (by rw [z1, hz]) (fun q hq => o1 q (by rw [← hz]; exact hq))) hL ⟨_, _, rfl, rfl, hS⟩
      show H1[sz + w.2.1]? = some (vp_cell _ _)
      rw [e1, vp_cell_l, k2]
theorem s_newq {index : Nat} (hd : decode cc pc = .ok (.anewarray index, 3)) (hw1 : Cond.classLink own index "CapitalCase$Town" ∈ xTB) : xSound PX G cc own ini pc (x_newq (pc + 3)) := by
  intro call d hc L S w pc' L' S' w' h
  unfold x_newq at h
  split at h
  · rename_i i S0
    cases hb : (Nat.beq i.1 i.2 && (Nat.ble 2147483648 i.1 && Nat.blt i.1 2148483648)) with
    | false => rw [hb] at h; cases h
    | true =>
      rw [hb] at h
      simp only [Bool.and_eq_true] at hb
      have q1 := Nat.eq_of_beq_eq_true hb.1
      have q2 := xble hb.2.1
      have q3 := xblt hb.2.2
      cases hp : xwp w (.inr (.inl (4, i.1 - 2147483648, []))) (i.1 - 2147483648) with
      | none => simp only [hp] at h; cases h
      | some w1 =>
        simp only [hp] at h
        cases h
        refine ⟨xLe_push hp, ?_⟩
        intro p l e R s m args below meth c Q nL D tys sz b c0 s0 C1 hG hf hlo h1 h2 ls st H locs cells slots hM hL hS kk
        obtain ⟨u, st', rfl, ⟨x, rfl, hx⟩, hS⟩ := hS
        obtain ⟨⟨ws, hR, hP⟩, hz, hS0, hM3, hM4, hM5⟩ := id hM
        obtain ⟨hx0, hb, hml, hown, hts, hK, hmap, hini⟩ := C1
        obtain ⟨n1, n2⟩ := xwp_nums hp
        have ex : xo x = i.1 := Nat.le_antisymm (by rw [q1]; exact hx.2) hx.1
        have hneg : ¬ x < 0 := by rw [xo_lt_iff, xo_zero]; omega
        have hN : x.toNatClampNeg = i.1 - 2147483648 := by rw [xo_clamp (by omega), ex]
        obtain ⟨cA0, htA⟩ := xty_ex (t := 4) hmap rfl
        refine W.anew hx0 hb hown (hts _ hw1) (va_AO.use hini.2.2) rfl hd rfl hneg (by omega) (by omega) (by omega) fun cA kA comp f1 f2 f3 f4 => ?_
        have hcA : cA = cA0 := by
          obtain ⟨kA', comp', -, -, -, h9⟩ := (hK.2 4 _ htA).2
          exact Option.some.inj (f1.symm.trans h9)
        subst hcA
        rw [hN]
        generalize hH1 : H.push ({ cls := cA, slots := Array.replicate (i.1 - 2147483648) .null, vm := .none } : Cell) = H1
        have z1 : H1.size = H.size + 1 := by rw [← hH1, Array.size_push]
        have e1 : H1[H.size]? = some (arrV cA (i.1 - 2147483648) (fun _ => .null)) := by rw [← hH1, Array.getElem?_push_size, ← arrV_new]
        have o1 : ∀ q : Nat, q < H.size → H1[q]? = H[q]? := fun q hq => by rw [← hH1, Array.getElem?_push, if_neg (Nat.ne_of_lt hq)]
        rw [hz]
        refine kk _ _ _ _ _ _ (xMem_push (u := .inl (cA, i.1 - 2147483648, .inr (.inr (.inr (.inr (fun _ => none)))))) hM hR hP hp ⟨cA, _, htA, by omega, rfl, _, rfl, fun j hj => rfl⟩ ?_ z1 o1) hL ⟨_, _, rfl, rfl, hS⟩
        show H1[sz + w.2.1]? = some (vp_cell _ _)
        rw [vp_cell_q, ← hz]
        exact e1
  · cases h
/-- the heap's size, by the room that is used -/
theorem x_size {p : Program} {l : Launch} {e : Env} {R : Room} {s : State} {m : MethodId} {args : Array Value} {below : List Frame} {meth : Method} {c : Code} {T : State} {locs : List Loc} {cells slots : Nat} {D : va_G} {tys : List (ClassId × FieldType)} {sz b c0 : Nat} {w : xW} {ws : va_W} {H1 : Heap} (X : Stand p l e R s m args below meth c T locs cells slots) (hT : T.heap = H1) (hP : va_P D vwCl ws H1) (hR : xRW sz b tys w ws) (h5 : s.heap.size = sz + c0) (h3 : c0 + cells = w.2.1) : H1.size = sz + w.2.1 := by
  have hs := X.same
  have h1 : s.heap.size ≤ H1.size := by rw [← hT]; exact hs.2.1
  have h2 : H1.size ≤ s.heap.size + cells := by rw [← hT]; exact hs.2.2.1
  by_cases hw : w.2.1 = 0
  · omega
  · have hl : w.2.1 - 1 < ws.length := by rw [hR.1]; omega
    have hq : ws[w.2.1 - 1]? = some ws[w.2.1 - 1] := List.getElem?_eq_getElem hl
    have h6 := (hP _ _ hq).lt
    have h7 := hR.2.2 _ _ hq
    omega
theorem s_aast {ci : Nat} {T : u_T} {N : Nat} (hd : decode cc pc = .ok (.aastore, 1)) (hcl : vwCl[ci]? = some ("CapitalCase$Town", T, N)) : xSound PX G cc own ini pc (x_aast ci (pc + 1)) := by
  intro call d hc L S w pc' L' S' w' h
  unfold x_aast at h
  split at h
  · rename_i v i a S0
    split at h
    · rename_i t len us ha
      cases hj : xix i len with
      | none => simp only [hj] at h; cases h
      | some j =>
        simp only [hj] at h
        split at h
        · rename_i c1 fs hv
          cases hb : Nat.beq c1 ci with
          | false => rw [hb] at h; cases h
          | true =>
            rw [hb] at h
            have e1 := Nat.eq_of_beq_eq_true hb
            subst e1
            cases h
            refine ⟨xLe_set, ?_⟩
            intro p l e R s m args below meth c Q nL D tys sz b c0 s0 C1 hG hf hlo h1 h2 ls st H locs cells slots hM hL hS kk
            obtain ⟨u1, st1, rfl, hu1, x, st', rfl, ⟨x, rfl, hx⟩, u2, st2, rfl, hu, hS⟩ := hS
            cases hu
            cases hu1
            obtain ⟨⟨ws, hR, hP⟩, hz, hS0, hM3, hM4, hM5⟩ := id hM
            obtain ⟨u, hu, cA, ty, hty, hlen, rfl, f, rfl, hf2⟩ := xcell hR ha
            obtain ⟨uv, huv, vs, rfl, -⟩ := xcell hR hv
            obtain ⟨hin, hcl2, hjl⟩ := xix_eq hj hx
            have ht := Option.some.inj (xty_of C1.2.2.2.2.2.2.1 hty)
            cases ht
            refine va_astq C1.1 C1.2.1 C1.2.2.2.2.2.1 hP (xRW_D hR) hS0 a 4 v c1 hu hty huv hcl hin hd (fun H1 locs1 g1 g2 g3 => ?_)
            rw [hcl2] at g1
            have hR1 : xRW sz b tys (xws w a (.inr (.inl (4, len, (j, v) :: us)))) (ws.set a (sz + a, .inl (cA, len, .inr (.inr (.inr (.inr (va_up f j (some (sz + v))))))))) := by
              refine xRW_set hR ha ⟨cA, _, hty, hlen, rfl, _, rfl, fun i2 hi2 => ?_⟩
              show (if i2 = j then some (sz + v) else f i2) = Option.map _ (bif Nat.beq j i2 then some v else xlq us i2)
              by_cases hij : i2 = j
              · subst hij
                simp
              · rw [if_neg hij, xbeqF (Ne.symm hij)]
                exact hf2 i2 hi2
            have hn := xws_nums w a (.inr (.inl (4, len, (j, v) :: us)))
            intro T0 hT0 X0
            exact kk _ _ _ _ _ _ ⟨⟨_, hR1, g1⟩, x_size X0 hT0 g1 hR1 hM5 (by rw [hn.2]; exact hM3), g3, by rw [hn.2]; exact hM3, by rw [hn.1]; exact hM4, hM5⟩ hL hS T0 hT0 X0
        · cases h
    · cases h
  · cases h
/-- how many words a stack has -/
def xcat (S : List xV) : Nat := match S with
  | [] => 0
  | .inr (.inr (_ + 1)) :: S => xcat S + 2
  | _ :: S => xcat S + 1
theorem xcat_ok {sz b : Nat} : ∀ {S : List xV} {st : List Value}, xRS sz b S st → (st.map fun v => v.category).sum = xcat S
  | [], st, h => by cases h; rfl
  | v :: S, st, h => by
    obtain ⟨u, st', rfl, hu, h2⟩ := h
    have ih := xcat_ok h2
    simp only [List.map_cons, List.sum_cons]
    rw [ih]
    match v, hu with
    | .inl a, hu => obtain ⟨x, rfl, -⟩ := hu; show 1 + xcat S = xcat S + 1; omega
    | .inr (.inl none), hu => cases hu; show 1 + xcat S = xcat S + 1; omega
    | .inr (.inl (some k)), hu => cases hu; show 1 + xcat S = xcat S + 1; omega
    | .inr (.inr 0), hu => cases hu; show 1 + xcat S = xcat S + 1; omega
    | .inr (.inr (k + 1)), hu => obtain ⟨x, rfl, -⟩ := hu; show 2 + xcat S = xcat S + 2; omega
noncomputable def x_obj (n : Nat) : xF := fun _ L S w => match S with
  | .inr (.inl (some _)) :: S => bif Nat.ble (xcat S) 8 then some (n, L, S, w) else none
  | _ => none
theorem s_obj {index : Nat} (hd : decode cc pc = .ok (.invokespecial index, 3)) (hw1 : Cond.methodLink own index objectInit ∈ xTB) (hw2 : Cond.instanceMethod objectInit ∈ xTB) (hw3 : Cond.code objectInit ⟨#[0xb1]⟩ 1 none ∈ xTB) : xSound PX G cc own ini pc (x_obj (pc + 3)) := by
  intro call d hc L S w pc' L' S' w' h
  unfold x_obj at h
  split at h
  · rename_i k S0
    cases hb : Nat.ble (xcat S0) 8 with
    | false => rw [hb] at h; cases h
    | true =>
      rw [hb] at h
      cases h
      have hb := xble hb
      refine ⟨xLe_rf, ?_⟩
      intro p l e R s m args below meth c Q nL D tys sz b c0 s0 C1 hG hf hlo h1 h2 ls st H locs cells slots hM hL hS kk
      obtain ⟨u2, st2, rfl, hu, hS⟩ := hS
      cases hu
      have hcat := xcat_ok hS
      refine W.objInit C1.1 C1.2.1 C1.2.2.2.1 (C1.2.2.2.2.1 _ hw1) (C1.2.2.2.2.1 _ hw2) (C1.2.2.2.2.1 _ hw3) rfl (by rw [C1.2.2.1]; obtain ⟨-, lv, g, -⟩ := hL; exact g.1) rfl hd (by omega) ?_ (kk _ _ _ _ _ _ hM hL hS)
      show 2 * 0 + _ + 12 ≤ _
      omega
  · cases h
/-- a whole int array is copied -/
noncomputable def x_copy (n : Nat) : xF := fun _ L S w => match S with
  | .inl k :: .inl dp :: .inr (.inl (some a)) :: .inl sp :: .inr (.inl (some a0)) :: S => (match xwg w a0 with
    | some (.inl (0, n0, d0, us0)) => (match xwg w a with
      | some (.inl (0, n1, _, _)) => bif Nat.ble (xcat S) 8 && (Nat.beq sp.1 2147483648 && (Nat.beq sp.2 2147483648 && (Nat.beq dp.1 2147483648 && (Nat.beq dp.2 2147483648 && (Nat.beq k.1 (n1 + 2147483648) && (Nat.beq k.2 (n1 + 2147483648) && Nat.ble n1 n0)))))) then some (n, L, S, xws w a (.inl (0, n1, d0, us0))) else none
      | _ => none)
    | _ => none)
  | _ => none
theorem s_copy {index : Nat} (hd : decode cc pc = .ok (.invokestatic index, 3)) (hw1 : Cond.methodLink own index arraycopyName ∈ xTB) (hw2 : Cond.native arraycopyName ∈ xTB) (hw3 : Cond.static arraycopyName ∈ xTB) (hw4 : Cond.initialized "java/lang/System" ∈ xTB) (hnw : nativeFrameWords "java/lang/System" "arraycopy" 5 + 11 ≤ 56) : xSound PX G cc own ini pc (x_copy (pc + 3)) := by
  intro call d hc L S w pc' L' S' w' h
  unfold x_copy at h
  split at h
  · rename_i k dp a sp a0 S0
    split at h
    · rename_i n0 d0 us0 ha0
      split at h
      · rename_i n1 d1 us1 ha
        cases hb : (Nat.ble (xcat S0) 8 && (Nat.beq sp.1 2147483648 && (Nat.beq sp.2 2147483648 && (Nat.beq dp.1 2147483648 && (Nat.beq dp.2 2147483648 && (Nat.beq k.1 (n1 + 2147483648) && (Nat.beq k.2 (n1 + 2147483648) && Nat.ble n1 n0))))))) with
        | false => rw [hb] at h; cases h
        | true =>
          rw [hb] at h
          cases h
          simp only [Bool.and_eq_true] at hb
          obtain ⟨b0, b1, b2, b3, b4, b5, b6, b7⟩ := hb
          have b0 := xble b0
          have b1 := Nat.eq_of_beq_eq_true b1
          have b2 := Nat.eq_of_beq_eq_true b2
          have b3 := Nat.eq_of_beq_eq_true b3
          have b4 := Nat.eq_of_beq_eq_true b4
          have b5 := Nat.eq_of_beq_eq_true b5
          have b6 := Nat.eq_of_beq_eq_true b6
          have b7 := xble b7
          refine ⟨xLe_set, ?_⟩
          intro p l e R s m args below meth c Q nL D tys sz b c0 s0 C1 hG hf hlo h1 h2 ls st H locs cells slots hM hL hS kk
          obtain ⟨_, _, rfl, ⟨x, rfl, hx⟩, _, _, rfl, ⟨y, rfl, hy⟩, _, _, rfl, hu1, _, _, rfl, ⟨z, rfl, hz1⟩, _, st2, rfl, hu2, hS⟩ := hS
          cases hu1
          cases hu2
          obtain ⟨⟨ws, hR, hP⟩, hz, hS0, hM3, hM4, hM5⟩ := id hM
          obtain ⟨u, hu, cA, ty, hty, hlen, hk⟩ := xcell hR ha
          obtain ⟨u0, hu0, cA0, ty0, hty0, hlen0, hk0⟩ := xcell hR ha0
          rcases hk with ⟨-, f, rfl, hf2⟩ | ⟨h3, -⟩
          · rcases hk0 with ⟨-, f0, rfl, hf0⟩ | ⟨h3, -⟩
            · have ht := Option.some.inj (xty_of C1.2.2.2.2.2.2.1 hty)
              cases ht
              have ht := Option.some.inj (xty_of C1.2.2.2.2.2.2.1 hty0)
              cases ht
              obtain ⟨hx1, hx2⟩ := hx
              obtain ⟨hy1, hy2⟩ := hy
              obtain ⟨hz2, hz3⟩ := hz1
              have ex : xo x = n1 + 2147483648 := by omega
              have ey : xo y = 2147483648 := by omega
              have ez : xo z = 2147483648 := by omega
              have cx : x.toNatClampNeg = n1 := by rw [xo_clamp (by omega), ex]; omega
              have cy : y.toNatClampNeg = 0 := by rw [xo_clamp (by omega), ey]
              have cz : z.toNatClampNeg = 0 := by rw [xo_clamp (by omega), ez]
              have hcat := xcat_ok hS
              refine va_copyi (D := D) (cl := vwCl) C1.1 C1.2.1 (by rw [C1.2.2.1]; obtain ⟨-, lv, g, -⟩ := hL; exact g.1.symm) C1.2.2.2.1 (C1.2.2.2.2.1 _ hw1) (C1.2.2.2.2.1 _ hw2) (C1.2.2.2.2.1 _ hw3) (C1.2.2.2.2.1 _ hw4) C1.2.2.2.2.2.1 hP (xRW_D hR) hS0 a0 a 0 0 hu0 hu hty0 hty rfl (by rw [xo_lt_iff, xo_zero]; omega) (by rw [xo_lt_iff, xo_zero]; omega) (by rw [xo_lt_iff, xo_zero]; omega) (by omega) (by omega) (fun i hi => rfl) (by omega) (by omega) hd (fun H1 locs1 g1 g2 g3 => ?_)
              rw [cx, cy, cz] at g1
              have hR1 : xRW sz b tys (xws w a (.inl (0, n1, d0, us0))) (ws.set a (sz + a, .inl (cA, n1, .inl (va_cpy f0 f 0 0 n1)))) := by
                refine xRW_set hR ha ⟨cA, _, hty, hlen, Or.inl ⟨by decide, _, rfl, fun j hj => ?_⟩⟩
                rw [pk_cpy_in (Nat.zero_le _) (by omega)]
                rw [show 0 + (j - 0) = j by omega]
                exact hf0 j (by omega)
              have hn := xws_nums w a (.inl (0, n1, d0, us0))
              intro T0 hT0 X0
              exact kk _ _ _ _ _ _ ⟨⟨_, hR1, g1⟩, x_size X0 hT0 g1 hR1 hM5 (by rw [hn.2]; exact hM3), g3, by rw [hn.2]; exact hM3, by rw [hn.1]; exact hM4, hM5⟩ hL hS T0 hT0 X0
            · cases h3
          · cases h3
      · cases h
    · cases h
  · cases h
end XS5
