/-! arraycopy, with the heap's size -/
section ZS9
variable {g : zG} {PX : xPX} {bd : Nat → Nat × Nat} {pre : zPre} {post : zPost} {d : Nat × Nat × Nat} {cc : ByteArray} {own : String} {pc : Nat}
theorem z_copyW {p : Program} {l : Launch} {e : Env} {R : Room} {s : State} {m : MethodId} {args : Array Value} {below : List Frame} {meth : Method} {c : Code} {H : Heap} {locs : List Loc} {cells slots : Nat} {Q : State → Prop} {ls : Array Slot} {rest : List Value} {D : va_G} {tys : List (ClassId × FieldType)} {ws : va_W} {A : Nat → Prop} {H0 : Heap} {a : Nat}
    (hexec : p.tables.exec = Jvm.exec) (hb : c.code = cc) (hml : c.maxLocals = ls.size) {index : Nat} (hown : s.vm.findClass own = some m.cls) (hlink : (Cond.methodLink own index arraycopyName).before args s = true) (hnat : (Cond.native arraycopyName).before args s = true) (hstat : (Cond.static arraycopyName).before args s = true) (hini : (Cond.initialized "java/lang/System").before args s = true)
    (hK : va_K D vwCl tys s) (hP : va_P D vwCl ws H) (hD : va_D A ws) (hS : va_S A H0 H locs) (q0 q1 : Nat) {a0 : Nat} {c0 c1 : ClassId} {n0 n1 : Nat} {f g : Nat → Int32} (ha0 : ws[q0]? = some (a0, .inl (c0, n0, .inl f))) (ha1 : ws[q1]? = some (a, .inl (c1, n1, .inl g))) (ht0 : tys[0]? = some (c0, .int)) (ht1 : tys[0]? = some (c1, .int))
    (hn : n1 ≤ n0) (hn1 : n1 < 2147483648)
    (hframes : 1 ≤ R.frames) (hlocals : (rest.map fun v => v.category).sum + (nativeFrameWords "java/lang/System" "arraycopy" 5 + 11) ≤ R.locals) (hdg : decode cc pc = .ok (.invokestatic index, 3))
    (kk : ∀ (H1 : Heap) (locs1 : List Loc), H1.size = H.size → va_P D vwCl (ws.set q1 (a, .inl (c1, n1, .inl (va_cpy f g 0 0 n1)))) H1 → va_S A H0 H1 locs1 → W p l e R s m args below meth c H1 locs1 cells slots Q (F0 m (pc + 3) ls rest)) : W p l e R s m args below meth c H locs cells slots Q (F0 m pc ls (.int (Int32.ofNat n1) :: .int 0 :: .ref a :: .int 0 :: .ref a0 :: rest)) := by
  have hnt : (Int32.ofNat n1).toInt = (n1 : Int) := by rw [Int32.toInt_ofNat_of_lt hn1]
  have hnc : (Int32.ofNat n1).toNatClampNeg = n1 := by show (Int32.ofNat n1).toInt.toNat = n1; rw [hnt]; rfl
  have hnn : ¬ Int32.ofNat n1 < 0 := by rw [Int32.lt_iff_toInt_lt, hnt]; simp
  have h00 : ¬ (0 : Int32) < 0 := by decide
  have h0c : (0 : Int32).toNatClampNeg = 0 := by decide
  have h0i : (0 : Int32).toInt = 0 := by decide
  intro T hT X
  have hc0 : H[a0]? = some (vp_cell c0 (n0, .inl f)) := hP q0 _ ha0
  have hc1 : H[a]? = some (vp_cell c1 (n1, .inl g)) := hP q1 _ ha1
  obtain ⟨-, k0, hk0, cm0, hkk0⟩ := (hK.2 0 _ ht0).1 n0 (fun j => .int (f j))
  obtain ⟨-, k1, hk1, cm1, hkk1⟩ := (hK.2 0 _ ht1).1 n1 (fun j => .int (g j))
  obtain ⟨vm', X', step⟩ := X.arraycopy hexec hown hlink hnat hstat hini (src := a0) (dst := a) (cs := vp_cell c0 (n0, .inl f)) (cd := vp_cell c1 (n1, .inl g)) (srcPos := 0) (destPos := 0) (n := Int32.ofNat n1) (by rw [hT]; exact hc0) (by rw [hT]; exact hc1)
    (fun _ h => by cases h) (fun _ h => by cases h) (fun h => by cases h) (fun h => by cases h) hk0 hk1 hkk0 hkk1 (by rfl) h00 h00 hnn
    (by rw [h0i, hnt]; show ¬ _ > ((arrV c0 n0 (fun j => .int (f j))).slots.size : Int); rw [arrV_size]; omega)
    (by rw [h0i, hnt]; show ¬ _ > ((arrV c1 n1 (fun j => .int (g j))).slots.size : Int); rw [arrV_size]; omega)
    (fun vm₁ _ i hi => by
      have e : (vp_cell c0 (n0, .inl f)).slots.getD ((0 : Int32).toNatClampNeg + i) .null = .int (f ((0 : Int32).toNatClampNeg + i)) := by
        show (arrV c0 n0 (fun j => .int (f j))).slots.getD _ _ = _
        rw [Array.getD_eq_getD_getElem?, arrV_read _ _ (by rw [h0c]; rw [hnc] at hi; omega)]
        rfl
      refine ⟨?_, ?_⟩
      · rw [e]
        rfl
      · rw [e]
        exact trivial)
    (g := F0 m pc ls (.int (Int32.ofNat n1) :: .int 0 :: .ref a :: .int 0 :: .ref a0 :: rest)) rfl (by rw [hml]) (rest := rest) rfl (by rw [hb]; exact hdg) hframes (by show 2 * 0 + _ + _ ≤ _; omega)
  have e1 : copied (vp_cell c0 (n0, .inl f)) (vp_cell c1 (n1, .inl g)) 0 0 (Int32.ofNat n1) = vp_cell c1 (n1, .inl (va_cpy f g 0 0 n1)) := by
    have h4 : (0 : Int32).toNatClampNeg + (Int32.ofNat n1).toNatClampNeg ≤ n0 := by rw [h0c, hnc]; omega
    have h5 : copied (vp_cell c0 (n0, .inl f)) (vp_cell c1 (n1, .inl g)) 0 0 (Int32.ofNat n1) = vp_cell c1 (n1, .inl (va_cpy f g (0 : Int32).toNatClampNeg (0 : Int32).toNatClampNeg (Int32.ofNat n1).toNatClampNeg)) := va_copied (fun z => .int z) c0 c1 f g h4
    rw [h0c, hnc] at h5
    exact h5
  rw [e1] at X' step
  have hl : a < H.size := (Array.getElem?_eq_some_iff.mp hc1).1
  have hheap : ((T.setVm vm').setCell a (vp_cell c1 (n1, .inl (va_cpy f g 0 0 n1)))).heap = H.setIfInBounds a (vp_cell c1 (n1, .inl (va_cpy f g 0 0 n1))) := by rw [← hT]; rfl
  have oq : ∀ q : Nat, q ≠ a → (H.setIfInBounds a (vp_cell c1 (n1, .inl (va_cpy f g 0 0 n1))))[q]? = H[q]? := fun q hq => by simp [Array.getElem?_setIfInBounds, Ne.symm hq]
  obtain ⟨t, a1, b1⟩ := kk _ _ (by simp) (hP.set hD ha1 (show (H.setIfInBounds a _)[a]? = some _ by simp [Array.getElem?_setIfInBounds, hl]) oq) ⟨by simp; exact hS.1, fun q g1 g2 => by
      rw [oq q (fun e => g2 (by rw [e]; exact hD.2 q1 _ ha1))]
      exact hS.2.1 q g1 g2, fun q hq => by
      rcases List.mem_append.mp hq with h | h
      · exact hS.2.2 q h
      · obtain ⟨z, -, hz⟩ := List.mem_map.mp h
        rw [← hz]
        exact hD.2 q1 _ ha1⟩ _ hheap X'
  exact ⟨t, step t a1, b1⟩
theorem zcp_lo {I : zI} {k0 k1 n id : Nat} (h : id < 4096) : zcp g I k0 k1 n id = I id := by
  unfold zcp zid
  rw [if_neg (by omega)]
theorem zcp_ne {I : zI} {k0 k1 n kd j : Nat} (h : kd ≠ k1) (hn : n ≤ 4096) (hj : j < 4096) : zcp g I k0 k1 n (zid kd j) = I (zid kd j) := by
  unfold zcp zid
  rw [if_neg (by omega)]
theorem zcp_at {I : zI} {k0 k1 n j : Nat} (hv : g.2.2.2.2.2 k1 = true) (hj : j < n) : zcp g I k0 k1 n (zid k1 j) = I (zid k0 j) := by
  unfold zcp
  rw [if_pos ⟨hv, by unfold zid; omega, by unfold zid; omega⟩]
  rw [show zid k1 j - zid k1 0 = j by unfold zid; omega]
theorem zcp_no {I : zI} {k0 k1 n : Nat} (hv : g.2.2.2.2.2 k1 = false) : zcp g I k0 k1 n = I := by
  funext id
  unfold zcp
  rw [if_neg (by rw [hv]; simp)]
theorem zCell_cp (hinj : zInj g) {sz N : Nat} {tys : List (ClassId × FieldType)} {I : zI} {a k0 t n : Nat} (hd : g.2.1 (g.1 a) = .inr (t, n)) : ∀ (k : Nat) (u : va_E), k < N → k ≠ a → zCell g sz N tys I k u → zCell g sz N tys (zcp g I k0 (g.1 a) n) k u := by
  intro k u hk hka hu
  cases hv : g.2.2.2.2.2 (g.1 a) with
  | false => rw [zcp_no hv]; exact hu
  | true =>
    have hne : g.1 k ≠ g.1 a := fun q => hka (hinj.2.2.1 a k hv q.symm).symm
    have hn := hinj.2.2.2 a t n hv hd
    unfold zCell at hu ⊢
    cases hd2 : g.2.1 (g.1 k) with
    | inl q =>
      obtain ⟨c2, fts2⟩ := q
      rw [hd2] at hu
      obtain ⟨vs, h1, h2, h3⟩ := hu
      refine ⟨vs, h1, h2, fun j2 ft hj2 => ?_⟩
      obtain ⟨x, h4, h5⟩ := h3 j2 ft hj2
      refine ⟨x, h4, ?_⟩
      rcases h5 with ⟨q1, rfl⟩ | h5
      · exact Or.inl ⟨q1, by rw [zcp_lo (hinj.2.1 k c2 j2 ft.2 fts2 hd2 (by rw [hj2]; congr 1; exact Prod.ext q1 rfl))]⟩
      · exact Or.inr h5
    | inr q =>
      obtain ⟨t2, n2⟩ := q
      rw [hd2] at hu
      obtain ⟨cA, ty, h1, h2, h3⟩ := hu
      refine ⟨cA, ty, h1, h2, ?_⟩
      have hE : ∀ (j : Nat) (x : Int32), j < n2 → zE g I (g.1 k) j x → zE g (zcp g I k0 (g.1 a) n) (g.1 k) j x := by
        intro j x hj hx
        rcases hx with ⟨q1, q2⟩ | q
        · have := hinj.2.2.2 k t2 n2 q1 hd2
          exact Or.inl ⟨q1, by rw [zcp_ne hne hn (by omega)]; exact q2⟩
        · exact Or.inr q
      rcases h3 with ⟨h3, f, h4, h5⟩ | h3 | ⟨h3, f, h4, h5, h6⟩
      · exact Or.inl ⟨h3, f, h4, fun j hj => hE j _ hj (h5 j hj)⟩
      · exact Or.inr (Or.inl h3)
      · exact Or.inr (Or.inr ⟨h3, f, h4, h5, fun j hj => hE j _ hj (h6 j hj)⟩)
theorem zs_copy (hinj : zInj g) {index : Nat} (hd : decode cc pc = .ok (.invokestatic index, 3)) (hw1 : Cond.methodLink own index arraycopyName ∈ xTB) (hw2 : Cond.native arraycopyName ∈ xTB) (hw3 : Cond.static arraycopyName ∈ xTB) (hw4 : Cond.initialized "java/lang/System" ∈ xTB) (hnw : nativeFrameWords "java/lang/System" "arraycopy" 5 + 11 ≤ 56) (hxt : xTb own index = (5, 0, 0)) : zSound g PX bd pre post d cc own pc (z_copy g (pc + 3)) := by
  intro K L S I B h hc p l e R s m args below meth c Q nL D tys sz sc TT hT C1 hf hlo kk N ls st H locs μ hM hL hS hB1 hB2 hτ
  unfold z_copy at h
  split at h
  · rename_i k dp a sp a0 S0
    obtain ⟨_, _, rfl, rfl, _, _, rfl, rfl, _, _, rfl, ⟨rfl, haN⟩, _, _, rfl, rfl, _, st2, rfl, ⟨rfl, ha0N⟩, hS⟩ := hS
    obtain ⟨⟨ws, hR, hP, hXw⟩, hz, hS0, hM2⟩ := id hM
    obtain ⟨u, hu, huc⟩ := zcell_at hR haN
    obtain ⟨u0, hu0, huc0⟩ := zcell_at hR ha0N
    unfold zCell at huc huc0
    cases hd0 : g.2.1 (g.1 a0) with
    | inl q => rw [hd0] at h; exact h.elim
    | inr q =>
      obtain ⟨t0, n0⟩ := q
      cases hdd : g.2.1 (g.1 a) with
      | inl q => rw [hd0, hdd] at h; exact h.elim
      | inr q =>
        obtain ⟨t, len⟩ := q
        rw [hd0, hdd] at h
        rw [hdd] at huc
        rw [hd0] at huc0
        obtain ⟨rfl, rfl, hcat, rfl, rfl, rfl, hle, hvv, hEE, h⟩ := h
        obtain ⟨cA, ty, hty, hlen, hk⟩ := huc
        obtain ⟨cA0, ty0, hty0, hlen0, hk0⟩ := huc0
        have ht := Option.some.inj (xty_of C1.2.2.2.2.2.2.1 hty)
        cases ht
        have ht := Option.some.inj (xty_of C1.2.2.2.2.2.2.1 hty0)
        cases ht
        rcases hk with ⟨-, f, rfl, hf2⟩ | ⟨h3, -⟩ | ⟨h3, -⟩
        · rcases hk0 with ⟨-, f0, rfl, hf0⟩ | ⟨h3, -⟩ | ⟨h3, -⟩
          · have hcs := zcat_ok hS
            refine z_copyW (g := f) (f := f0) C1.1 C1.2.1 (by rw [C1.2.2.1]; obtain ⟨-, lv, q, -⟩ := hL; exact q.1.symm) C1.2.2.2.1 (C1.2.2.2.2.1 _ hw1) (C1.2.2.2.2.1 _ hw2) (C1.2.2.2.2.1 _ hw3) (C1.2.2.2.2.1 _ hw4) C1.2.2.2.2.2.1 hP (zW_D hR) hS0 a0 a hu0 hu hty0 hty hle hlen (by omega) (by have := hlo.1; omega) hd (fun H1 locs1 g0 g1 g3 => ?_)
            have hR1 : zW g sz N tys (zcp g I (g.1 a0) (g.1 a) len) (ws.set a (sz + a, .inl (cA, len, .inl (va_cpy f0 f 0 0 len)))) := by
              refine zW_set hR haN ?_ (zCell_cp hinj hdd)
              unfold zCell
              rw [hdd]
              refine ⟨cA, _, hty, hlen, Or.inl ⟨by decide, _, rfl, fun j hj => ?_⟩⟩
              rw [pk_cpy_in (Nat.zero_le _) (by omega)]
              rw [show 0 + (j - 0) = j by omega]
              rcases hf0 j (by omega) with ⟨q1, q2⟩ | ⟨q1, q2⟩
              · exact Or.inl ⟨by rw [hvv]; exact q1, by rw [zcp_at (by rw [hvv]; exact q1) hj]; exact q2⟩
              · exact Or.inr ⟨by rw [hvv]; exact q1, hEE q1 j _ hj q2⟩
            have hal : a < ws.length := by rw [hR.1]; exact haN
            have hXa0 : ∀ j, j < n0 → f0 j = μ.1 a0 j := hXw.2 _ _ hu0
            have hXw' : zXs sz (xcp μ a0 a len) (ws.set a (sz + a, .inl (cA, len, .inl (va_cpy f0 f 0 0 len)))) := by
              refine zXs_set hXw hal rfl (fun j hj => ?_) (fun k j hk => by show (if k = a ∧ j < len then μ.1 a0 j else μ.1 k j) = _; rw [if_neg (fun q => hk q.1)]) (fun _ _ _ => rfl) (fun _ _ _ => rfl)
              show va_cpy f0 f 0 0 len j = if a = a ∧ j < len then μ.1 a0 j else μ.1 a j
              rw [pk_cpy_in (Nat.zero_le _) (by omega), show 0 + (j - 0) = j by omega, if_pos ⟨rfl, hj⟩]
              exact hXa0 j (by omega)
            exact kk _ _ _ _ _ h N _ _ _ _ _ (zMem_set hM hR1 g1 hXw' g0 g3) hL hS hB1 hB2 (hT _ _ hτ (est hd (Or.inr (Or.inl ⟨hxt, _, _, _, _, _, _, _, rfl, hd0, hdd, rfl, rfl, hle, rfl⟩))))
          · cases h3
          · cases h3
        · cases h3
        · cases h3
  · exact h.elim
end ZS9
