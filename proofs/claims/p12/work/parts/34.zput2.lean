section ZS4
variable {g : zG} {PX : xPX} {bd : Nat → Nat × Nat} {pre : zPre} {post : zPost} {d : Nat × Nat × Nat} {cc : ByteArray} {own : String} {pc : Nat}
theorem zkd_ok {kd : Nat} {ty : FieldType} {v : Int32} (hk : (kd = 0 ∧ ty = .int) ∨ (kd = 1 ∧ ty = .boolean)) (hv : kd = 1 → v = 0 ∨ v = 1) : narrow ty (.int v) = .int v ∧ fits ty (.int v) = true := by
  rcases hk with ⟨rfl, rfl⟩ | ⟨rfl, rfl⟩
  · exact ⟨rfl, rfl⟩
  · rcases hv rfl with rfl | rfl
    · exact ⟨by decide +kernel, by decide +kernel⟩
    · exact ⟨by decide +kernel, by decide +kernel⟩
theorem zs_puti (hinj : zInj g) {index ci j kd : Nat} {C : String} {T : u_T} {M : Nat} {ty : Nat → FieldType} (hd : decode cc pc = .ok (.putfield index, 3)) (hcl : vwCl[ci]? = some (C, T, M)) (hin : ∀ w ∈ u_ws C T M, w ∈ lw_tbl) (hty : ∀ k, k < M → parseFieldDescriptor (T k).2.2.1 = some (ty k)) (hnm : ∀ a, a < M → ∀ b, b < M → a ≠ b → (T a).2.1 ≠ (T b).2.1) (hj : j < M) (hw : Cond.fieldLink own index (T j).1 (T j).2.1 (T j).2.2.1 ∈ xTB) (hkd : (kd = 0 ∧ ty j = .int) ∨ (kd = 1 ∧ ty j = .boolean)) (hfin : (T j).2.2.2 = false) (hxt : xTb own index = (0, ci, (j : Int))) : zSound g PX bd pre post d cc own pc (z_puti g ci j kd (pc + 3)) := by
  intro K L S I B h hc p l e R s m args below meth c Q nL D tys sz sc TT hT C1 hf hlo kk N ls st H locs μ hM hL hS hB1 hB2 hτ
  unfold z_puti at h
  split at h
  · rename_i v a S0
    obtain ⟨u, st', rfl, rfl, u2, st2, rfl, ⟨rfl, haN⟩, hS⟩ := hS
    obtain ⟨⟨ws, hR, hP, hXw⟩, hz, hS0, hM2⟩ := id hM
    obtain ⟨u, hu, huc⟩ := zcell_at hR haN
    unfold zCell at huc
    cases hdd : g.2.1 (g.1 a) with
    | inr q => rw [hdd] at h; exact h.elim
    | inl q =>
      obtain ⟨c1, fts⟩ := q
      rw [hdd] at h huc
      obtain ⟨rfl, h⟩ := h
      obtain ⟨vs, rfl, hlen, hfs⟩ := huc
      cases hft : fts[j]? with
      | none => rw [hft] at h; exact h.elim
      | some ft =>
        rw [hft] at h
        obtain ⟨hbool, ht01, hK0, hK1⟩ := h
        obtain ⟨hn, hfit⟩ := zkd_ok hkd hbool
        obtain ⟨hx0, hb, hml, hown, hts, hK, hmap, hini⟩ := C1
        have hin := xin1 hin
        have hap := va_apart (own := own) hts hin ty hty hnm hK hcl
        obtain ⟨r, g1, cell, q1, q2, q3, q4⟩ := hP a _ hu
        have hr : r = (C, T, M) := Option.some.inj (g1.symm.trans hcl)
        subst hr
        obtain ⟨hSl, hfc, kC, hkC, hkind⟩ := hK.1 c1 _ hcl
        obtain ⟨cf, kf, fi, f, hi, hsl⟩ := hSl j hj
        have hlay := hts _ (hin _ (u_in_lay hj))
        unfold u_lay at hlay
        rw [if_neg (by rw [hfin]; decide)] at hlay
        have hst := (u_facts hfc hkC (u_lays hts hin hj) hi).1
        have h6 := u_store hfc hkC hkind hlay hi (hty j hj) hn hfit
        have hl : j < vs.length := by rw [hlen]; exact (List.getElem?_eq_some_iff.mp hft).1
        refine W.putK hx0 hb (f := f) ⟨hown, hts _ hw, ⟨_, _, _, hi⟩, hst⟩ (by rw [q2]; exact h6) q1 q3 (by rw [hsl]; exact k2_hasslot (q4 j hj)) rfl rfl hd fun H' e1 e2 e3 => ?_
        rw [hsl] at e1 ⊢
        have hP' : va_P D vwCl (ws.set a (sz + a, .inr (c1, vs.set j (.int v)))) H' := hP.set (zW_D hR) hu ⟨_, hcl, t_OB.to (V := updV (vp_V vs) j (.int v)) ⟨_, e1, q2, q3, t_set q4 hap hj (.int v)⟩ (fun i _ => vp_updV_set hl (.int v) i)⟩ e3
        have hcellI : ∀ I' : zI, zFt g sz N I' ft (.int v) → (∀ (j2 : Nat) (ft2 : zT) (x : Value), j2 ≠ j → fts[j2]? = some ft2 → zFt g sz N I ft2 x → zFt g sz N I' ft2 x) → zCell g sz N tys I' a (.inr (c1, vs.set j (.int v))) := by
          intro I' h1 h2
          unfold zCell
          rw [hdd]
          refine ⟨_, rfl, by rw [List.length_set]; exact hlen, fun j2 ft2 hj2 => ?_⟩
          by_cases hjj : j2 = j
          · subst hjj
            cases hft.symm.trans hj2
            exact ⟨_, List.getElem?_set_self hl, h1⟩
          · obtain ⟨x, h4, h5⟩ := hfs j2 ft2 hj2
            exact ⟨x, by rw [List.getElem?_set_ne (Ne.symm hjj)]; exact h4, h2 j2 ft2 x hjj hj2 h5⟩
        have hal : a < ws.length := by rw [hR.1]; exact haN
        have hXa := hXw.2 _ _ hu
        have hXw' : zXs sz (xpi μ a j v) (ws.set a (sz + a, .inr (c1, vs.set j (.int v)))) := by
          refine zXs_pi hXw hal (fun j2 x hx => ?_)
          by_cases hjj : j2 = j
          · subst hjj
            rw [List.getElem?_set_self hl] at hx
            cases hx
            exact ⟨fun w hw => by cases hw; rw [xpi_at], fun r hr => by cases hr⟩
          · rw [List.getElem?_set_ne (Ne.symm hjj)] at hx
            exact ⟨fun w hw => by rw [xpi_ne (fun q => hjj q.2)]; exact (hXa j2 x hx).1 w hw, (hXa j2 x hx).2⟩
        rcases ht01 with t0 | t0
        · have hft0 : fts[j]? = some (0, ft.2) := by rw [hft]; congr 1; exact Prod.ext t0 rfl
          have hR' : zW g sz N tys (zupd I ft.2 v) (ws.set a (sz + a, .inr (c1, vs.set j (.int v)))) := by
            refine zW_set hR haN (hcellI _ (Or.inl ⟨t0, by simp [zupd]⟩) (fun j2 ft2 x hjj hj2 hx => ?_)) (zCell_upd hinj hdd hft0)
            rcases hx with ⟨t2, rfl⟩ | hx | hx | hx
            · refine Or.inl ⟨t2, ?_⟩
              have hne : ¬ ft2.2 = ft.2 := fun q => by
                obtain ⟨f1, f2⟩ := ft2
                cases t2
                exact hjj (hinj.1 a a c1 c1 j2 j ft.2 fts fts hdd hdd (by rw [hj2, ← q]) hft0).2
              simp [zupd, hne]
            · exact Or.inr (Or.inl hx)
            · exact Or.inr (Or.inr (Or.inl hx))
            · exact Or.inr (Or.inr (Or.inr hx))
          exact kk _ _ _ _ _ (hK0 t0) N _ _ _ _ _ (zMem_set hM hR' hP' hXw' e2 (hS0.put e2 e3 (Nat.le_add_right sz a))) hL hS hB1 hB2 (hT _ _ hτ (est hd (⟨_, _, _, _, _, _, rfl, hxt, hdd, rfl⟩)))
        · obtain ⟨hF, hK1⟩ := hK1 t0
          have hR' : zW g sz N tys I (ws.set a (sz + a, .inr (c1, vs.set j (.int v)))) := zW_set hR haN (hcellI _ (Or.inr (Or.inl ⟨t0, v, rfl, hF⟩)) (fun j2 ft2 x hjj hj2 hx => hx)) (fun k u _ _ hk => hk)
          exact kk _ _ _ _ _ hK1 N _ _ _ _ _ (zMem_set hM hR' hP' hXw' e2 (hS0.put e2 e3 (Nat.le_add_right sz a))) hL hS hB1 hB2 (hT _ _ hτ (est hd (⟨_, _, _, _, _, _, rfl, hxt, hdd, rfl⟩)))
  · exact h.elim
end ZS4
