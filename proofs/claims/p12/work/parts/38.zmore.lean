section ZS5
variable {g : zG} {PX : xPX} {bd : Nat → Nat × Nat} {pre : zPre} {post : zPost} {d : Nat × Nat × Nat} {cc : ByteArray} {own : String} {pc : Nat}
def z_alen (g : zG) (n : Nat) : zF := fun K L S I B => match S with
  | .inr (.inl (some a)) :: S => (match g.2.1 (g.1 a) with
    | .inr (t, len) => t < 3 ∧ K n L (.inl (Int32.ofNat len) :: S) I B
    | .inl _ => False)
  | _ => False
theorem zs_alen (hd : decode cc pc = .ok (.arraylength, 1)) : zSound g PX bd pre post d cc own pc (z_alen g (pc + 1)) := by
  intro K L S I B h hc p l e R s m args below meth c Q nL D tys sz sc TT hT C1 hf hlo kk N ls st H locs μ hM hL hS hB1 hB2 hτ
  unfold z_alen at h
  split at h
  · rename_i a S0
    obtain ⟨u2, st2, rfl, ⟨rfl, haN⟩, hS⟩ := hS
    obtain ⟨⟨ws, hR, hP, hXw⟩, hM2⟩ := id hM
    obtain ⟨u, hu, huc⟩ := zcell_at hR haN
    unfold zCell at huc
    cases hdd : g.2.1 (g.1 a) with
    | inl q => rw [hdd] at h; exact h.elim
    | inr q =>
      obtain ⟨t, len⟩ := q
      rw [hdd] at h huc
      obtain ⟨ht3, h⟩ := h
      obtain ⟨cA, ty, hty, hlen, hk⟩ := huc
      rcases hk with ⟨-, f, rfl, hf2⟩ | ⟨h3, -⟩ | ⟨h3, -⟩
      · exact va_alen C1.1 C1.2.1 C1.2.2.2.2.2.1 hP a t hu hty rfl hd (kk _ _ _ _ _ h N _ _ _ _ _ hM hL ⟨_, _, rfl, rfl, hS⟩ hB1 hB2 (hT _ _ hτ (est hd (⟨_, _, _, _, rfl, hdd, rfl⟩))))
      · omega
      · omega
  · exact h.elim
def z_bast (g : zG) (n : Nat) : zF := fun K L S I B => match S with
  | .inl v :: .inl i :: .inr (.inl (some a)) :: S => (match g.2.1 (g.1 a) with
    | .inr (t, len) => vp_in i len ∧ ((t = 1 ∧ (g.2.2.2.2.2 (g.1 a) = true ∨ g.2.2.1 (g.1 a) i.toNatClampNeg v.toInt8.toInt32) ∧ K n L S (zst g I (g.1 a) i.toNatClampNeg v.toInt8.toInt32) B) ∨ (t = 2 ∧ (v = 0 ∨ v = 1) ∧ (g.2.2.2.2.2 (g.1 a) = true ∨ g.2.2.1 (g.1 a) i.toNatClampNeg v) ∧ K n L S (zst g I (g.1 a) i.toNatClampNeg v) B))
    | .inl _ => False)
  | _ => False
theorem zs_bast (hinj : zInj g) (hd : decode cc pc = .ok (.bastore, 1)) : zSound g PX bd pre post d cc own pc (z_bast g (pc + 1)) := by
  intro K L S I B h hc p l e R s m args below meth c Q nL D tys sz sc TT hT C1 hf hlo kk N ls st H locs μ hM hL hS hB1 hB2 hτ
  unfold z_bast at h
  split at h
  · rename_i v i a S0
    obtain ⟨u, st', rfl, rfl, u1, st1, rfl, rfl, u2, st2, rfl, ⟨rfl, haN⟩, hS⟩ := hS
    obtain ⟨⟨ws, hR, hP, hXw⟩, hz, hS0, hM2⟩ := id hM
    obtain ⟨u, hu, huc⟩ := zcell_at hR haN
    unfold zCell at huc
    cases hdd : g.2.1 (g.1 a) with
    | inl q => rw [hdd] at h; exact h.elim
    | inr q =>
      obtain ⟨t, len⟩ := q
      rw [hdd] at h huc
      obtain ⟨hin, hE⟩ := h
      have hlt : i.toNatClampNeg < len := Nat.not_le.mp fun q => hin (Or.inr q)
      obtain ⟨cA, ty, hty, hlen, hk⟩ := huc
      rcases hE with ⟨rfl, hE, h⟩ | ⟨rfl, hv01, hE, h⟩
      · have ht := Option.some.inj (xty_of C1.2.2.2.2.2.2.1 hty)
        cases ht
        rcases hk with ⟨-, f, rfl, hf2⟩ | ⟨h3, -⟩ | ⟨h3, -⟩
        · refine W.bast C1.1 C1.2.1 (hP a _ hu) ((C1.2.2.2.2.2.1.2 1 _ hty).1 len (fun j => .int (f j))) (fun q => by cases q) (by show ¬ (i < 0 ∨ (arrV _ _ _).slots.size ≤ _); rw [arrV_size]; exact hin) rfl rfl hd fun H1 e1 z oq => ?_
          have hP' : va_P D vwCl (ws.set a (sz + a, .inl (cA, len, .inl (upd f i.toNatClampNeg (vp_nar .byte v))))) H1 := by
            refine hP.set (zW_D hR) hu ?_ oq
            show H1[sz + a]? = some (vp_cell _ _)
            rw [e1, vp_cell_i, vp_cell_i, arrV_store]
            congr 2
            funext q
            by_cases hq : q = i.toNatClampNeg
            · subst hq
              simp [updV, upd, vp_nar]
              try rfl
            · simp [updV, upd, hq]
          rw [vp_nar_byte] at hP'
          have hR' : zW g sz N tys (zst g I (g.1 a) i.toNatClampNeg v.toInt8.toInt32) (ws.set a (sz + a, .inl (cA, len, .inl (upd f i.toNatClampNeg v.toInt8.toInt32)))) := by
            refine zW_set hR haN ?_ (zCell_st hinj hdd hlt)
            unfold zCell
            rw [hdd]
            refine ⟨cA, _, hty, hlen, Or.inl ⟨by decide, _, rfl, fun j hj => ?_⟩⟩
            by_cases hij : j = i.toNatClampNeg
            · subst hij
              rw [pk_us]
              exact zE_st_at hE
            · rw [pk_un hij]
              exact zE_st_same hij (hf2 j hj)
          have hal : a < ws.length := by rw [hR.1]; exact haN
          have hXa : ∀ j, j < len → f j = μ.1 a j := hXw.2 _ _ hu
          have hXw' : zXs sz (xpi μ a i.toNatClampNeg v.toInt8.toInt32) (ws.set a (sz + a, .inl (cA, len, .inl (upd f i.toNatClampNeg v.toInt8.toInt32)))) := by
            refine zXs_pi hXw hal (fun j hj => ?_)
            by_cases hij : j = i.toNatClampNeg
            · subst hij
              rw [pk_us, xpi_at]
            · rw [pk_un hij, xpi_ne (fun q => hij q.2)]
              exact hXa j hj
          exact kk _ _ _ _ _ h N _ _ _ _ _ (zMem_set hM hR' hP' hXw' z (hS0.put z oq (Nat.le_add_right sz a))) hL hS hB1 hB2 (hT _ _ hτ (est hd (⟨_, _, _, _, _, _, rfl, Or.inl rfl, hdd, hin, rfl⟩)))
        · cases h3
        · cases h3
      · have ht := Option.some.inj (xty_of C1.2.2.2.2.2.2.1 hty)
        cases ht
        have hnz : vp_nar .boolean v = v := by rcases hv01 with rfl | rfl <;> decide +kernel
        rcases hk with ⟨-, f, rfl, hf2⟩ | ⟨h3, -⟩ | ⟨h3, -⟩
        · refine W.zast C1.1 C1.2.1 (hP a _ hu) ((C1.2.2.2.2.2.1.2 2 _ hty).1 len (fun j => .int (f j))) (fun q => by cases q) (by show ¬ (i < 0 ∨ (arrV _ _ _).slots.size ≤ _); rw [arrV_size]; exact hin) rfl rfl hd fun H1 e1 z oq => ?_
          have hP' : va_P D vwCl (ws.set a (sz + a, .inl (cA, len, .inl (upd f i.toNatClampNeg (vp_nar .boolean v))))) H1 := by
            refine hP.set (zW_D hR) hu ?_ oq
            show H1[sz + a]? = some (vp_cell _ _)
            rw [e1, vp_cell_i, vp_cell_i, arrV_store]
            congr 2
            funext q
            by_cases hq : q = i.toNatClampNeg
            · subst hq
              simp [updV, upd, vp_nar]
              try rfl
            · simp [updV, upd, hq]
          rw [hnz] at hP'
          have hR' : zW g sz N tys (zst g I (g.1 a) i.toNatClampNeg v) (ws.set a (sz + a, .inl (cA, len, .inl (upd f i.toNatClampNeg v)))) := by
            refine zW_set hR haN ?_ (zCell_st hinj hdd hlt)
            unfold zCell
            rw [hdd]
            refine ⟨cA, _, hty, hlen, Or.inl ⟨by decide, _, rfl, fun j hj => ?_⟩⟩
            by_cases hij : j = i.toNatClampNeg
            · subst hij
              rw [pk_us]
              exact zE_st_at hE
            · rw [pk_un hij]
              exact zE_st_same hij (hf2 j hj)
          have hv8 : v.toInt8.toInt32 = v := by rcases hv01 with rfl | rfl <;> decide +kernel
          have hal : a < ws.length := by rw [hR.1]; exact haN
          have hXa : ∀ j, j < len → f j = μ.1 a j := hXw.2 _ _ hu
          have hXw' : zXs sz (xpi μ a i.toNatClampNeg v) (ws.set a (sz + a, .inl (cA, len, .inl (upd f i.toNatClampNeg v)))) := by
            refine zXs_pi hXw hal (fun j hj => ?_)
            by_cases hij : j = i.toNatClampNeg
            · subst hij
              rw [pk_us, xpi_at]
            · rw [pk_un hij, xpi_ne (fun q => hij q.2)]
              exact hXa j hj
          exact kk _ _ _ _ _ h N _ _ _ _ _ (zMem_set hM hR' hP' hXw' z (hS0.put z oq (Nat.le_add_right sz a))) hL hS hB1 hB2 (hT _ _ hτ (est hd (⟨_, _, _, _, _, _, rfl, Or.inr ⟨rfl, hv01⟩, hdd, hin, by rw [hv8]⟩)))
        · cases h3
        · cases h3
  · exact h.elim
def z_aald (g : zG) (n : Nat) : zF := fun K L S I B => match S with
  | .inl i :: .inr (.inl (some a)) :: S => (match g.2.1 (g.1 a) with
    | .inr (t, len) => t = 4 ∧ vp_in i len ∧ ((g.2.2.2.2.2 (g.1 a) = true → I (zid (g.1 a) i.toNatClampNeg) = 0) → K n L (.inr (.inl none) :: S) I B) ∧ ∀ r, g.1 r = 1000 → (g.2.2.2.2.2 (g.1 a) = true → I (zid (g.1 a) i.toNatClampNeg) = 1) → K n L (.inr (.inl (some r)) :: S) I B
    | .inl _ => False)
  | _ => False
theorem zs_aald (hd : decode cc pc = .ok (.aaload, 1)) : zSound g PX bd pre post d cc own pc (z_aald g (pc + 1)) := by
  intro K L S I B h hc p l e R s m args below meth c Q nL D tys sz sc TT hT C1 hf hlo kk N ls st H locs μ hM hL hS hB1 hB2 hτ
  unfold z_aald at h
  split at h
  · rename_i i a S0
    obtain ⟨u, st', rfl, rfl, u2, st2, rfl, ⟨rfl, haN⟩, hS⟩ := hS
    obtain ⟨⟨ws, hR, hP, hXw⟩, hM2⟩ := id hM
    obtain ⟨u, hu, huc⟩ := zcell_at hR haN
    unfold zCell at huc
    cases hdd : g.2.1 (g.1 a) with
    | inl q => rw [hdd] at h; exact h.elim
    | inr q =>
      obtain ⟨t, len⟩ := q
      rw [hdd] at h huc
      obtain ⟨rfl, hin, h0, h1⟩ := h
      obtain ⟨cA, ty, hty, hlen, hk⟩ := huc
      have ht := Option.some.inj (xty_of C1.2.2.2.2.2.2.1 hty)
      cases ht
      have hlt : i.toNatClampNeg < len := Nat.not_le.mp fun q => hin (Or.inr q)
      rcases hk with ⟨h3, -⟩ | ⟨h3, -⟩ | ⟨-, f, rfl, hf2, hfl⟩
      · omega
      · cases h3
      · refine va_aldq C1.1 C1.2.1 C1.2.2.2.2.2.1 hP a 4 hu hty hin hd ?_
        have hfg : g.2.2.2.2.2 (g.1 a) = true → I (zid (g.1 a) i.toNatClampNeg) = zflag (f i.toNatClampNeg) := by
          intro hv
          rcases hfl _ hlt with ⟨-, q2⟩ | ⟨q1, -⟩
          · exact q2.symm
          · rw [q1] at hv; cases hv
        cases hfi : f i.toNatClampNeg with
        | none => exact kk _ _ _ _ _ (h0 (fun hv => by rw [hfg hv, hfi]; rfl)) N _ _ _ _ _ hM hL ⟨_, _, rfl, rfl, hS⟩ hB1 hB2 (hT _ _ hτ (est hd (⟨_, _, _, _, _, rfl, hdd, hin, ((hXw.2 _ _ hu _ hlt).1 hfi).symm, rfl⟩)))
        | some q =>
          obtain ⟨r, hr1, hr2, rfl⟩ := hf2 _ _ hlt hfi
          exact kk _ _ _ _ _ (h1 r hr2 (fun hv => by rw [hfg hv, hfi]; rfl)) N _ _ _ _ _ hM hL ⟨_, _, rfl, ⟨rfl, hr1⟩, hS⟩ hB1 hB2 (hT _ _ hτ (est hd (⟨_, _, _, _, _, rfl, hdd, hin, ((hXw.2 _ _ hu _ hlt).2 r hfi).symm, rfl⟩)))
  · exact h.elim
end ZS5
