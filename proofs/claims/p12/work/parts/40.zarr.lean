section ZS7
variable {g : zG} {PX : xPX} {bd : Nat → Nat × Nat} {pre : zPre} {post : zPost} {d : Nat × Nat × Nat} {cc : ByteArray} {own : String} {pc : Nat}
def z_lald (g : zG) (n : Nat) : zF := fun K L S I B => match S with
  | .inl i :: .inr (.inl (some a)) :: S => (match g.2.1 (g.1 a) with
    | .inr (t, len) => t = 3 ∧ vp_in i len ∧ ∀ v : Int64, g.2.2.2.2.1 (g.1 a) i.toNatClampNeg v → K n L (.inr (.inr v) :: S) I B
    | .inl _ => False)
  | _ => False
theorem zs_lald (hd : decode cc pc = .ok (.laload, 1)) : zSound g PX bd pre post d cc own pc (z_lald g (pc + 1)) := by
  intro K L S I B h hc p l e R s m args below meth c Q nL D tys sz sc TT hT C1 hf hlo kk N ls st H locs μ hM hL hS hB1 hB2 hτ
  unfold z_lald at h
  split at h
  · rename_i i a S0
    obtain ⟨u, st', rfl, rfl, u2, st2, rfl, ⟨rfl, haN⟩, hS⟩ := hS
    obtain ⟨⟨ws, hR, hP, hXw⟩, hM2⟩ := id hM
    obtain ⟨u, hu, huc⟩ := zcell_at hR haN
    unfold zCell at huc
    cases hdd : g.2.1 (g.1 a) with
    | inl q => rw [hdd] at h; exact h.elim
    | inr q =>
      obtain ⟨t, len⟩ := q
      rw [hdd] at h huc
      obtain ⟨rfl, hin, h⟩ := h
      obtain ⟨cA, ty, hty, hlen, hk⟩ := huc
      have ht := Option.some.inj (xty_of C1.2.2.2.2.2.2.1 hty)
      cases ht
      have hlt : i.toNatClampNeg < len := Nat.not_le.mp fun q => hin (Or.inr q)
      rcases hk with ⟨h3, -⟩ | ⟨-, f, rfl, hf2⟩ | ⟨h3, -⟩
      · omega
      · exact va_lald C1.1 C1.2.1 C1.2.2.2.2.2.1 hP a 3 hu hty hin hd (kk _ _ _ _ _ (h _ (hf2 _ hlt)) N _ _ _ _ _ hM hL ⟨_, _, rfl, rfl, hS⟩ hB1 hB2 (hT _ _ hτ (est hd (⟨_, _, _, _, _, rfl, hdd, hin, hXw.2 _ _ hu _ hlt, rfl⟩))))
      · cases h3
  · exact h.elim
def z_last (g : zG) (n : Nat) : zF := fun K L S I B => match S with
  | .inr (.inr v) :: .inl i :: .inr (.inl (some a)) :: S => (match g.2.1 (g.1 a) with
    | .inr (t, len) => t = 3 ∧ vp_in i len ∧ g.2.2.2.2.1 (g.1 a) i.toNatClampNeg v ∧ K n L S I B
    | .inl _ => False)
  | _ => False
theorem zs_last (hd : decode cc pc = .ok (.lastore, 1)) : zSound g PX bd pre post d cc own pc (z_last g (pc + 1)) := by
  intro K L S I B h hc p l e R s m args below meth c Q nL D tys sz sc TT hT C1 hf hlo kk N ls st H locs μ hM hL hS hB1 hB2 hτ
  unfold z_last at h
  split at h
  · rename_i v i a S0
    obtain ⟨u, st', rfl, rfl, u1, st1, rfl, rfl, u2, st2, rfl, ⟨rfl, haN⟩, hS⟩ := hS
    obtain ⟨⟨ws, hR, hP, hXw⟩, hz, hS0, hM2⟩ := id hM
    obtain ⟨u, hu, huc⟩ := zcell_at hR haN
    unfold zCell at huc
    cases hdd : g.2.1 (g.1 a) with
    | inl q => rw [hdd] at h; exact h.elim
    | inr q =>
      obtain ⟨t, len⟩ := q
      rw [hdd] at h huc
      obtain ⟨rfl, hin, hE, h⟩ := h
      obtain ⟨cA, ty, hty, hlen, hk⟩ := huc
      have ht := Option.some.inj (xty_of C1.2.2.2.2.2.2.1 hty)
      cases ht
      rcases hk with ⟨h3, -⟩ | ⟨-, f, rfl, hf2⟩ | ⟨h3, -⟩
      · omega
      · refine W.last C1.1 C1.2.1 (hP a _ hu) ((C1.2.2.2.2.2.1.2 3 _ hty).1 len (fun j => .long (f j))) (fun q => by cases q) (by show ¬ (i < 0 ∨ (arrV _ _ _).slots.size ≤ _); rw [arrV_size]; exact hin) rfl rfl hd fun H1 e1 z oq => ?_
        have hP' : va_P D vwCl (ws.set a (sz + a, .inl (cA, len, .inr (.inl (vp_updL f i.toNatClampNeg v))))) H1 := by
          refine hP.set (zW_D hR) hu ?_ oq
          show H1[sz + a]? = some (vp_cell _ _)
          rw [e1, vp_cell_l, vp_cell_l, arrV_store]
          congr 2
          funext q
          by_cases hq : q = i.toNatClampNeg
          · subst hq; simp [updV, vp_updL]
          · simp [updV, vp_updL, hq]
        have hR' : zW g sz N tys I (ws.set a (sz + a, .inl (cA, len, .inr (.inl (vp_updL f i.toNatClampNeg v))))) := by
          refine zW_set hR haN ?_ (fun k u _ _ hk => hk)
          unfold zCell
          rw [hdd]
          refine ⟨cA, _, hty, hlen, Or.inr (Or.inl ⟨rfl, _, rfl, fun j hj => ?_⟩)⟩
          by_cases hij : j = i.toNatClampNeg
          · subst hij
            simp only [vp_updL, if_pos]
            exact hE
          · simp only [vp_updL, if_neg hij]
            exact hf2 j hj
        have hal : a < ws.length := by rw [hR.1]; exact haN
        have hXa : ∀ j, j < len → f j = μ.2.1 a j := hXw.2 _ _ hu
        have hXw' : zXs sz (xpl μ a i.toNatClampNeg v) (ws.set a (sz + a, .inl (cA, len, .inr (.inl (vp_updL f i.toNatClampNeg v))))) := by
          refine zXs_set hXw hal rfl (fun j hj => ?_) (fun _ _ _ => rfl) (fun k j hk => by show (if k = a ∧ j = i.toNatClampNeg then v else μ.2.1 k j) = _; rw [if_neg (fun q => hk q.1)]) (fun _ _ _ => rfl)
          show vp_updL f i.toNatClampNeg v j = if a = a ∧ j = i.toNatClampNeg then v else μ.2.1 a j
          by_cases hij : j = i.toNatClampNeg
          · subst hij
            simp only [vp_updL, if_pos, and_self]
          · simp only [vp_updL, if_neg hij, hij, and_false, if_false]
            exact hXa j hj
        exact kk _ _ _ _ _ h N _ _ _ _ _ (zMem_set hM hR' hP' hXw' z (hS0.put z oq (Nat.le_add_right sz a))) hL hS hB1 hB2 (hT _ _ hτ (est hd (⟨_, _, _, _, _, rfl, hdd, hin, rfl⟩)))
      · cases h3
  · exact h.elim
/-- a Town is put into an array of Towns -/
def z_aast (g : zG) (n : Nat) : zF := fun K L S I B => match S with
  | .inr (.inl (some v)) :: .inl i :: .inr (.inl (some a)) :: S => (match g.2.1 (g.1 a) with
    | .inr (t, len) => t = 4 ∧ vp_in i len ∧ g.1 v = 1000 ∧ (g.2.2.2.2.2 (g.1 a) = true ∨ g.2.2.1 (g.1 a) i.toNatClampNeg 1) ∧ K n L S (zst g I (g.1 a) i.toNatClampNeg 1) B
    | .inl _ => False)
  | _ => False
theorem zs_aast (hinj : zInj g) {ci : Nat} {T : u_T} {M : Nat} {fts : List zT} (hd : decode cc pc = .ok (.aastore, 1)) (hcl : vwCl[ci]? = some ("CapitalCase$Town", T, M)) (hkt : g.2.1 1000 = .inl (ci, fts)) : zSound g PX bd pre post d cc own pc (z_aast g (pc + 1)) := by
  intro K L S I B h hc p l e R s m args below meth c Q nL D tys sz sc TT hT C1 hf hlo kk N ls st H locs μ hM hL hS hB1 hB2 hτ
  unfold z_aast at h
  split at h
  · rename_i v i a S0
    obtain ⟨u, st', rfl, ⟨rfl, hvN⟩, u1, st1, rfl, rfl, u2, st2, rfl, ⟨rfl, haN⟩, hS⟩ := hS
    obtain ⟨⟨ws, hR, hP, hXw⟩, hz, hS0, hM2⟩ := id hM
    obtain ⟨u, hu, huc⟩ := zcell_at hR haN
    obtain ⟨uv, huv, huvc⟩ := zcell_at hR hvN
    unfold zCell at huc
    cases hdd : g.2.1 (g.1 a) with
    | inl q => rw [hdd] at h; exact h.elim
    | inr q =>
      obtain ⟨t, len⟩ := q
      rw [hdd] at h huc
      obtain ⟨rfl, hin, hkv, hEl, h⟩ := h
      unfold zCell at huvc
      rw [hkv, hkt] at huvc
      obtain ⟨vs, rfl, -, -⟩ := huvc
      obtain ⟨cA, ty, hty, hlen, hk⟩ := huc
      have ht := Option.some.inj (xty_of C1.2.2.2.2.2.2.1 hty)
      cases ht
      rcases hk with ⟨h3, -⟩ | ⟨h3, -⟩ | ⟨-, f, rfl, hf2, hfl⟩
      · omega
      · cases h3
      · have hlt : i.toNatClampNeg < len := Nat.not_le.mp fun q => hin (Or.inr q)
        have h0 : ¬ i < 0 := fun q => hin (Or.inl q)
        obtain ⟨r', hr', cellV, g1, g2, g3, -⟩ := hP v _ huv
        have hcls := (C1.2.2.2.2.2.1.1 ci _ hcl).2
        obtain ⟨kA, comp, k1, k2, k3, -⟩ := (C1.2.2.2.2.2.1.2 4 _ hty).2
        have hcomp : comp = D.1 ci := Option.some.inj (k3.symm.trans hcls.1)
        subst hcomp
        obtain ⟨kC, hkC, -⟩ := hcls.2
        refine W.aast C1.1 C1.2.1 (hP a _ hu) (fun q h => by cases h) (fun h => by cases h) k1 k2 rfl hkC ⟨h0, by show _ < (arrV _ _ _).slots.size; rw [arrV_size]; exact hlt⟩ g1 (fun q h => by rw [g3] at h; cases h) (by rw [g2]; exact hkC) (by rw [g2]; exact va_assign hcls) rfl rfl hd fun H1 e1 z oq => ?_
        have hP' : va_P D vwCl (ws.set a (sz + a, .inl (cA, len, .inr (.inr (.inr (.inr (va_up f i.toNatClampNeg (some (sz + v))))))))) H1 := by
          refine hP.set (zW_D hR) hu ?_ oq
          show H1[sz + a]? = some (vp_cell _ _)
          rw [e1, vp_cell_q, vp_cell_q, arrV_store]
          congr 2
          funext q
          by_cases hq : q = i.toNatClampNeg
          · subst hq; simp [updV, va_up, va_rf]
          · simp [updV, va_up, hq]
        have hR' : zW g sz N tys (zst g I (g.1 a) i.toNatClampNeg 1) (ws.set a (sz + a, .inl (cA, len, .inr (.inr (.inr (.inr (va_up f i.toNatClampNeg (some (sz + v))))))))) := by
          refine zW_set hR haN ?_ (zCell_st hinj hdd hlt)
          unfold zCell
          rw [hdd]
          refine ⟨cA, _, hty, hlen, Or.inr (Or.inr ⟨rfl, _, rfl, fun j a2 hj ha2 => ?_, fun j hj => ?_⟩)⟩
          · by_cases hij : j = i.toNatClampNeg
            · subst hij
              simp [va_up] at ha2
              exact ⟨v, hvN, hkv, ha2.symm⟩
            · simp [va_up, hij] at ha2
              exact hf2 j a2 hj ha2
          · by_cases hij : j = i.toNatClampNeg
            · subst hij
              have e : va_up f i.toNatClampNeg (some (sz + v)) i.toNatClampNeg = some (sz + v) := by simp [va_up]
              rw [e]
              exact zE_st_at hEl
            · have e : va_up f i.toNatClampNeg (some (sz + v)) j = f j := by simp [va_up, hij]
              rw [e]
              exact zE_st_same hij (hfl j hj)
        have hal : a < ws.length := by rw [hR.1]; exact haN
        have hXa : ∀ j, j < len → (f j = none → μ.2.2.1 a j = none) ∧ ∀ r, f j = some (sz + r) → μ.2.2.1 a j = some r := hXw.2 _ _ hu
        have hXw' : zXs sz (xpr μ a i.toNatClampNeg (some v)) (ws.set a (sz + a, .inl (cA, len, .inr (.inr (.inr (.inr (va_up f i.toNatClampNeg (some (sz + v))))))))) := by
          refine zXs_set hXw hal rfl (fun j hj => ?_) (fun _ _ _ => rfl) (fun _ _ _ => rfl) (fun k j hk => by show (if k = a ∧ j = i.toNatClampNeg then some v else μ.2.2.1 k j) = _; rw [if_neg (fun q => hk q.1)])
          show (va_up f i.toNatClampNeg (some (sz + v)) j = none → (if a = a ∧ j = i.toNatClampNeg then some v else μ.2.2.1 a j) = none) ∧ ∀ r, va_up f i.toNatClampNeg (some (sz + v)) j = some (sz + r) → (if a = a ∧ j = i.toNatClampNeg then some v else μ.2.2.1 a j) = some r
          by_cases hij : j = i.toNatClampNeg
          · subst hij
            have e : va_up f i.toNatClampNeg (some (sz + v)) i.toNatClampNeg = some (sz + v) := by simp [va_up]
            rw [e, if_pos ⟨rfl, rfl⟩]
            exact ⟨(fun q => by cases q), (fun r hr => by have := Option.some.inj hr; congr 1; omega)⟩
          · have e : va_up f i.toNatClampNeg (some (sz + v)) j = f j := by simp [va_up, hij]
            rw [e, if_neg (fun q => hij q.2)]
            exact hXa j hj
        exact kk _ _ _ _ _ h N _ _ _ _ _ (zMem_set hM hR' hP' hXw' z (hS0.put z oq (Nat.le_add_right sz a))) hL hS hB1 hB2 (hT _ _ hτ (est hd (⟨_, _, _, _, _, rfl, hdd, hin, rfl⟩)))
  · exact h.elim
end ZS7
