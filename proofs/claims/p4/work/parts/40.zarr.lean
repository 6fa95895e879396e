section ZS7
variable {g : zG} {PX : xPX} {bd : Nat → Nat × Nat} {pre : zPre} {post : zPost} {d : Nat × Nat × Nat} {cc : ByteArray} {own : String} {pc : Nat}
def z_lald (g : zG) (n : Nat) : zF := fun K L S I B => match S with
  | .inl i :: .inr (.inl (some a)) :: S => (match g.2.1 (g.1 a) with
    | .inr (t, len) => t = 3 ∧ vp_in i len ∧ ∀ v : Int64, zEl g I (g.1 a) i.toNatClampNeg v → K n L (.inr (.inr v) :: S) I B
    | .inl _ => False)
  | _ => False
theorem zs_lald (hd : decode cc pc = .ok (.laload, 1)) : zSound g PX bd pre post d cc own pc (z_lald g (pc + 1)) := by
  intro K L S I B h hc p l e R s m args below meth c Q nL D tys sz sc C1 hf hlo kk N ls st H locs hM hL hS hB1 hB2
  unfold z_lald at h
  split at h
  · rename_i i a S0
    obtain ⟨u, st', rfl, rfl, u2, st2, rfl, ⟨rfl, haN⟩, hS⟩ := hS
    obtain ⟨⟨ws, hR, hP⟩, hM2⟩ := id hM
    obtain ⟨u, hu, huc⟩ := zcell_at hR haN
    unfold zCell at huc
    cases hdd : g.2.1 (g.1 a) with
    | inl q => rw [hdd] at h; exact h.elim
    | inr q =>
      obtain ⟨t, len⟩ := q
      rw [hdd] at h huc
      obtain ⟨rfl, hin, h⟩ := h
      obtain ⟨cA, ty, hty, hlen, hk⟩ := huc
      have ht := Option.some.inj (xty_of C1.2.2.2.2.2.2.1 hty)
      cases ht
      have hlt : i.toNatClampNeg < len := Nat.not_le.mp fun q => hin (Or.inr q)
      rcases hk with ⟨h3, -⟩ | ⟨-, f, rfl, hf2⟩ | ⟨h3, -⟩
      · omega
      · exact va_lald C1.1 C1.2.1 C1.2.2.2.2.2.1 hP a 3 hu hty hin hd (kk _ _ _ _ _ (h _ (hf2 _ hlt)) N _ _ _ _ hM hL ⟨_, _, rfl, rfl, hS⟩ hB1 hB2)
      · cases h3
  · exact h.elim
/-- a store of a long: known, two ints -/
def zstL (g : zG) (I : zI) (kd i : Nat) (v : Int64) : zI := if g.2.2.2.2.2 kd = true then zupd (zupd I (zid kd i) (zlh v)) (zid (kd + 5000) i) (zll v) else I
theorem zstL_lo {I : zI} {kd i id : Nat} {v : Int64} (h : id < 4096) : zstL g I kd i v id = I id := by
  unfold zstL
  split
  · unfold zupd zid
    rw [if_neg (by omega), if_neg (by omega)]
  · rfl
theorem zstL_ne {I : zI} {kd i kd' j : Nat} {v : Int64} (h : kd' ≠ kd) (h5 : kd' ≠ kd + 5000) (hi : i < 4096) (hj : j < 4096) : zstL g I kd i v (zid kd' j) = I (zid kd' j) := by
  unfold zstL
  split
  · unfold zupd zid
    rw [if_neg (by omega), if_neg (by omega)]
  · rfl
theorem zstL_no {I : zI} {kd i : Nat} {v : Int64} (h : g.2.2.2.2.2 kd = false) : zstL g I kd i v = I := by
  unfold zstL
  rw [if_neg (by rw [h]; decide)]
theorem zlw_at {I : zI} {kd i : Nat} {v : Int64} (h : g.2.2.2.2.2 kd = true) : zlw (zstL g I kd i v) kd i = v := by
  unfold zlw zstL
  rw [if_pos h]
  have e1 : zupd (zupd I (zid kd i) (zlh v)) (zid (kd + 5000) i) (zll v) (zid kd i) = zlh v := by
    unfold zupd zid
    rw [if_neg (by omega), if_pos rfl]
  have e2 : zupd (zupd I (zid kd i) (zlh v)) (zid (kd + 5000) i) (zll v) (zid (kd + 5000) i) = zll v := by
    unfold zupd
    rw [if_pos rfl]
  rw [e1, e2, zlj_at]
theorem zlw_ne {I : zI} {kd i j : Nat} {v : Int64} (h : j ≠ i) (hi : i < 4096) (hj : j < 4096) : zlw (zstL g I kd i v) kd j = zlw I kd j := by
  unfold zlw zstL
  split
  · unfold zupd zid
    rw [if_neg (by omega), if_neg (by omega), if_neg (by omega), if_neg (by omega)]
  · rfl
theorem zlw_nk {I : zI} {kd kd' i j : Nat} {v : Int64} (h : kd' ≠ kd) (h1 : kd < 5000) (h2 : kd' < 5000) (hi : i < 4096) (hj : j < 4096) : zlw (zstL g I kd i v) kd' j = zlw I kd' j := by
  unfold zlw
  rw [zstL_ne h (by omega) hi hj, zstL_ne (by omega) (by omega) hi hj]
/-- a store of a long leaves all other cells as they are -/
theorem zCell_stL (hinj : zInj g) {sz N : Nat} {tys : List (ClassId × FieldType)} {I : zI} {a i t n : Nat} {v : Int64} (hd : g.2.1 (g.1 a) = .inr (t, n)) (hi : i < n) : ∀ (k : Nat) (u : va_E), k < N → k ≠ a → zCell g sz N tys I k u → zCell g sz N tys (zstL g I (g.1 a) i v) k u := by
  intro k u hk hka hu
  cases hv : g.2.2.2.2.2 (g.1 a) with
  | false => rw [zstL_no hv]; exact hu
  | true =>
    have hne : g.1 k ≠ g.1 a := fun q => hka (hinj.2.2.1 a k hv q.symm).symm
    have hn := (hinj.2.2.2 a t n hv hd).1
    have hlo := (hinj.2.2.2 a t n hv hd).2
    unfold zCell at hu ⊢
    cases hd2 : g.2.1 (g.1 k) with
    | inl q =>
      obtain ⟨c2, fts2⟩ := q
      rw [hd2] at hu
      obtain ⟨vs, h1, h2, h3⟩ := hu
      refine ⟨vs, h1, h2, fun j2 ft hj2 => ?_⟩
      obtain ⟨x, h4, h5⟩ := h3 j2 ft hj2
      refine ⟨x, h4, ?_⟩
      rcases h5 with ⟨t0, rfl⟩ | h5
      · exact Or.inl ⟨t0, by rw [zstL_lo (hinj.2.1 k c2 j2 ft.2 fts2 hd2 (by rw [hj2]; congr 1; exact Prod.ext t0 rfl))]⟩
      · exact Or.inr h5
    | inr q =>
      obtain ⟨t2, n2⟩ := q
      rw [hd2] at hu
      obtain ⟨cA, ty, h1, h2, h3⟩ := hu
      refine ⟨cA, ty, h1, h2, ?_⟩
      have hE : ∀ (j : Nat) (x : Int32), j < n2 → zE g I (g.1 k) j x → zE g (zstL g I (g.1 a) i v) (g.1 k) j x := by
        intro j x hj hx
        rcases hx with ⟨q1, q2⟩ | q
        · have := hinj.2.2.2 k t2 n2 q1 hd2
          exact Or.inl ⟨q1, by rw [zstL_ne hne (by omega) (by omega) (by omega)]; exact q2⟩
        · exact Or.inr q
      rcases h3 with ⟨h3, f, h4, h5⟩ | ⟨h3, f, h4, h5⟩ | ⟨h3, f, h4, h5, h6⟩
      · exact Or.inl ⟨h3, f, h4, fun j hj => hE j _ hj (h5 j hj)⟩
      · refine Or.inr (Or.inl ⟨h3, f, h4, fun j hj => ⟨(h5 j hj).1, fun q1 => ?_⟩⟩)
        have q2 := hinj.2.2.2 k t2 n2 q1 hd2
        rw [(h5 j hj).2 q1, zlw_nk hne hlo q2.2 (by omega) (by omega)]
      · exact Or.inr (Or.inr ⟨h3, f, h4, h5, fun j hj => hE j _ hj (h6 j hj)⟩)
def z_last (g : zG) (n : Nat) : zF := fun K L S I B => match S with
  | .inr (.inr v) :: .inl i :: .inr (.inl (some a)) :: S => (match g.2.1 (g.1 a) with
    | .inr (t, len) => t = 3 ∧ vp_in i len ∧ g.2.2.2.2.1 (g.1 a) i.toNatClampNeg v ∧ K n L S (zstL g I (g.1 a) i.toNatClampNeg v) B
    | .inl _ => False)
  | _ => False
theorem zs_last (hinj : zInj g) (hd : decode cc pc = .ok (.lastore, 1)) : zSound g PX bd pre post d cc own pc (z_last g (pc + 1)) := by
  intro K L S I B h hc p l e R s m args below meth c Q nL D tys sz sc C1 hf hlo kk N ls st H locs hM hL hS hB1 hB2
  unfold z_last at h
  split at h
  · rename_i v i a S0
    obtain ⟨u, st', rfl, rfl, u1, st1, rfl, rfl, u2, st2, rfl, ⟨rfl, haN⟩, hS⟩ := hS
    obtain ⟨⟨ws, hR, hP⟩, hz, hS0, hM2⟩ := id hM
    obtain ⟨u, hu, huc⟩ := zcell_at hR haN
    unfold zCell at huc
    cases hdd : g.2.1 (g.1 a) with
    | inl q => rw [hdd] at h; exact h.elim
    | inr q =>
      obtain ⟨t, len⟩ := q
      rw [hdd] at h huc
      obtain ⟨rfl, hin, hE, h⟩ := h
      obtain ⟨cA, ty, hty, hlen, hk⟩ := huc
      have ht := Option.some.inj (xty_of C1.2.2.2.2.2.2.1 hty)
      cases ht
      rcases hk with ⟨h3, -⟩ | ⟨-, f, rfl, hf2⟩ | ⟨h3, -⟩
      · omega
      · refine W.last C1.1 C1.2.1 (hP a _ hu) ((C1.2.2.2.2.2.1.2 3 _ hty).1 len (fun j => .long (f j))) (fun q => by cases q) (by show ¬ (i < 0 ∨ (arrV _ _ _).slots.size ≤ _); rw [arrV_size]; exact hin) rfl rfl hd fun H1 e1 z oq => ?_
        have hP' : va_P D vwCl (ws.set a (sz + a, .inl (cA, len, .inr (.inl (vp_updL f i.toNatClampNeg v))))) H1 := by
          refine hP.set (zW_D hR) hu ?_ oq
          show H1[sz + a]? = some (vp_cell _ _)
          rw [e1, vp_cell_l, vp_cell_l, arrV_store]
          congr 2
          funext q
          by_cases hq : q = i.toNatClampNeg
          · subst hq; simp [updV, vp_updL]
          · simp [updV, vp_updL, hq]
        have hlt : i.toNatClampNeg < len := Nat.not_le.mp fun q => hin (Or.inr q)
        have hR' : zW g sz N tys (zstL g I (g.1 a) i.toNatClampNeg v) (ws.set a (sz + a, .inl (cA, len, .inr (.inl (vp_updL f i.toNatClampNeg v))))) := by
          refine zW_set hR haN ?_ (zCell_stL hinj hdd hlt)
          unfold zCell
          rw [hdd]
          refine ⟨cA, _, hty, hlen, Or.inr (Or.inl ⟨rfl, _, rfl, fun j hj => ?_⟩)⟩
          by_cases hij : j = i.toNatClampNeg
          · subst hij
            simp only [vp_updL, if_pos]
            exact ⟨hE, fun q1 => (zlw_at q1).symm⟩
          · simp only [vp_updL, if_neg hij]
            refine ⟨(hf2 j hj).1, fun q1 => ?_⟩
            have q2 := (hinj.2.2.2 a _ _ q1 hdd).1
            rw [zlw_ne hij (by omega) (by omega)]
            exact (hf2 j hj).2 q1
        exact kk _ _ _ _ _ h N _ _ _ _ (zMem_set hM hR' hP' z (hS0.put z oq (Nat.le_add_right sz a))) hL hS hB1 hB2
      · cases h3
  · exact h.elim
/-- a Town is put into an array of Towns -/
def z_aast (g : zG) (n : Nat) : zF := fun K L S I B => match S with
  | .inr (.inl (some v)) :: .inl i :: .inr (.inl (some a)) :: S => (match g.2.1 (g.1 a) with
    | .inr (t, len) => t = 4 ∧ vp_in i len ∧ g.1 v = 1000 ∧ (g.2.2.2.2.2 (g.1 a) = true ∨ g.2.2.1 (g.1 a) i.toNatClampNeg 1) ∧ K n L S (zst g I (g.1 a) i.toNatClampNeg 1) B
    | .inl _ => False)
  | _ => False
theorem zs_aast (hinj : zInj g) {ci : Nat} {T : u_T} {M : Nat} {fts : List zT} (hd : decode cc pc = .ok (.aastore, 1)) (hcl : vwCl[ci]? = some ("CapitalCase$Town", T, M)) (hkt : g.2.1 1000 = .inl (ci, fts)) : zSound g PX bd pre post d cc own pc (z_aast g (pc + 1)) := by
  intro K L S I B h hc p l e R s m args below meth c Q nL D tys sz sc C1 hf hlo kk N ls st H locs hM hL hS hB1 hB2
  unfold z_aast at h
  split at h
  · rename_i v i a S0
    obtain ⟨u, st', rfl, ⟨rfl, hvN⟩, u1, st1, rfl, rfl, u2, st2, rfl, ⟨rfl, haN⟩, hS⟩ := hS
    obtain ⟨⟨ws, hR, hP⟩, hz, hS0, hM2⟩ := id hM
    obtain ⟨u, hu, huc⟩ := zcell_at hR haN
    obtain ⟨uv, huv, huvc⟩ := zcell_at hR hvN
    unfold zCell at huc
    cases hdd : g.2.1 (g.1 a) with
    | inl q => rw [hdd] at h; exact h.elim
    | inr q =>
      obtain ⟨t, len⟩ := q
      rw [hdd] at h huc
      obtain ⟨rfl, hin, hkv, hEl, h⟩ := h
      unfold zCell at huvc
      rw [hkv, hkt] at huvc
      obtain ⟨vs, rfl, -, -⟩ := huvc
      obtain ⟨cA, ty, hty, hlen, hk⟩ := huc
      have ht := Option.some.inj (xty_of C1.2.2.2.2.2.2.1 hty)
      cases ht
      rcases hk with ⟨h3, -⟩ | ⟨h3, -⟩ | ⟨-, f, rfl, hf2, hfl⟩
      · omega
      · cases h3
      · have hlt : i.toNatClampNeg < len := Nat.not_le.mp fun q => hin (Or.inr q)
        have h0 : ¬ i < 0 := fun q => hin (Or.inl q)
        obtain ⟨r', hr', cellV, g1, g2, g3, -⟩ := hP v _ huv
        have hcls := (C1.2.2.2.2.2.1.1 ci _ hcl).2
        obtain ⟨kA, comp, k1, k2, k3, -⟩ := (C1.2.2.2.2.2.1.2 4 _ hty).2
        have hcomp : comp = D.1 ci := Option.some.inj (k3.symm.trans hcls.1)
        subst hcomp
        obtain ⟨kC, hkC, -⟩ := hcls.2
        refine W.aast C1.1 C1.2.1 (hP a _ hu) (fun q h => by cases h) (fun h => by cases h) k1 k2 rfl hkC ⟨h0, by show _ < (arrV _ _ _).slots.size; rw [arrV_size]; exact hlt⟩ g1 (fun q h => by rw [g3] at h; cases h) (by rw [g2]; exact hkC) (by rw [g2]; exact va_assign hcls) rfl rfl hd fun H1 e1 z oq => ?_
        have hP' : va_P D vwCl (ws.set a (sz + a, .inl (cA, len, .inr (.inr (.inr (.inr (va_up f i.toNatClampNeg (some (sz + v))))))))) H1 := by
          refine hP.set (zW_D hR) hu ?_ oq
          show H1[sz + a]? = some (vp_cell _ _)
          rw [e1, vp_cell_q, vp_cell_q, arrV_store]
          congr 2
          funext q
          by_cases hq : q = i.toNatClampNeg
          · subst hq; simp [updV, va_up, va_rf]
          · simp [updV, va_up, hq]
        have hR' : zW g sz N tys (zst g I (g.1 a) i.toNatClampNeg 1) (ws.set a (sz + a, .inl (cA, len, .inr (.inr (.inr (.inr (va_up f i.toNatClampNeg (some (sz + v))))))))) := by
          refine zW_set hR haN ?_ (zCell_st hinj hdd hlt)
          unfold zCell
          rw [hdd]
          refine ⟨cA, _, hty, hlen, Or.inr (Or.inr ⟨rfl, _, rfl, fun j a2 hj ha2 => ?_, fun j hj => ?_⟩)⟩
          · by_cases hij : j = i.toNatClampNeg
            · subst hij
              simp [va_up] at ha2
              exact ⟨v, hvN, hkv, ha2.symm⟩
            · simp [va_up, hij] at ha2
              exact hf2 j a2 hj ha2
          · by_cases hij : j = i.toNatClampNeg
            · subst hij
              have e : va_up f i.toNatClampNeg (some (sz + v)) i.toNatClampNeg = some (sz + v) := by simp [va_up]
              rw [e]
              exact zE_st_at hEl
            · have e : va_up f i.toNatClampNeg (some (sz + v)) j = f j := by simp [va_up, hij]
              rw [e]
              exact zE_st_same hij (hfl j hj)
        exact kk _ _ _ _ _ h N _ _ _ _ (zMem_set hM hR' hP' z (hS0.put z oq (Nat.le_add_right sz a))) hL hS hB1 hB2
  · exact h.elim
end ZS7
