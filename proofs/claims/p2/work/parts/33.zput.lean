section ZS3
variable {g : zG} {PX : xPX} {bd : Nat → Nat × Nat} {pre : zPre} {post : zPost} {d : Nat × Nat × Nat} {cc : ByteArray} {own : String} {pc : Nat}
/-- another content of the cell a, which all the tables allow -/
theorem zW_set {sz N a : Nat} {tys : List (ClassId × FieldType)} {I I' : zI} {ws : va_W} {u : va_E} (h : zW g sz N tys I ws) (ha : a < N) (hu : zCell g sz N tys I' a u) (ho : ∀ (k : Nat) (u : va_E), k < N → k ≠ a → zCell g sz N tys I k u → zCell g sz N tys I' k u) : zW g sz N tys I' (ws.set a (sz + a, u)) := by
  have hl : a < ws.length := by rw [h.1]; exact ha
  refine ⟨by rw [List.length_set]; exact h.1, fun k hk => ?_⟩
  by_cases hka : k = a
  · subst hka
    exact ⟨u, List.getElem?_set_self hl, hu⟩
  · obtain ⟨u', h1, h2⟩ := h.2 k hk
    exact ⟨u', by rw [List.getElem?_set_ne (Ne.symm hka)]; exact h1, ho k u' hk hka h2⟩
theorem zMem_set {D : va_G} {tys : List (ClassId × FieldType)} {sz N sc : Nat} {s : State} {I I' : zI} {ws : va_W} {H H1 : Heap} {locs locs1 : List Loc} (hM : zMem g D tys sz N sc s I H locs) (hR : zW g sz N tys I' ws) (hP : va_P D vwCl ws H1) (hz : H1.size = H.size) (hS : va_S (fun q => sz ≤ q) s.heap H1 locs1) : zMem g D tys sz N sc s I' H1 locs1 := by
  obtain ⟨-, h1, -, h3⟩ := hM
  exact ⟨⟨ws, hR, hP⟩, by rw [hz]; exact h1, hS, h3⟩
/-- stores: the element's invariant must hold -/
def z_iast (g : zG) (n : Nat) : zF := fun K L S I B => match S with
  | .inl v :: .inl i :: .inr (.inl (some a)) :: S => (match g.2.1 (g.1 a) with
    | .inr (t, len) => t = 0 ∧ vp_in i len ∧ g.2.2.1 (g.1 a) i.toNatClampNeg v ∧ K n L S I B
    | .inl _ => False)
  | _ => False
theorem zs_iast (hd : decode cc pc = .ok (.iastore, 1)) : zSound g PX bd pre post d cc own pc (z_iast g (pc + 1)) := by
  intro K L S I B h hc p l e R s m args below meth c Q nL D tys sz sc C1 hf hlo kk N ls st H locs hM hL hS hB1 hB2
  unfold z_iast at h
  split at h
  · rename_i v i a S0
    obtain ⟨u, st', rfl, rfl, u1, st1, rfl, rfl, u2, st2, rfl, ⟨rfl, haN⟩, hS⟩ := hS
    obtain ⟨⟨ws, hR, hP⟩, hz, hS0, hM2⟩ := id hM
    obtain ⟨u, hu, huc⟩ := zcell_at hR haN
    unfold zCell at huc
    cases hdd : g.2.1 (g.1 a) with
    | inl q => rw [hdd] at h; exact h.elim
    | inr q =>
      obtain ⟨t, len⟩ := q
      rw [hdd] at h huc
      obtain ⟨rfl, hin, hE, h⟩ := h
      obtain ⟨cA, ty, hty, hlen, hk⟩ := huc
      have ht := Option.some.inj (xty_of C1.2.2.2.2.2.2.1 hty)
      cases ht
      rcases hk with ⟨-, f, rfl, hf2⟩ | ⟨h3, -⟩ | ⟨h3, -⟩
      · refine W.iast C1.1 C1.2.1 (hP a _ hu) ((C1.2.2.2.2.2.1.2 0 _ hty).1 len (fun j => .int (f j))) (fun q => by cases q) (by show ¬ (i < 0 ∨ (arrV _ _ _).slots.size ≤ _); rw [arrV_size]; exact hin) rfl rfl hd fun H1 e1 z oq => ?_
        have hP' : va_P D vwCl (ws.set a (sz + a, .inl (cA, len, .inl (upd f i.toNatClampNeg v)))) H1 := by
          refine hP.set (zW_D hR) hu ?_ oq
          show H1[sz + a]? = some (vp_cell _ _)
          rw [e1, vp_cell_i, vp_cell_i, arrV_store]
          congr 2
          funext q
          by_cases hq : q = i.toNatClampNeg
          · subst hq; simp [updV, upd]
          · simp [updV, upd, hq]
        have hR' : zW g sz N tys I (ws.set a (sz + a, .inl (cA, len, .inl (upd f i.toNatClampNeg v)))) := by
          refine zW_set hR haN ?_ (fun k u _ _ hk => hk)
          unfold zCell
          rw [hdd]
          refine ⟨cA, _, hty, hlen, Or.inl ⟨by decide, _, rfl, fun j hj => ?_⟩⟩
          by_cases hij : j = i.toNatClampNeg
          · subst hij
            rw [pk_us]
            exact hE
          · rw [pk_un hij]
            exact hf2 j hj
        exact kk _ _ _ _ _ h N _ _ _ _ (zMem_set hM hR' hP' z (hS0.put z oq (Nat.le_add_right sz a))) hL hS hB1 hB2
      · cases h3
      · cases h3
  · exact h.elim
/-- an int field that the walk knows gets another value; each (0, id) stands in one field of one cell -/
def zInj (g : zG) : Prop := ∀ (k k' c c' j j' id : Nat) (fts fts' : List zT), g.2.1 (g.1 k) = .inl (c, fts) → g.2.1 (g.1 k') = .inl (c', fts') → fts[j]? = some (0, id) → fts'[j']? = some (0, id) → k = k' ∧ j = j'
def zupd (I : zI) (id : Nat) (v : Int32) : zI := fun i => if i = id then v else I i
def zput (g : zG) (I : zI) (kd : Nat) (ft : zT) (v : Int32) (K : zI → Prop) : Prop :=
  (kd = 1 → v = 0 ∨ v = 1) ∧ (ft.1 = 0 ∨ ft.1 = 1) ∧ (ft.1 = 0 → K (zupd I ft.2 v)) ∧ (ft.1 = 1 → g.2.2.2 ft.2 v ∧ K I)
def z_puti (g : zG) (ci j kd n : Nat) : zF := fun K L S I B => match S with
  | .inl v :: .inr (.inl (some a)) :: S => (match g.2.1 (g.1 a) with
    | .inl (c, fts) => c = ci ∧ (match fts[j]? with
      | some ft => zput g I kd ft v (fun I' => K n L S I' B)
      | none => False)
    | .inr _ => False)
  | _ => False
theorem zCell_upd (hinj : zInj g) {sz N : Nat} {tys : List (ClassId × FieldType)} {I : zI} {a c j id : Nat} {fts : List zT} {v : Int32} (hd : g.2.1 (g.1 a) = .inl (c, fts)) (hj : fts[j]? = some (0, id)) : ∀ (k : Nat) (u : va_E), k < N → k ≠ a → zCell g sz N tys I k u → zCell g sz N tys (zupd I id v) k u := by
  intro k u hk hka hu
  unfold zCell at hu ⊢
  cases hd2 : g.2.1 (g.1 k) with
  | inr q => rw [hd2] at hu; exact hu
  | inl q =>
    obtain ⟨c2, fts2⟩ := q
    rw [hd2] at hu
    obtain ⟨vs, h1, h2, h3⟩ := hu
    refine ⟨vs, h1, h2, fun j2 ft hj2 => ?_⟩
    obtain ⟨x, h4, h5⟩ := h3 j2 ft hj2
    refine ⟨x, h4, ?_⟩
    rcases h5 with ⟨t0, rfl⟩ | h5 | h5 | h5
    · left
      refine ⟨t0, ?_⟩
      have hne : ¬ ft.2 = id := fun q => by
        obtain ⟨f1, f2⟩ := ft
        cases t0
        cases q
        exact hka (hinj k a c2 c j2 j f2 fts2 fts hd2 hd hj2 hj).1
      simp [zupd, hne]
    · exact Or.inr (Or.inl h5)
    · exact Or.inr (Or.inr (Or.inl h5))
    · exact Or.inr (Or.inr (Or.inr h5))
end ZS3
