section ZS3
variable {g : zG} {PX : xPX} {bd : Nat → Nat × Nat} {pre : zPre} {post : zPost} {d : Nat × Nat × Nat} {cc : ByteArray} {own : String} {pc : Nat}
/-- another content of the cell a, which all the tables allow -/
theorem zW_set {sz N a : Nat} {tys : List (ClassId × FieldType)} {I I' : zI} {ws : va_W} {u : va_E} (h : zW g sz N tys I ws) (ha : a < N) (hu : zCell g sz N tys I' a u) (ho : ∀ (k : Nat) (u : va_E), k < N → k ≠ a → zCell g sz N tys I k u → zCell g sz N tys I' k u) : zW g sz N tys I' (ws.set a (sz + a, u)) := by
  have hl : a < ws.length := by rw [h.1]; exact ha
  refine ⟨by rw [List.length_set]; exact h.1, fun k hk => ?_, h.2.2⟩
  by_cases hka : k = a
  · subst hka
    exact ⟨u, List.getElem?_set_self hl, hu⟩
  · obtain ⟨u', h1, h2⟩ := h.2.1 k hk
    exact ⟨u', by rw [List.getElem?_set_ne (Ne.symm hka)]; exact h1, ho k u' hk hka h2⟩
theorem zMem_set {D : va_G} {tys : List (ClassId × FieldType)} {sz N sc : Nat} {s : State} {I I' : zI} {μ μ' : xM} {ws : va_W} {H H1 : Heap} {locs locs1 : List Loc} (hM : zMem g D tys sz N sc s I μ H locs) (hR : zW g sz N tys I' ws) (hP : va_P D vwCl ws H1) (hX : zXs sz μ' ws) (hz : H1.size = H.size) (hS : va_S (fun q => sz ≤ q) s.heap H1 locs1) : zMem g D tys sz N sc s I' μ' H1 locs1 := by
  obtain ⟨-, h1, -, h3⟩ := hM
  exact ⟨⟨ws, hR, hP, hX⟩, by rw [hz]; exact h1, hS, h3⟩
/-- another value of an element that the walk knows -/
def zupd (I : zI) (id : Nat) (v : Int32) : zI := fun i => if i = id then v else I i
def zst (g : zG) (I : zI) (kd i : Nat) (v : Int32) : zI := if g.2.2.2.2.2 kd = true then zupd I (zid kd i) v else I
/-- each (0, id) stands in one field of one cell; a known array is one cell's, and short -/
def zInj (g : zG) : Prop := (∀ (k k' c c' j j' id : Nat) (fts fts' : List zT), g.2.1 (g.1 k) = .inl (c, fts) → g.2.1 (g.1 k') = .inl (c', fts') → fts[j]? = some (0, id) → fts'[j']? = some (0, id) → k = k' ∧ j = j') ∧
  (∀ (k c j id : Nat) (fts : List zT), g.2.1 (g.1 k) = .inl (c, fts) → fts[j]? = some (0, id) → id < 4096) ∧ (∀ k k' : Nat, g.2.2.2.2.2 (g.1 k) = true → g.1 k = g.1 k' → k = k') ∧ (∀ k t n : Nat, g.2.2.2.2.2 (g.1 k) = true → g.2.1 (g.1 k) = .inr (t, n) → n ≤ 4096)
theorem zst_lo {I : zI} {kd i id : Nat} {v : Int32} (h : id < 4096) : zst g I kd i v id = I id := by
  unfold zst
  split
  · unfold zupd zid
    rw [if_neg (by omega)]
  · rfl
theorem zE_st {I : zI} {kd i kd' j : Nat} {v x : Int32} (h : kd' ≠ kd) (hi : i < 4096) (hj : j < 4096) (hx : zE g I kd' j x) : zE g (zst g I kd i v) kd' j x := by
  rcases hx with ⟨h1, h2⟩ | hx
  · refine Or.inl ⟨h1, ?_⟩
    rw [h2]
    unfold zst
    split
    · unfold zupd zid
      rw [if_neg (by omega)]
    · rfl
  · exact Or.inr hx
theorem zE_st_same {I : zI} {kd i j : Nat} {v x : Int32} (h : j ≠ i) (hx : zE g I kd j x) : zE g (zst g I kd i v) kd j x := by
  rcases hx with ⟨h1, h2⟩ | hx
  · refine Or.inl ⟨h1, ?_⟩
    rw [h2]
    unfold zst
    rw [if_pos h1]
    unfold zupd zid
    rw [if_neg (by omega)]
  · exact Or.inr hx
theorem zE_st_at {I : zI} {kd i : Nat} {v : Int32} (h : g.2.2.2.2.2 kd = true ∨ g.2.2.1 kd i v) : zE g (zst g I kd i v) kd i v := by
  cases hv : g.2.2.2.2.2 kd with
  | true =>
    refine Or.inl ⟨hv, ?_⟩
    unfold zst
    rw [if_pos hv]
    simp [zupd]
  | false =>
    rcases h with h | h
    · rw [hv] at h; cases h
    · exact Or.inr ⟨hv, h⟩
theorem zFt_st {sz N : Nat} {I : zI} {kd i : Nat} {v : Int32} {ft : zT} {x : Value} (h : ft.1 = 0 → ft.2 < 4096) (hx : zFt g sz N I ft x) : zFt g sz N (zst g I kd i v) ft x := by
  rcases hx with ⟨h1, rfl⟩ | hx
  · exact Or.inl ⟨h1, by rw [zst_lo (h h1)]⟩
  · exact Or.inr hx
/-- a store leaves all other cells as they are -/
theorem zCell_st (hinj : zInj g) {sz N : Nat} {tys : List (ClassId × FieldType)} {I : zI} {a i t n : Nat} {v : Int32} (hd : g.2.1 (g.1 a) = .inr (t, n)) (hi : i < n) : ∀ (k : Nat) (u : va_E), k < N → k ≠ a → zCell g sz N tys I k u → zCell g sz N tys (zst g I (g.1 a) i v) k u := by
  intro k u hk hka hu
  cases hv : g.2.2.2.2.2 (g.1 a) with
  | false =>
    have e : zst g I (g.1 a) i v = I := by unfold zst; rw [if_neg (by rw [hv]; decide)]
    rw [e]
    exact hu
  | true =>
    have hne : g.1 k ≠ g.1 a := fun q => hka (hinj.2.2.1 a k hv q.symm).symm
    have hn := hinj.2.2.2 a t n hv hd
    unfold zCell at hu ⊢
    cases hd2 : g.2.1 (g.1 k) with
    | inl q =>
      obtain ⟨c2, fts2⟩ := q
      rw [hd2] at hu
      obtain ⟨vs, h1, h2, h3⟩ := hu
      refine ⟨vs, h1, h2, fun j2 ft hj2 => ?_⟩
      obtain ⟨x, h4, h5⟩ := h3 j2 ft hj2
      exact ⟨x, h4, zFt_st (fun h0 => hinj.2.1 k c2 j2 ft.2 fts2 hd2 (by rw [hj2]; congr 1; exact Prod.ext h0 rfl)) h5⟩
    | inr q =>
      obtain ⟨t2, n2⟩ := q
      rw [hd2] at hu
      obtain ⟨cA, ty, h1, h2, h3⟩ := hu
      refine ⟨cA, ty, h1, h2, ?_⟩
      have hE : ∀ (j : Nat) (x : Int32), j < n2 → zE g I (g.1 k) j x → zE g (zst g I (g.1 a) i v) (g.1 k) j x := by
        intro j x hj hx
        rcases hx with ⟨q1, q2⟩ | q
        · have := hinj.2.2.2 k t2 n2 q1 hd2
          exact zE_st hne (by omega) (by omega) (Or.inl ⟨q1, q2⟩)
        · exact Or.inr q
      rcases h3 with ⟨h3, f, h4, h5⟩ | h3 | ⟨h3, f, h4, h5, h6⟩
      · exact Or.inl ⟨h3, f, h4, fun j hj => hE j _ hj (h5 j hj)⟩
      · exact Or.inr (Or.inl h3)
      · exact Or.inr (Or.inr ⟨h3, f, h4, h5, fun j hj => hE j _ hj (h6 j hj)⟩)
/-- stores: the element's invariant must hold, or the walk knows the array -/
def z_iast (g : zG) (n : Nat) : zF := fun K L S I B => match S with
  | .inl v :: .inl i :: .inr (.inl (some a)) :: S => (match g.2.1 (g.1 a) with
    | .inr (t, len) => t = 0 ∧ vp_in i len ∧ (g.2.2.2.2.2 (g.1 a) = true ∨ g.2.2.1 (g.1 a) i.toNatClampNeg v) ∧ K n L S (zst g I (g.1 a) i.toNatClampNeg v) B
    | .inl _ => False)
  | _ => False
theorem zs_iast (hinj : zInj g) (hd : decode cc pc = .ok (.iastore, 1)) : zSound g PX bd pre post d cc own pc (z_iast g (pc + 1)) := by
  intro K L S I B h hc p l e R s m args below meth c Q nL D tys sz sc TT hT C1 hf hlo kk N ls st H locs μ hM hL hS hB1 hB2 hτ
  unfold z_iast at h
  split at h
  · rename_i v i a S0
    obtain ⟨u, st', rfl, rfl, u1, st1, rfl, rfl, u2, st2, rfl, ⟨rfl, haN⟩, hS⟩ := hS
    obtain ⟨⟨ws, hR, hP, hXw⟩, hz, hS0, hM2⟩ := id hM
    obtain ⟨u, hu, huc⟩ := zcell_at hR haN
    unfold zCell at huc
    cases hdd : g.2.1 (g.1 a) with
    | inl q => rw [hdd] at h; exact h.elim
    | inr q =>
      obtain ⟨t, len⟩ := q
      rw [hdd] at h huc
      obtain ⟨rfl, hin, hE, h⟩ := h
      obtain ⟨cA, ty, hty, hlen, hk⟩ := huc
      have ht := Option.some.inj (xty_of C1.2.2.2.2.2.2.1 hty)
      cases ht
      rcases hk with ⟨-, f, rfl, hf2⟩ | ⟨h3, -⟩ | ⟨h3, -⟩
      · refine W.iast C1.1 C1.2.1 (hP a _ hu) ((C1.2.2.2.2.2.1.2 0 _ hty).1 len (fun j => .int (f j))) (fun q => by cases q) (by show ¬ (i < 0 ∨ (arrV _ _ _).slots.size ≤ _); rw [arrV_size]; exact hin) rfl rfl hd fun H1 e1 z oq => ?_
        have hP' : va_P D vwCl (ws.set a (sz + a, .inl (cA, len, .inl (upd f i.toNatClampNeg v)))) H1 := by
          refine hP.set (zW_D hR) hu ?_ oq
          show H1[sz + a]? = some (vp_cell _ _)
          rw [e1, vp_cell_i, vp_cell_i, arrV_store]
          congr 2
          funext q
          by_cases hq : q = i.toNatClampNeg
          · subst hq; simp [updV, upd]
          · simp [updV, upd, hq]
        have hlt : i.toNatClampNeg < len := Nat.not_le.mp fun q => hin (Or.inr q)
        have hR' : zW g sz N tys (zst g I (g.1 a) i.toNatClampNeg v) (ws.set a (sz + a, .inl (cA, len, .inl (upd f i.toNatClampNeg v)))) := by
          refine zW_set hR haN ?_ (zCell_st hinj hdd hlt)
          unfold zCell
          rw [hdd]
          refine ⟨cA, _, hty, hlen, Or.inl ⟨by decide, _, rfl, fun j hj => ?_⟩⟩
          by_cases hij : j = i.toNatClampNeg
          · subst hij
            rw [pk_us]
            exact zE_st_at hE
          · rw [pk_un hij]
            exact zE_st_same hij (hf2 j hj)
        have hal : a < ws.length := by rw [hR.1]; exact haN
        have hXa : ∀ j, j < len → f j = μ.1 a j := hXw.2 _ _ hu
        have hXw' : zXs sz (xpi μ a i.toNatClampNeg v) (ws.set a (sz + a, .inl (cA, len, .inl (upd f i.toNatClampNeg v)))) := by
          refine zXs_pi hXw hal (fun j hj => ?_)
          by_cases hij : j = i.toNatClampNeg
          · subst hij
            rw [pk_us, xpi_at]
          · rw [pk_un hij, xpi_ne (fun q => hij q.2)]
            exact hXa j hj
        exact kk _ _ _ _ _ h N _ _ _ _ _ (zMem_set hM hR' hP' hXw' z (hS0.put z oq (Nat.le_add_right sz a))) hL hS hB1 hB2 (hT _ _ hτ (est hd (⟨_, _, _, _, _, rfl, hdd, hin, rfl⟩)))
      · cases h3
      · cases h3
  · exact h.elim
def zput (g : zG) (I : zI) (kd : Nat) (ft : zT) (v : Int32) (K : zI → Prop) : Prop :=
  (kd = 1 → v = 0 ∨ v = 1) ∧ (ft.1 = 0 ∨ ft.1 = 1) ∧ (ft.1 = 0 → K (zupd I ft.2 v)) ∧ (ft.1 = 1 → g.2.2.2.1 ft.2 v ∧ K I)
def z_puti (g : zG) (ci j kd n : Nat) : zF := fun K L S I B => match S with
  | .inl v :: .inr (.inl (some a)) :: S => (match g.2.1 (g.1 a) with
    | .inl (c, fts) => c = ci ∧ (match fts[j]? with
      | some ft => zput g I kd ft v (fun I' => K n L S I' B)
      | none => False)
    | .inr _ => False)
  | _ => False
theorem zCell_upd (hinj : zInj g) {sz N : Nat} {tys : List (ClassId × FieldType)} {I : zI} {a c j0 id : Nat} {fts : List zT} {v : Int32} (hd : g.2.1 (g.1 a) = .inl (c, fts)) (hj0 : fts[j0]? = some (0, id)) : ∀ (k : Nat) (u : va_E), k < N → k ≠ a → zCell g sz N tys I k u → zCell g sz N tys (zupd I id v) k u := by
  intro k u hk hka hu
  unfold zCell at hu ⊢
  cases hd2 : g.2.1 (g.1 k) with
  | inr q =>
    obtain ⟨t2, n2⟩ := q
    rw [hd2] at hu
    obtain ⟨cA, ty, h1, h2, h3⟩ := hu
    refine ⟨cA, ty, h1, h2, ?_⟩
    have hE : ∀ (j : Nat) (x : Int32), zE g I (g.1 k) j x → zE g (zupd I id v) (g.1 k) j x := by
      intro j x hx
      rcases hx with ⟨q1, q2⟩ | q
      · refine Or.inl ⟨q1, ?_⟩
        have := hinj.2.1 a c j0 id fts hd hj0
        rw [q2]
        unfold zupd zid
        rw [if_neg (by omega)]
      · exact Or.inr q
    rcases h3 with ⟨h3, f, h4, h5⟩ | h3 | ⟨h3, f, h4, h5, h6⟩
    · exact Or.inl ⟨h3, f, h4, fun j hj => hE j _ (h5 j hj)⟩
    · exact Or.inr (Or.inl h3)
    · exact Or.inr (Or.inr ⟨h3, f, h4, h5, fun j hj => hE j _ (h6 j hj)⟩)
  | inl q =>
    obtain ⟨c2, fts2⟩ := q
    rw [hd2] at hu
    obtain ⟨vs, h1, h2, h3⟩ := hu
    refine ⟨vs, h1, h2, fun j2 ft hj2 => ?_⟩
    obtain ⟨x, h4, h5⟩ := h3 j2 ft hj2
    refine ⟨x, h4, ?_⟩
    rcases h5 with ⟨t0, rfl⟩ | h5 | h5 | h5
    · left
      refine ⟨t0, ?_⟩
      have hne : ¬ ft.2 = id := fun q => by
        obtain ⟨f1, f2⟩ := ft
        cases t0
        cases q
        exact hka (hinj.1 k a c2 c j2 j0 f2 fts2 fts hd2 hd hj2 hj0).1
      simp [zupd, hne]
    · exact Or.inr (Or.inl h5)
    · exact Or.inr (Or.inr (Or.inl h5))
    · exact Or.inr (Or.inr (Or.inr h5))
end ZS3
