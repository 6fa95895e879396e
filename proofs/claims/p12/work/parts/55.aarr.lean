/-! abstract steps on arrays; switches; Math -/
def ts0 (t : Nat) : Bool := Nat.beq t 0
def ts12 (t : Nat) : Bool := Nat.beq t 1 || Nat.beq t 2
section A5
variable {g : zG} {T : aT} {Inv : zI → Prop} {fl : Bool × Bool}
theorem eOK_lt {t : aTb} {i : Nat} {v : Int} (hi : i < t.1) : eOK t i v ↔ ∀ q ∈ t.2, q.1 ≤ i → i ≤ q.2.1 → q.2.2.1 ≤ v ∧ v ≤ q.2.2.2 := by
  unfold eOK
  rw [Nat.mod_eq_of_lt hi]
theorem aidx_ok {A : aS} {q : Nat × Nat} {i : aN} {ts : Nat → Bool} {tb : Nat} {p : aQ} (h : aidx g T fl A q i ts = some (tb, p)) {ρ : Nat → Int} {x : Int32} (he : aEnOk ρ A.1) (hx : x.toInt = ρ i.1 + i.2) : ∃ t len, g.2.1 (akd g q) = .inr (t, len) ∧ ts t = true ∧ vp_in x len ∧ (x.toNatClampNeg : Int) = x.toInt ∧ tb = T.1 (akd g q) ∧ (g.2.2.2.2.2 (akd g q) = false ∨ fl.1 = true) ∧ ∀ v : Int32, eOK (T.2.1 tb) x.toNatClampNeg v.toInt → p.1 ≤ v.toInt ∧ v.toInt ≤ p.2 := by
  unfold aidx at h
  split at h
  · rename_i t len hd
    cases hc : ts t && (ile 0 (aiv A.1 i).1 && (ile ((aiv A.1 i).2 + 1) len && (ile ((aiv A.1 i).2 + 1) (T.2.1 (T.1 (akd g q))).1 && (!g.2.2.2.2.2 (akd g q) || fl.1)))) with
    | false => rw [hc] at h; cases h
    | true =>
      rw [hc] at h
      cases h
      simp only [Bool.and_eq_true, Bool.or_eq_true] at hc
      obtain ⟨c1, c2, c3, c4, c5⟩ := hc
      have c2 := ile_ok c2
      have c3 := ile_ok c3
      have c4 := ile_ok c4
      have hb := aiv_ok he hx
      obtain ⟨h1, h2, h3⟩ := an_ix (x := x) (n := len) (by omega) (by omega)
      refine ⟨t, len, hd, c1, h1, h3, rfl, c5.imp (fun h => by simpa using h) id, fun v hv => ?_⟩
      rw [eOK_lt (by omega)] at hv
      exact aeiv_ok (by omega) (by omega) hv
  · cases h
theorem a_ald_ok (hT : aTie g T) (hvis : fl.1 = true → ∀ I : zI, Inv I → ∀ kd i t len : Nat, g.2.2.2.2.2 kd = true → g.2.1 kd = .inr (t, len) → i < len → eOK (T.2.1 (T.1 kd)) i (I (zid kd i)).toInt) {ts : Nat → Bool} {n : Nat} {I0 : zI} {A : aS} {outs : List (Nat × aS)} (h : a_ald g T fl ts n A = some outs) {ρ : Nat → Int} {L : zL} {S : List zV} {I : zI} {B : Nat × Nat} (h0 : 0 < A.1.length) (hA : aG g T Inv fl I0 ρ A L S I B) {K : zK}
    (hK : ∀ (pc : Nat) (A' : aS), (pc, A') ∈ outs → ∀ (ρ' : Nat → Int) (L' : zL) (S' : List zV) (I' : zI) (B' : Nat × Nat), aAg ρ ρ' A.1.length → A.1.length ≤ A'.1.length → aG g T Inv fl I0 ρ' A' L' S' I' B' → K pc L' S' I' B') : ∃ (x : Int32) (r : Nat) (S2 : List zV) (t len : Nat), S = .inl x :: .inr (.inl (some r)) :: S2 ∧ g.2.1 (g.1 r) = .inr (t, len) ∧ ts t = true ∧ vp_in x len ∧ ∀ v : Int32, zE g I (g.1 r) x.toNatClampNeg v → K n L (.inl v :: S2) I B := by
  unfold a_ald at h
  split at h
  · rename_i i q S1 hS1
    have hS := hA.2.2.2.1
    rw [hS1] at hS
    obtain ⟨z, S', rfl, ⟨hv1, x, rfl, hv2⟩, z2, S2, rfl, h3, h4⟩ := hS
    obtain ⟨r, rfl, hr⟩ := akd_ok h3
    split at h
    · rename_i tb p hid
      cases h
      obtain ⟨t, len, d1, d2, d3, d4, rfl, d6, d7⟩ := aidx_ok hid hA.1 hv2
      refine ⟨x, r, S2, t, len, rfl, by rw [hr]; exact d1, d2, d3, fun v hv => ?_⟩
      rw [hr] at hv
      have hE : eOK (T.2.1 (T.1 (akd g q))) x.toNatClampNeg v.toInt := by
        rcases hv with ⟨v1, v2⟩ | ⟨v1, v2⟩
        · rcases d6 with d6 | d6
          · rw [v1] at d6; cases d6
          · rw [v2]
            exact hvis d6 I (hA.2.2.2.2.2.2.1 d6) _ _ t len v1 d1 (Nat.lt_of_not_le (fun h => d3 (Or.inr h)))
        · exact (hT.1 _ _ _).mp v2
      have hb := d7 v hE
      have hA2 := aG_ext h0 hA hb.1 hb.2
      obtain ⟨e1, e2, e3, e4, e5, e6⟩ := hA2
      have hn : A.1.length ≤ (A.1 ++ [p]).length := by simp
      refine hK n _ List.mem_cons_self _ _ _ _ _ aupd_ag hn ⟨e1, ?_, e3, ⟨_, _, rfl, ⟨by simp, v, rfl, by show v.toInt = aupd _ _ _ A.1.length + 0; rw [aupd_at]; omega⟩, aSOk_mono hn aupd_ag h4⟩, e5, e6⟩
      intro q2 hq2
      rcases List.mem_cons.mp hq2 with rfl | hq2
      · refine ⟨by simp, Nat.lt_of_lt_of_le hv1 hn, ?_⟩
        show eOK _ (aupd ρ A.1.length v.toInt i.1 + i.2).toNat (aupd ρ A.1.length v.toInt A.1.length)
        rw [aupd_at, aupd_ag _ hv1, ← hv2, ← d4]
        exact hE
      · exact e2 q2 hq2
    · cases h
  · cases h
theorem as_iald (hT : aTie g T) (hvis : fl.1 = true → ∀ I : zI, Inv I → ∀ kd i t len : Nat, g.2.2.2.2.2 kd = true → g.2.1 kd = .inr (t, len) → i < len → eOK (T.2.1 (T.1 kd)) i (I (zid kd i)).toInt) {n : Nat} : aSnd g T Inv fl (z_iald g n) (a_ald g T fl ts0 n) := by
  intro I0 A outs h ρ L S I B h0 hA K hK
  obtain ⟨x, r, S2, t, len, rfl, h1, h2, h3, h4⟩ := a_ald_ok hT hvis h h0 hA hK
  unfold z_iald
  simp only [h1]
  exact ⟨Nat.eq_of_beq_eq_true h2, h3, h4⟩
theorem as_bald (hT : aTie g T) (hvis : fl.1 = true → ∀ I : zI, Inv I → ∀ kd i t len : Nat, g.2.2.2.2.2 kd = true → g.2.1 kd = .inr (t, len) → i < len → eOK (T.2.1 (T.1 kd)) i (I (zid kd i)).toInt) {n : Nat} : aSnd g T Inv fl (z_bald g n) (a_ald g T fl ts12 n) := by
  intro I0 A outs h ρ L S I B h0 hA K hK
  obtain ⟨x, r, S2, t, len, rfl, h1, h2, h3, h4⟩ := a_ald_ok hT hvis h h0 hA hK
  unfold z_bald
  simp only [h1]
  unfold ts12 at h2
  rw [Bool.or_eq_true] at h2
  exact ⟨h2.imp Nat.eq_of_beq_eq_true Nat.eq_of_beq_eq_true, h3, h4⟩
theorem a_ast_ok (hT : aTie g T) {ts : Nat → Bool} {n : Nat} {I0 : zI} {A : aS} {outs : List (Nat × aS)} (h : a_ast g T ts n A = some outs) {ρ : Nat → Int} {L : zL} {S : List zV} {I : zI} {B : Nat × Nat} (hA : aG g T Inv fl I0 ρ A L S I B) {K : zK}
    (hK : ∀ (pc : Nat) (A' : aS), (pc, A') ∈ outs → ∀ (ρ' : Nat → Int) (L' : zL) (S' : List zV) (I' : zI) (B' : Nat × Nat), aAg ρ ρ' A.1.length → A.1.length ≤ A'.1.length → aG g T Inv fl I0 ρ' A' L' S' I' B' → K pc L' S' I' B') : ∃ (v x : Int32) (r : Nat) (S2 : List zV) (t len : Nat), S = .inl v :: .inl x :: .inr (.inl (some r)) :: S2 ∧ g.2.1 (g.1 r) = .inr (t, len) ∧ ts t = true ∧ vp_in x len ∧ (t = 0 ∨ t = 1 ∨ v = 0 ∨ v = 1) ∧ g.2.2.2.2.2 (g.1 r) = false ∧ (t = 1 → g.2.2.1 (g.1 r) x.toNatClampNeg v.toInt8.toInt32) ∧ (¬ t = 1 → g.2.2.1 (g.1 r) x.toNatClampNeg v) ∧ K n L S2 I B := by
  unfold a_ast at h
  split at h
  · rename_i v i q S1 hS1
    have hS := hA.2.2.2.1
    rw [hS1] at hS
    obtain ⟨z, S', rfl, ⟨hw1, w, rfl, hw2⟩, z1, S3, rfl, ⟨hv1, x, rfl, hv2⟩, z2, S2, rfl, h3, h4⟩ := hS
    obtain ⟨r, rfl, hr⟩ := akd_ok h3
    split at h
    · rename_i t len hd
      cases hc : ts t && (ile 0 (aiv A.1 i).1 && (ile ((aiv A.1 i).2 + 1) len && (ile ((aiv A.1 i).2 + 1) (T.2.1 (T.1 (akd g q))).1 && (!g.2.2.2.2.2 (akd g q) && ((Nat.beq t 0 || (Nat.beq t 1 || (ile 0 (aiv A.1 v).1 && ile (aiv A.1 v).2 1))) && ((Nat.beq t 0 && (ieq v.2 0 && atagd A.2.1 v.1 (T.1 (akd g q)) i)) || aest (T.2.1 (T.1 (akd g q))).2 (aiv A.1 i).1 (aiv A.1 i).2 (bif Nat.beq t 1 then (-128, 127) else aiv A.1 v))))))) with
      | false => rw [hc] at h; cases h
      | true =>
        rw [hc] at h
        cases h
        simp only [Bool.and_eq_true] at hc
        obtain ⟨c1, c2, c3, c4, c5, c6, c7⟩ := hc
        have c2 := ile_ok c2
        have c3 := ile_ok c3
        have c4 := ile_ok c4
        have hb := aiv_ok hA.1 hv2
        have hbw := aiv_ok hA.1 hw2
        obtain ⟨g1, g2, g3⟩ := an_ix (x := x) (n := len) (by omega) (by omega)
        have hE : ∀ u : Int32, (t = 1 → u = w.toInt8.toInt32) → (¬ t = 1 → u = w) → g.2.2.1 (g.1 r) x.toNatClampNeg u := by
          intro u hu1 hu2
          rw [hr]
          refine (hT.1 _ _ _).mpr ?_
          rw [Bool.or_eq_true] at c7
          rcases c7 with c7 | c7
          · simp only [Bool.and_eq_true] at c7
            have t0 := Nat.eq_of_beq_eq_true c7.1
            have v0 := ieq_ok c7.2.1
            have htg := hA.2.1 _ (atagd_ok c7.2.2)
            have e1 : (ρ i.1 + i.2).toNat = x.toNatClampNeg := by rw [← hv2]; rfl
            have e2 : ρ v.1 = u.toInt := by rw [hu2 (by omega), hw2, v0]; omega
            have h5 := htg.2.2
            rw [e1, e2] at h5
            exact h5
          · rw [eOK_lt (by omega)]
            refine aest_ok (by omega) (by omega) ?_ ?_ c7
            · cases ht : Nat.beq t 1 with
              | true =>
                have := Nat.eq_of_beq_eq_true ht
                rw [hu1 this]
                exact (an_i2b w).1
              | false =>
                have hne : ¬ t = 1 := fun e => by subst e; cases ht
                rw [hu2 hne]
                exact hbw.1
            · cases ht : Nat.beq t 1 with
              | true =>
                have := Nat.eq_of_beq_eq_true ht
                rw [hu1 this]
                exact (an_i2b w).2
              | false =>
                have hne : ¬ t = 1 := fun e => by subst e; cases ht
                rw [hu2 hne]
                exact hbw.2
        refine ⟨w, x, r, S2, t, len, rfl, by rw [hr]; exact hd, c1, g1, ?_, by rw [hr]; simpa using c5, fun e => hE _ (fun _ => rfl) (fun q => absurd e q), fun e => hE _ (fun q => absurd q e) (fun _ => rfl), ?_⟩
        · simp only [Bool.or_eq_true, Bool.and_eq_true] at c6
          rcases c6 with c6 | c6 | ⟨c6, c8⟩
          · exact Or.inl (Nat.eq_of_beq_eq_true c6)
          · exact Or.inr (Or.inl (Nat.eq_of_beq_eq_true c6))
          · have c6 := ile_ok c6
            have c8 := ile_ok c8
            have e0 : (0 : Int32).toInt = 0 := by decide
            have e1 : (1 : Int32).toInt = 1 := by decide
            by_cases hx : w.toInt = 0
            · exact Or.inr (Or.inr (Or.inl (Int32.toInt_inj.mp (by omega))))
            · exact Or.inr (Or.inr (Or.inr (Int32.toInt_inj.mp (by omega))))
        · exact hK n _ List.mem_cons_self ρ _ _ _ _ aAg_rf (Nat.le_refl _) (aG_stk hA h4)
    · cases h
  · cases h
theorem zst_no {I : zI} {kd i : Nat} {v : Int32} (h : g.2.2.2.2.2 kd = false) : zst g I kd i v = I := by
  unfold zst
  rw [if_neg (by rw [h]; decide)]
theorem as_iast (hT : aTie g T) {n : Nat} : aSnd g T Inv fl (z_iast g n) (a_ast g T ts0 n) := by
  intro I0 A outs h ρ L S I B h0 hA K hK
  obtain ⟨v, x, r, S2, t, len, rfl, h1, h2, h3, h4, h5, h6, h7, h8⟩ := a_ast_ok hT h hA hK
  have t0 := Nat.eq_of_beq_eq_true h2
  unfold z_iast
  simp only [h1]
  rw [zst_no h5]
  exact ⟨t0, h3, Or.inr (h7 (by omega)), h8⟩
theorem as_bast (hT : aTie g T) {n : Nat} : aSnd g T Inv fl (z_bast g n) (a_ast g T ts12 n) := by
  intro I0 A outs h ρ L S I B h0 hA K hK
  obtain ⟨v, x, r, S2, t, len, rfl, h1, h2, h3, h4, h5, h6, h7, h8⟩ := a_ast_ok hT h hA hK
  unfold ts12 at h2
  rw [Bool.or_eq_true] at h2
  unfold z_bast
  simp only [h1]
  rw [zst_no h5, zst_no h5]
  refine ⟨h3, ?_⟩
  rcases h2 with h2 | h2
  · have t0 := Nat.eq_of_beq_eq_true h2
    exact Or.inl ⟨t0, Or.inr (h6 t0), h8⟩
  · have t0 := Nat.eq_of_beq_eq_true h2
    refine Or.inr ⟨t0, ?_, Or.inr (h7 (by omega)), h8⟩
    rcases h4 with h4 | h4 | h4
    · omega
    · omega
    · exact h4
theorem as_alen {n : Nat} : aSnd g T Inv fl (z_alen g n) (a_alen g n) := by
  intro I0 A outs h ρ L S I B h0 hA K hK
  unfold a_alen at h
  split at h
  · rename_i q S1 hS1
    have hS := hA.2.2.2.1
    rw [hS1] at hS
    obtain ⟨z2, S2, rfl, h3, h4⟩ := hS
    obtain ⟨r, rfl, hr⟩ := akd_ok h3
    split at h
    · rename_i t len hd
      cases hc : Nat.blt t 3 && Nat.blt len 2147483648 with
      | false => rw [hc] at h; cases h
      | true =>
        rw [hc] at h
        cases h
        rw [Bool.and_eq_true] at hc
        unfold z_alen
        simp only [hr, hd]
        refine ⟨xblt hc.1, hK n _ List.mem_cons_self ρ _ _ _ _ aAg_rf (Nat.le_refl _) (aG_stk hA ⟨_, _, rfl, ⟨h0, _, rfl, ?_⟩, h4⟩)⟩
        rw [an_ofNat (xblt hc.2)]
        show (len : Int) = ρ 0 + (len : Int)
        rw [hA.1.1]
        omega
    · cases h
  · cases h
theorem as_lald {n : Nat} : aSnd g T Inv fl (z_lald g n) (a_lald g n) := by
  intro I0 A outs h ρ L S I B h0 hA K hK
  unfold a_lald at h
  split at h
  · rename_i i q S1 hS1
    have hS := hA.2.2.2.1
    rw [hS1] at hS
    obtain ⟨z, S', rfl, ⟨hv1, x, rfl, hv2⟩, z2, S2, rfl, h3, h4⟩ := hS
    obtain ⟨r, rfl, hr⟩ := akd_ok h3
    split at h
    · rename_i t len hd
      cases hc : Nat.beq t 3 && (ile 0 (aiv A.1 i).1 && ile ((aiv A.1 i).2 + 1) len) with
      | false => rw [hc] at h; cases h
      | true =>
        rw [hc] at h
        cases h
        simp only [Bool.and_eq_true] at hc
        obtain ⟨c1, c2, c3⟩ := hc
        have c2 := ile_ok c2
        have c3 := ile_ok c3
        have hb := aiv_ok hA.1 hv2
        obtain ⟨g1, g2, g3⟩ := an_ix (x := x) (n := len) (by omega) (by omega)
        unfold z_lald
        simp only [hr, hd]
        exact ⟨Nat.eq_of_beq_eq_true c1, g1, fun v _ => hK n _ List.mem_cons_self ρ _ _ _ _ aAg_rf (Nat.le_refl _) (aG_stk hA ⟨_, _, rfl, ⟨v, rfl⟩, h4⟩)⟩
    · cases h
  · cases h
/-- switches: a side for each number, and the rest -/
noncomputable def atsw (A : aS) (x : aN) (S : List aV) (k : Int) : List Nat → List (Nat × aS)
  | [] => []
  | t :: ts => abr 0 t A x (0, k) S ++ atsw A x S (k + 1) ts
noncomputable def a_tsw (lo : Int) (ts : List Nat) (df : Nat) : aF := fun A => match A.2.2.2.1 with
  | .inl x :: S => some ((df, A.1, A.2.1, A.2.2.1, S, A.2.2.2.2) :: atsw A x S lo ts)
  | _ => none
noncomputable def alsw (A : aS) (x : aN) (S : List aV) : List (Int × Nat) → List (Nat × aS)
  | [] => []
  | q :: ts => abr 0 q.2 A x (0, q.1) S ++ alsw A x S ts
noncomputable def a_lsw (ts : List (Int × Nat)) (df : Nat) : aF := fun A => match A.2.2.2.1 with
  | .inl x :: S => some ((df, A.1, A.2.1, A.2.2.1, S, A.2.2.2.2) :: alsw A x S ts)
  | _ => none
theorem abr_eq {I0 : zI} {ρ : Nat → Int} {A : aS} {L : zL} {S S0 : List zV} {I : zI} {B : Nat × Nat} (h : aG g T Inv fl I0 ρ A L S I B) {t : Nat} {a : aN} {k : Int} {x : Int32} {AS : List aV} (hS : aSOk g ρ A.1.length AS S0) (hx : x.toInt = ρ a.1 + a.2) (hk : x.toInt = k) : ∃ A', (t, A') ∈ abr 0 t A a (0, k) AS ∧ A'.1.length = A.1.length ∧ aG g T Inv fl I0 ρ A' L S0 I B :=
  abr_ok h hS hx (y := x) (by show x.toInt = ρ 0 + k; rw [h.1.1]; omega) rfl
theorem atsw_mem {A : aS} {x : aN} {S : List aV} : ∀ {ts : List Nat} {lo : Int} {k t : Nat}, ts[k]? = some t → ∀ q ∈ abr 0 t A x (0, lo + k) S, q ∈ atsw A x S lo ts
  | [], lo, k, t, h, q, hq => by simp at h
  | t0 :: ts, lo, k, t, h, q, hq => by
    cases k with
    | zero =>
      cases h
      rw [show lo + ((0 : Nat) : Int) = lo by omega] at hq
      exact List.mem_append_left _ hq
    | succ k =>
      rw [show lo + ((k + 1 : Nat) : Int) = (lo + 1) + (k : Int) by omega] at hq
      exact List.mem_append_right _ (atsw_mem (ts := ts) h q hq)
theorem as_tsw {lo : Int} {ts : List Nat} {df : Nat} : aSnd g T Inv fl (z_tsw lo ts df) (a_tsw lo ts df) := by
  intro I0 A outs h ρ L S I B h0 hA K hK
  unfold a_tsw at h
  split at h
  · rename_i a S1 hS1
    cases h
    have hS := hA.2.2.2.1
    rw [hS1] at hS
    obtain ⟨z2, S2, rfl, ⟨h5, x, rfl, h6⟩, h7⟩ := hS
    refine ⟨fun k t hk hx => ?_, fun _ => ?_⟩
    · obtain ⟨A', q1, q2, q3⟩ := abr_eq (t := t) hA h7 h6 hx
      exact hK t A' (List.mem_cons_of_mem _ (atsw_mem hk _ q1)) ρ _ _ _ _ aAg_rf (by omega) q3
    · exact hK df _ List.mem_cons_self ρ _ _ _ _ aAg_rf (Nat.le_refl _) (aG_stk hA h7)
  · cases h
theorem alsw_ok {I0 : zI} {ρ : Nat → Int} {A : aS} {L : zL} {S S0 : List zV} {I : zI} {B : Nat × Nat} (h : aG g T Inv fl I0 ρ A L S I B) {a : aN} {x : Int32} {AS : List aV} {df : Nat} (hS : aSOk g ρ A.1.length AS S0) (hx : x.toInt = ρ a.1 + a.2) : ∀ ts : List (Int × Nat), zlook ts df x.toInt = df ∨ ∃ A', (zlook ts df x.toInt, A') ∈ alsw A a AS ts ∧ A'.1.length = A.1.length ∧ aG g T Inv fl I0 ρ A' L S0 I B
  | [] => Or.inl rfl
  | q :: ts => by
    by_cases hq : x.toInt = q.1
    · obtain ⟨A', q1, q2, q3⟩ := abr_eq (t := q.2) h hS hx hq
      right
      have e : zlook (q :: ts) df x.toInt = q.2 := by simp only [zlook, if_pos hq]
      rw [e]
      exact ⟨A', List.mem_append_left _ q1, q2, q3⟩
    · have e : zlook (q :: ts) df x.toInt = zlook ts df x.toInt := by simp only [zlook, if_neg hq]
      rw [e]
      rcases alsw_ok h hS hx ts with ih | ⟨A', q1, q2, q3⟩
      · exact Or.inl ih
      · exact Or.inr ⟨A', List.mem_append_right _ q1, q2, q3⟩
theorem as_lsw {ts : List (Int × Nat)} {df : Nat} : aSnd g T Inv fl (z_lsw ts df) (a_lsw ts df) := by
  intro I0 A outs h ρ L S I B h0 hA K hK
  unfold a_lsw at h
  split at h
  · rename_i a S1 hS1
    cases h
    have hS := hA.2.2.2.1
    rw [hS1] at hS
    obtain ⟨z2, S2, rfl, ⟨h5, x, rfl, h6⟩, h7⟩ := hS
    unfold z_lsw
    rcases alsw_ok (df := df) hA h7 h6 ts with e | ⟨A', q1, q2, q3⟩
    · show K (zlook ts df x.toInt) L S2 I B
      rw [e]
      exact hK df _ List.mem_cons_self ρ _ _ _ _ aAg_rf (Nat.le_refl _) (aG_stk hA h7)
    · exact hK _ A' (List.mem_cons_of_mem _ q1) ρ _ _ _ _ aAg_rf (by omega) q3
  · cases h
/-- the words that a stack takes -/
def acat (S : List aV) : Nat := match S with
  | [] => 0
  | .inr (.inr _) :: S => acat S + 2
  | _ :: S => acat S + 1
theorem acat_ok {ρ : Nat → Int} {n : Nat} : ∀ {AS : List aV} {S : List zV}, aSOk g ρ n AS S → zcat S = acat AS
  | [], S, h => by cases h; rfl
  | v :: AS, S, h => by
    obtain ⟨z, S', rfl, h1, h2⟩ := h
    have ih := acat_ok h2
    match v, h1 with
    | .inl a, ⟨_, x, h3, _⟩ => rw [h3]; show zcat S' + 1 = acat AS + 1; rw [ih]
    | .inr (.inl q), h1 => obtain ⟨r, h3⟩ := aVOk_ref h1; rw [h3]; show zcat S' + 1 = acat AS + 1; rw [ih]
    | .inr (.inr _), ⟨x, h3⟩ => rw [h3]; show zcat S' + 2 = acat AS + 2; rw [ih]
noncomputable def a_math (F : List aQ → aN → aN → aN ⊕ aQ) (n : Nat) : aF := fun A => match A.2.2.2.1 with
  | .inl y :: .inl x :: S => bif Nat.ble (acat S) 8 then some [(n, apsh A (F A.1 x y) S)] else none
  | _ => none
theorem as_math {F : List aQ → aN → aN → aN ⊕ aQ} {f : Int32 → Int32 → Int32} {n : Nat} (hF : aBinOk F f) : aSnd g T Inv fl (z_math f n) (a_math F n) := by
  intro I0 A outs h ρ L S I B h0 hA K hK
  unfold a_math at h
  split at h
  · rename_i b a S1 hS1
    cases hc : Nat.ble (acat S1) 8 with
    | false => rw [hc] at h; cases h
    | true =>
      rw [hc] at h
      cases h
      have hS := hA.2.2.2.1
      rw [hS1] at hS
      obtain ⟨z, S', rfl, ⟨h3, y, rfl, h4⟩, z2, S2, rfl, ⟨h5, x, rfl, h6⟩, h7⟩ := hS
      obtain ⟨ρ', q1, q2, q3⟩ := apsh_ok h0 hA h7 (hF A.1 ρ a b x y h0 hA.1 h5 h3 h6 h4)
      exact ⟨by rw [acat_ok h7]; exact xble hc, hK n _ List.mem_cons_self ρ' _ _ _ _ q1 q2 q3⟩
  · cases h
end A5
