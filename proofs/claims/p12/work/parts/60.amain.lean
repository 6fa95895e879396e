section A11
variable {g : zG} {T : aT} {Inv : zI → Prop} {PX : xPX} {bd : Nat → Nat × Nat} {pre : zPre} {post : zPost} {d : Nat × Nat × Nat} {cc : ByteArray} {own : String}
theorem adot_ag {ρ ρ' : Nat → Int} {n : Nat} (h : aAg ρ ρ' n) : ∀ {t : List Int} {k : Nat}, k + t.length ≤ n → adot ρ' k t = adot ρ k t
  | [], k, _ => rfl
  | c :: t, k, hk => by
    simp only [List.length_cons] at hk
    show c * ρ' k + adot ρ' (k + 1) t = c * ρ k + adot ρ (k + 1) t
    rw [h k (by omega), adot_ag h (by omega)]
theorem alow_len : ∀ {D : List Int} {e : List aQ} {x : Int}, alow D e = some x → D.length ≤ e.length
  | [], e, x, _ => Nat.zero_le _
  | c :: t, [], x, h => by cases h
  | c :: t, q :: e, x, h => by
    have h : (match alow t e with
    | none => none
    | some x => some ((bif ile 0 c then c * q.1 else c * q.2) + x)) = some x := h
    split at h
    · cases h
    · rename_i y hy
      have := alow_len hy
      simp only [List.length_cons]
      omega
theorem aal_ok {k : Nat} {A : aS} {FI0 : List (Nat × aN)} {al : aAl} {AR : List (Option aN)} {as : List zV} (h : aal k A.1 A.2.2.2.1 A.2.2.2.2.1 FI0 AR al = true) {fl : Bool × Bool} {I0 I : zI} {ρ0 ρ : Nat → Int} {n0 : Nat} {L : zL} {S : List zV} {B : Nat × Nat} (hA : aG g T Inv fl I0 ρ A L S I B) (hag : aAg ρ0 ρ n0) (hF0 : aFOk ρ0 n0 FI0 I0) (hAR : ∀ (k : Nat) (a : aN), AR[k]? = some (some a) → a.1 < n0 ∧ ∃ x : Int32, as[k]? = some (.inl x) ∧ x.toInt = ρ0 a.1 + a.2) :
    ∃ r, aAlOk al as I0 r I ∧ ((k = 1 ∧ ∃ x : Int32, S = [.inl x] ∧ r = some (.inl x)) ∨ (k = 2 ∧ ∃ x : Int32, (x = 0 ∨ x = 1) ∧ S = [.inl x] ∧ r = some (.inl x)) ∨ (k = 3 ∧ S = [] ∧ r = none) ∨ (k = 4 ∧ ∃ x : Int64, S = [.inr (.inr x)] ∧ r = some (.inr (.inr x)))) := by
  unfold aal at h
  simp only [Bool.and_eq_true] at h
  obtain ⟨h1, h2, h3, h9⟩ := h
  have hS := hA.2.2.2.1
  have har : ∀ q ∈ al.2.2, ∃ x : Int32, as[q.1]? = some (.inl x) ∧ q.2.1 ≤ x.toInt ∧ x.toInt ≤ q.2.2 := by
    intro q hq
    have h4 := List.all_eq_true.mp h9 q hq
    unfold aar1 at h4
    rw [xget_eq] at h4
    split at h4
    · rename_i a ha
      rw [Bool.and_eq_true] at h4
      obtain ⟨g1, x, g2, g3⟩ := hAR q.1 a ha
      have h5 := ile_ok h4.1
      have h6 := ile_ok h4.2
      have hb := aiv_ok hA.1 (a := a) (x := x) (by rw [g3, hag _ g1])
      exact ⟨x, g2, by omega, by omega⟩
    · cases h4
  have hch : ∀ q ∈ al.2.1, (∀ k, q.2.1 = some k → (I q.1).toInt = (I0 q.1).toInt + k) ∧ q.2.2.1 ≤ (I q.1).toInt ∧ (I q.1).toInt ≤ q.2.2.2 := by
    intro q hq
    have h4 := List.all_eq_true.mp h2 q hq
    unfold ach1 at h4
    split at h4
    · cases h4
    · rename_i a ha
      rw [Bool.and_eq_true, Bool.and_eq_true] at h4
      obtain ⟨⟨h5, h6⟩, h7⟩ := h4
      have h5 := ile_ok h5
      have h6 := ile_ok h6
      have hm : (I q.1).toInt = ρ a.1 + a.2 := (hA.2.2.2.2.1 _ (afind_mem ha)).2
      have hb := aiv_ok hA.1 hm
      refine ⟨fun k hk => ?_, by omega, by omega⟩
      rw [hk] at h7
      have h7 : (match afind FI0 q.1 with
      | none => false
      | some b => aNeq a (b.1, b.2 + k)) = true := h7
      split at h7
      · cases h7
      · rename_i b hb0
        have e := aNeq_ok h7
        have hm0 := hF0 _ (afind_mem hb0)
        have hm1 : (I0 q.1).toInt = ρ0 b.1 + b.2 := hm0.2
        rw [hm, e]
        show ρ b.1 + (b.2 + k) = _
        rw [hag _ hm0.1]
        show ρ0 b.1 + (b.2 + k) = _
        omega
  have hfr : ∀ id, id < 4096 → (∀ a, (id, a) ∉ al.2.1) → I id = I0 id := by
    intro id hid hno
    by_cases hin : ∃ a, (id, a) ∈ A.2.2.2.2.1
    · obtain ⟨a, ha⟩ := hin
      have h4 := List.all_eq_true.mp h3 _ ha
      unfold aun1 at h4
      have hni : anotin id al.2.1 = true := by
        clear h2 h3 h4 h9 hch har
        revert hno
        generalize al.2.1 = l
        intro hno
        induction l with
        | nil => rfl
        | cons q l ih =>
          show (!Nat.beq q.1 id && anotin id l) = true
          rw [ih (fun a ha => hno a (List.mem_cons_of_mem _ ha))]
          have hne : Nat.beq q.1 id = false := by
            cases hb : Nat.beq q.1 id with
            | false => rfl
            | true =>
              have e := Nat.eq_of_beq_eq_true hb
              exact absurd (by rw [← e]; exact List.mem_cons_self) (hno q.2)
          rw [hne]
          rfl
      rw [show anotin (id, a).1 al.2.1 = true from hni] at h4
      have h4 : (match afind FI0 id with
  | none => false
  | some b => aNeq a b) = true := h4
      split at h4
      · cases h4
      · rename_i b hb0
        have e := aNeq_ok h4
        have hm0 := hF0 _ (afind_mem hb0)
        have hm1 : (I0 id).toInt = ρ0 b.1 + b.2 := hm0.2
        have hm : (I id).toInt = ρ a.1 + a.2 := (hA.2.2.2.2.1 _ ha).2
        apply Int32.toInt_inj.mp
        rw [hm, hm1, e, hag _ hm0.1]
    · exact hA.2.2.2.2.2.2.2.1 id hid (fun a ha => hin ⟨a, ha⟩)
  unfold arr at h1
  split at h1
  · rename_i q a e1 e2
    rw [e2] at hS
    obtain ⟨z, S', rfl, ⟨-, x, rfl, hx⟩, rfl⟩ := hS
    rw [Bool.and_eq_true] at h1
    have h5 := ile_ok h1.1
    have h6 := ile_ok h1.2
    have hb := aiv_ok hA.1 hx
    exact ⟨some (.inl x), ⟨by rw [e1]; exact ⟨x, rfl, by omega, by omega⟩, hch, hfr, har⟩, Or.inl ⟨rfl, x, rfl, rfl⟩⟩
  · rename_i q a e1 e2
    rw [e2] at hS
    obtain ⟨z, S', rfl, ⟨-, x, rfl, hx⟩, rfl⟩ := hS
    simp only [Bool.and_eq_true] at h1
    obtain ⟨⟨h5, h6⟩, h7, h8⟩ := h1
    have h5 := ile_ok h5
    have h6 := ile_ok h6
    have h7 := ile_ok h7
    have h8 := ile_ok h8
    have hb := aiv_ok hA.1 hx
    refine ⟨some (.inl x), ⟨by rw [e1]; exact ⟨x, rfl, by omega, by omega⟩, hch, hfr, har⟩, Or.inr (Or.inl ⟨rfl, x, ?_, rfl, rfl⟩)⟩
    have e0 : (0 : Int32).toInt = 0 := by decide
    have e1 : (1 : Int32).toInt = 1 := by decide
    by_cases hx0 : x.toInt = 0
    · exact Or.inl (Int32.toInt_inj.mp (by omega))
    · exact Or.inr (Int32.toInt_inj.mp (by omega))
  · rename_i e1 e2
    rw [e2] at hS
    cases hS
    exact ⟨none, ⟨by rw [e1]; rfl, hch, hfr, har⟩, Or.inr (Or.inr (Or.inl ⟨rfl, rfl, rfl⟩))⟩
  · rename_i u u2 e1 e2
    rw [e2] at hS
    obtain ⟨z, S', rfl, ⟨x, rfl⟩, rfl⟩ := hS
    exact ⟨some (.inr (.inr x)), ⟨by rw [e1]; exact ⟨x, rfl⟩, hch, hfr, har⟩, Or.inr (Or.inr (Or.inr ⟨rfl, x, rfl, rfl⟩))⟩
  · cases h1
theorem ameth_ok {Tr : Nat → Option aF} {fuel : Nat} {cuts : List aCut} {rets : List (Nat × Nat)} {c : aC} {b : Nat × Nat} {maxL dd : Nat} {ret : Option FieldType} {as : List zV} {I : zI} (hchk : amchk g Tr fuel cuts rets c b maxL = true) (hT : aTr g T Inv c.2.2.2.1 PX bd pre post d cc own Tr) (hr : ∀ pc, ¬ xrt rets pc = 0 → xretok cc ret pc (xrt rets pc)) (hpre : aPre g Inv c dd as I) : (zla as).length ≤ maxL ∧ zReach g PX bd pre post d cc own (zEntry maxL as I) (zRet cc ret b (fun r I' => aPost Inv c as I r I')) := by
  unfold amchk at hchk
  simp only [Bool.and_eq_true] at hchk
  obtain ⟨hm, hrun, hcuts⟩ := hchk
  have hm := xble hm
  obtain ⟨hlen, ρ0, hA0, hFI0, hAR⟩ := aent_ok (T := T) hm hpre
  refine ⟨hlen, ?_⟩
  generalize hn0 : (aent c maxL).1.length = n0 at hrun hcuts hFI0 hAR
  have hn0p : 0 < n0 := by rw [← hn0]; simp [aent]
  generalize hF0e : (aent c maxL).2.2.2.2.1 = FI0 at hrun hcuts hFI0
  have hF0 : aFOk ρ0 n0 FI0 I := by rw [← hn0, ← hF0e]; exact hA0.2.2.2.2.1
  -- what an end of a run needs
  have out : ∀ (src : Option (Int × List Int)) (m : Nat) (ρ ρ' : Nat → Int) (n : Nat) (pc : Nat) (A' : aS) (L : zL) (S : List zV) (I' : zI) (B : Nat × Nat), achk g n0 cuts rets c FI0 b src (pc, A') = true → aAg ρ0 ρ n0 → n0 ≤ n → aAg ρ ρ' n → n ≤ A'.1.length → aG g T Inv c.2.2.2.1 I ρ' A' L S I' B → (∀ k co, src = some (k, co) → co.length ≤ n ∧ 0 ≤ k + adot ρ 0 co ∧ (k + adot ρ 0 co).toNat = m) →
      (∀ m' : Nat, (src = none ∨ m' < m) → ∀ ct ∈ cuts, ∀ (ρ2 : Nat → Int) (L2 : zL) (S2 : List zV) (I2 : zI) (B2 : Nat × Nat), aAg ρ0 ρ2 n0 → aG g T Inv c.2.2.2.1 I ρ2 ct.2.1 L2 S2 I2 B2 → (ct.2.2.2.1 + adot ρ2 0 ct.2.2.2.2).toNat = m' → zAt g PX bd pre post d cc own (zRet cc ret b (fun r I' => aPost Inv c as I r I')) ct.1 L2 S2 I2 B2) →
      zAt g PX bd pre post d cc own (zRet cc ret b (fun r I' => aPost Inv c as I r I')) pc L S I' B := by
    intro src m ρ ρ' n pc A' L S I' B hc g1 g2 g3 g4 hA' hsrc ih
    have hag : aAg ρ0 ρ' n0 := aAg_tr g2 g1 g3
    unfold achk at hc
    split at hc
    · rename_i ct hct
      obtain ⟨hmem, hpc⟩ := acutf_mem hct
      split at hc
      · cases hc
      · rename_i df hdf
        obtain ⟨k1, k2, k3⟩ := amatch_ok hdf hn0p (Nat.le_trans g2 g4) hA'
        have hag2 : aAg ρ0 (asb n0 df ρ') n0 := aAg_tr (Nat.le_refl _) hag asb_lo
        have hcut := List.all_eq_true.mp hcuts ct hmem
        unfold acut1 at hcut
        simp only [Bool.and_eq_true] at hcut
        obtain ⟨-, hnn, -⟩ := hcut
        have hpc : ct.1 = pc := hpc
        rw [← hpc]
        refine ih (ct.2.2.2.1 + adot (asb n0 df ρ') 0 ct.2.2.2.2).toNat ?_ ct hmem (asb n0 df ρ') L S I' B hag2 k1 rfl
        split at hc
        · exact Or.inl rfl
        · rename_i k co
          right
          obtain ⟨s1, s2, s3⟩ := hsrc k co rfl
          split at hc
          · cases hc
          · rename_i x hx
            have hc := ile_ok hc
            split at hnn
            · cases hnn
            · rename_i y hy
              have hnn := ile_ok hnn
              have l1 := alow_ok (ρ := ρ') (k := 0) (fun i q hi => by rw [Nat.zero_add]; exact hA'.1.2 i q hi) hx
              have l2 := alow_ok (ρ := asb n0 df ρ') (k := 0) (fun i q hi => by rw [Nat.zero_add]; exact k1.1.2 i q hi) hy
              have l3 := adiff_ok (n0 := n0) (df := df) (ρ := ρ') (t := ct.2.2.2.2) (k := 0) (D := (co, k - ct.2.2.2.1))
              have l4 : adot ρ' 0 co = adot ρ 0 co := adot_ag g3 (by omega)
              have l5 : ((co, k - ct.2.2.2.1) : List Int × Int).2 + adot ρ' 0 ((co, k - ct.2.2.2.1) : List Int × Int).1 = k - ct.2.2.2.1 + adot ρ 0 co := by rw [← l4]
              omega
    · simp only [Bool.and_eq_true] at hc
      obtain ⟨c1, c2, c3⟩ := hc
      obtain ⟨al, hal, hal2⟩ := List.any_eq_true.mp c3
      obtain ⟨r, q1, q2⟩ := aal_ok (k := xrt rets pc) (A := A') hal2 hA' hag hF0 hAR
      have hpost : aPost Inv c as I r I' := ⟨⟨al, hal, q1⟩, hA'.2.2.2.2.2.2.1, hA'.2.2.2.2.2.2.2.2⟩
      have hB : B = A'.2.2.2.2.2 := hA'.2.2.2.2.2.1
      refine zAt_in ⟨⟨by rw [hB]; exact xble c1, by rw [hB]; exact xble c2⟩, ?_⟩
      have hk : ¬ xrt rets pc = 0 := by
        rcases q2 with ⟨e, -⟩ | ⟨e, -⟩ | ⟨e, -⟩ | ⟨e, -⟩ <;> rw [e] <;> decide
      have hro := hr pc hk
      rcases q2 with ⟨e, x, rfl, rfl⟩ | ⟨e, x, hx, rfl, rfl⟩ | ⟨e, rfl, rfl⟩ | ⟨e, x, rfl, rfl⟩
      · rw [e] at hro
        rcases hro with ⟨-, hd, h3⟩ | ⟨h3, -⟩ | ⟨h3, -⟩ | ⟨h3, -⟩
        · exact Or.inl ⟨h3, hd, x, rfl, hpost⟩
        · cases h3
        · cases h3
        · cases h3
      · rw [e] at hro
        rcases hro with ⟨h3, -⟩ | ⟨-, hd, h3⟩ | ⟨h3, -⟩ | ⟨h3, -⟩
        · cases h3
        · exact Or.inr (Or.inl ⟨h3, hd, x, hx, rfl, hpost⟩)
        · cases h3
        · cases h3
      · rw [e] at hro
        rcases hro with ⟨h3, -⟩ | ⟨h3, -⟩ | ⟨-, hd, h3⟩ | ⟨h3, -⟩
        · cases h3
        · cases h3
        · exact Or.inr (Or.inr (Or.inl ⟨h3, hd, rfl, hpost⟩))
        · cases h3
      · rw [e] at hro
        rcases hro with ⟨h3, -⟩ | ⟨h3, -⟩ | ⟨h3, -⟩ | ⟨-, hd, h3⟩
        · cases h3
        · cases h3
        · cases h3
        · exact Or.inr (Or.inr (Or.inr ⟨h3, hd, x, rfl, hpost⟩))
  have main : ∀ m : Nat, ∀ ct ∈ cuts, ∀ (ρ2 : Nat → Int) (L2 : zL) (S2 : List zV) (I2 : zI) (B2 : Nat × Nat), aAg ρ0 ρ2 n0 → aG g T Inv c.2.2.2.1 I ρ2 ct.2.1 L2 S2 I2 B2 → (ct.2.2.2.1 + adot ρ2 0 ct.2.2.2.2).toNat = m → zAt g PX bd pre post d cc own (zRet cc ret b (fun r I' => aPost Inv c as I r I')) ct.1 L2 S2 I2 B2 := by
    intro m
    induction m using Nat.strongRecOn with
    | ind m ih =>
      intro ct hmem ρ2 L2 S2 I2 B2 hag hA hm2
      have hcut := List.all_eq_true.mp hcuts ct hmem
      unfold acut1 at hcut
      simp only [Bool.and_eq_true] at hcut
      obtain ⟨hn, hnn, hru⟩ := hcut
      have hn := xble hn
      unfold aruns at hru
      split at hru
      · cases hru
      · rename_i outs ho
        split at hnn
        · cases hnn
        · rename_i y hy
          have hnn := ile_ok hnn
          have l2 := alow_ok (ρ := ρ2) (k := 0) (fun i q hi => by rw [Nat.zero_add]; exact hA.1.2 i q hi) hy
          have l3 := alow_len hy
          refine zAt_tr (aexec_ok hT fuel ct.1 ct.2.1 outs ho ρ2 L2 S2 I2 B2 (by omega) hA) ?_
          intro pc' L' S' I' B' hk
          obtain ⟨A', ρ', hm', k1, k2, k3⟩ := hk
          refine out (some (ct.2.2.2.1, ct.2.2.2.2)) m ρ2 ρ' ct.2.1.1.length pc' A' L' S' I' B' (List.all_eq_true.mp hru _ hm') hag hn k1 k2 k3 ?_ ?_
          · intro k co he
            cases he
            exact ⟨l3, by omega, hm2⟩
          · intro m' hm3 ct' hmem' ρ3 L3 S3 I3 B3 a1 a2 a3
            rcases hm3 with h | h
            · cases h
            · exact ih m' h ct' hmem' ρ3 L3 S3 I3 B3 a1 a2 a3
  refine zAt_reach ?_
  intro pc L S I1 B hE
  obtain ⟨rfl, rfl, rfl, rfl, rfl⟩ := hE
  unfold aruns at hrun
  split at hrun
  · cases hrun
  · rename_i outs ho
    refine zAt_tr (aexec_ok hT fuel 0 (aent c maxL) outs ho ρ0 _ _ _ _ (by rw [hn0]; exact hn0p) hA0) ?_
    intro pc' L' S' I' B' hk
    obtain ⟨A', ρ', hm', k1, k2, k3⟩ := hk
    rw [hn0] at k1 k2
    exact out none 0 ρ0 ρ' n0 pc' A' L' S' I' B' (List.all_eq_true.mp hrun _ hm') aAg_rf (Nat.le_refl _) k1 k2 k3 (fun _ _ he => by cases he) (fun m' _ => main m')
end A11
