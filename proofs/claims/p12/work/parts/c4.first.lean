/-! ===== what stands behind the constructors ===== -/
def zIof (ws : va_W) : zI := fun id => if id < 4096 then (match ws[(zow id).1]? with
    | some (_, .inr (_, vs)) => (match vs[(zow id).2]? with
      | some (.int v) => v
      | _ => 0)
    | _ => 0)
  else (match ws[id / 4096 - 1]? with
    | some (_, .inl (_, _, .inl f)) => f (id % 4096)
    | some (_, .inl (_, _, .inr (.inr (.inr (.inr f))))) => zflag (f (id % 4096))
    | _ => 0)
theorem zIof_f {ws : va_W} {id k j a ci : Nat} {vs : List Value} {v : Int32} (hid : id < 4096) (hz : zow id = (k, j)) (hw : ws[k]? = some (a, .inr (ci, vs))) (hv : vs[j]? = some (.int v)) : zIof ws id = v := by
  unfold zIof
  rw [if_pos hid, hz]
  simp only [hw, hv]
theorem zid_dm {kd j : Nat} (hj : j < 4096) : ¬ zid kd j < 4096 ∧ zid kd j / 4096 - 1 = kd ∧ zid kd j % 4096 = j := by
  unfold zid
  omega
theorem zIof_a {ws : va_W} {kd j a n : Nat} {cA : ClassId} {f : Nat → Int32} (hj : j < 4096) (hw : ws[kd]? = some (a, .inl (cA, n, .inl f))) : zIof ws (zid kd j) = f j := by
  obtain ⟨e1, e2, e3⟩ := zid_dm (kd := kd) hj
  unfold zIof
  rw [if_neg e1, e2, e3]
  simp only [hw]
theorem zIof_q {ws : va_W} {kd j a n : Nat} {cA : ClassId} {f : Nat → Option Nat} (hj : j < 4096) (hw : ws[kd]? = some (a, .inl (cA, n, .inr (.inr (.inr (.inr f)))))) : zIof ws (zid kd j) = zflag (f j) := by
  obtain ⟨e1, e2, e3⟩ := zid_dm (kd := kd) hj
  unfold zIof
  rw [if_neg e1, e2, e3]
  simp only [hw]
theorem xRI_i {a : Nat × Nat} {x : Int32} (h : xRI a x) : (a.1 : Int) - 2147483648 ≤ x.toInt ∧ x.toInt ≤ (a.2 : Int) - 2147483648 := by
  obtain ⟨h1, h2⟩ := h
  have := xo_int x
  omega
noncomputable def fchk1 (k j : Nat) (v : xV) (ft : zT) : Bool := match v with
  | .inl a => (Nat.beq ft.1 0 && (Nat.blt ft.2 4096 && (Nat.beq (zow ft.2).1 k && Nat.beq (zow ft.2).2 j))) || (Nat.beq ft.1 1 && (decide ((zfv ft.2).1 ≤ (a.1 : Int) - 2147483648) && decide ((a.2 : Int) - 2147483648 ≤ (zfv ft.2).2)))
  | .inr (.inl (some r)) => Nat.blt r 119 && ((Nat.beq ft.1 2 && Nat.beq r ft.2) || (Nat.beq ft.1 3 && Nat.beq (zkn r) ft.2))
  | _ => false
noncomputable def fchk (k : Nat) : Nat → List xV → List zT → Bool
  | _, [], [] => true
  | j, v :: fs, ft :: fts => fchk1 k j v ft && fchk k (j + 1) fs fts
  | _, _, _ => false
theorem fchk1_ok {sz b k j a ci : Nat} {ws : va_W} {V : List Value} {v : xV} {ft : zT} {u : Value} (hw : ws[k]? = some (a, .inr (ci, V))) (h : fchk1 k j v ft = true) (hu : xRV sz b v u) (hV : V[j]? = some u) : zFt zG0 sz 119 (zIof ws) ft u := by
  unfold fchk1 at h
  split at h
  · rename_i bx
    obtain ⟨x, rfl, hx⟩ := hu
    rcases Bool.or_eq_true _ _ |>.mp h with h | h
    · simp only [Bool.and_eq_true] at h
      obtain ⟨h1, h2, h3, h4⟩ := h
      have h1 := Nat.eq_of_beq_eq_true h1
      have h3 := Nat.eq_of_beq_eq_true h3
      have h4 := Nat.eq_of_beq_eq_true h4
      refine Or.inl ⟨h1, ?_⟩
      rw [zIof_f (xblt h2) (Prod.ext h3 h4) hw hV]
    · simp only [Bool.and_eq_true, decide_eq_true_eq] at h
      obtain ⟨h1, h2, h3⟩ := h
      have := xRI_i hx
      exact Or.inr (Or.inl ⟨Nat.eq_of_beq_eq_true h1, x, rfl, by show (zfv ft.2).1 ≤ x.toInt; omega, by show x.toInt ≤ (zfv ft.2).2; omega⟩)
  · rename_i r
    simp only [Bool.and_eq_true] at h
    obtain ⟨h0, h⟩ := h
    have h0 := xblt h0
    rcases Bool.or_eq_true _ _ |>.mp h with h | h
    · simp only [Bool.and_eq_true] at h
      have h2 := Nat.eq_of_beq_eq_true h.2
      subst h2
      exact Or.inr (Or.inr (Or.inl ⟨Nat.eq_of_beq_eq_true h.1, hu, h0⟩))
    · simp only [Bool.and_eq_true] at h
      exact Or.inr (Or.inr (Or.inr ⟨Nat.eq_of_beq_eq_true h.1, r, h0, Nat.eq_of_beq_eq_true h.2, hu⟩))
  · cases h
theorem fchk_ok {sz b k a ci : Nat} {ws : va_W} {V : List Value} (hw : ws[k]? = some (a, .inr (ci, V))) : ∀ (j : Nat) (fs : List xV) (fts : List zT) (vs : List Value), fchk k j fs fts = true → xRS sz b fs vs → (∀ (i : Nat) (x : Value), vs[i]? = some x → V[j + i]? = some x) → vs.length = fts.length ∧ ∀ (i : Nat) (ft : zT), fts[i]? = some ft → ∃ x, vs[i]? = some x ∧ zFt zG0 sz 119 (zIof ws) ft x
  | j, [], [], vs, _, h, _ => by
    cases h
    exact ⟨rfl, fun i ft h => by simp at h⟩
  | j, v :: fs, ft :: fts, vs, hc, h, hV => by
    obtain ⟨u, vs', rfl, hu, h'⟩ := h
    simp only [fchk, Bool.and_eq_true] at hc
    obtain ⟨l1, l2⟩ := fchk_ok hw (j + 1) fs fts vs' hc.2 h' (fun i x hi => by
      have := hV (i + 1) x (by rw [List.getElem?_cons_succ]; exact hi)
      rw [show j + 1 + i = j + (i + 1) by omega]
      exact this)
    refine ⟨by rw [List.length_cons, List.length_cons, l1], fun i ft' hi => ?_⟩
    cases i with
    | succ i =>
      rw [List.getElem?_cons_succ] at hi ⊢
      exact l2 i ft' hi
    | zero =>
      rw [List.getElem?_cons_zero] at hi ⊢
      cases hi
      exact ⟨u, rfl, fchk1_ok hw hc.1 hu (hV 0 u rfl)⟩
  | j, [], _ :: _, vs, hc, _, _ => by simp [fchk] at hc
  | j, _ :: _, [], vs, hc, _, _ => by simp [fchk] at hc
def bxok (tb : aTb) (a : Nat × Nat) : Bool := tb.2.all (fun q => decide (q.2.2.1 ≤ (a.1 : Int) - 2147483648) && decide ((a.2 : Int) - 2147483648 ≤ q.2.2.2))
theorem bxok_ok {tb : aTb} {a : Nat × Nat} {x : Int32} (h : bxok tb a = true) (hx : xRI a x) (i : Nat) : eOK tb i x.toInt := by
  intro q hq _ _
  have h1 := List.all_eq_true.mp h q hq
  simp only [Bool.and_eq_true, decide_eq_true_eq] at h1
  have := xRI_i hx
  omega
theorem xlk_all {P : Nat × Nat → Prop} {d : Nat × Nat} (hd : P d) : ∀ {us : List (Nat × Nat × Nat)}, (∀ q ∈ us, P q.2) → ∀ j, P (xlk us d j)
  | [], _, j => hd
  | q :: us, hu, j => by
    show P (bif Nat.beq q.1 j then q.2 else xlk us d j)
    cases Nat.beq q.1 j with
    | true => exact hu q List.mem_cons_self
    | false => exact xlk_all hd (fun q hq => hu q (List.mem_cons_of_mem _ hq)) j
def dchk (d : zD) (t n : Nat) : Bool := match d with
  | .inr (t', n') => Nat.beq t t' && Nat.beq n n'
  | .inl _ => false
theorem dchk_ok {d : zD} {t n : Nat} (h : dchk d t n = true) : d = .inr (t, n) := by
  unfold dchk at h
  split at h
  · simp only [Bool.and_eq_true] at h
    rw [Nat.eq_of_beq_eq_true h.1, Nat.eq_of_beq_eq_true h.2]
  · cases h
noncomputable def cchk (k : Nat) (e : xE) : Bool := match e with
  | .inl (t, n, d, us) => dchk (zds (zkn k)) t n && ((Nat.blt t 3 && (bxok (zta (ztb (zkn k))) d && us.all (fun q => bxok (zta (ztb (zkn k))) q.2))) || (Nat.beq t 3 && (((us.isEmpty && Nat.beq d.1 2147483648) || !Nat.beq (zkn k) 81) && !zvs (zkn k))))
  | .inr (.inl (t, n, us)) => dchk (zds (zkn k)) 4 n && (Nat.beq t 4 && (us.isEmpty && (zta (ztb (zkn k))).2.isEmpty))
  | .inr (.inr (ci, fs)) => match zds (zkn k) with
    | .inl (ci', fts) => Nat.beq ci ci' && fchk k 0 fs fts
    | .inr _ => false
theorem vis_self {k : Nat} (hv : zvs (zkn k) = true) : zkn k = k := by
  have e : zG0.1 (zkn k) = zkn k := zvs_kn hv
  exact (zInj0.2.2.1 k (zkn k) hv e.symm).symm
theorem cell_ok {sz b k : Nat} {tys : List (ClassId × FieldType)} {ws : va_W} {e : xE} {u : va_E} (hw : ws[k]? = some (sz + k, u)) (hc : cchk k e = true) (hE : xRE sz b tys e u) : zCell zG0 sz 119 tys (zIof ws) k u := by
  unfold cchk at hc
  split at hc
  · rename_i t n d us
    simp only [Bool.and_eq_true] at hc
    obtain ⟨hd, hc⟩ := hc
    have hd := dchk_ok hd
    obtain ⟨cA, ty, h1, h2, h3⟩ := hE
    unfold zCell
    rw [show zG0.2.1 (zG0.1 k) = .inr (t, n) from hd]
    refine ⟨cA, ty, h1, h2, ?_⟩
    rcases h3 with ⟨h3, f, rfl, h4⟩ | ⟨rfl, f, rfl, h4⟩
    · refine Or.inl ⟨h3, f, rfl, fun j hj => ?_⟩
      cases hv : zvs (zkn k) with
      | true =>
        have ek := vis_self hv
        have hlen := zvs_len hv hd hj
        refine Or.inl ⟨hv, ?_⟩
        show f j = zIof ws (zid (zkn k) j)
        rw [ek, zIof_a hlen hw]
      | false =>
        refine Or.inr ⟨hv, ?_⟩
        rcases Bool.or_eq_true _ _ |>.mp hc with hc | hc
        · simp only [Bool.and_eq_true] at hc
          exact bxok_ok (xlk_all (P := fun a => bxok (zta (ztb (zkn k))) a = true) hc.2.1 (fun q hq => List.all_eq_true.mp hc.2.2 q hq) j) (h4 j hj) j
        · simp only [Bool.and_eq_true] at hc
          have := Nat.eq_of_beq_eq_true hc.1
          omega
    · refine Or.inr (Or.inl ⟨rfl, f, rfl, fun j hj => ?_⟩)
      intro (hk : zkn k = 81)
      rcases Bool.or_eq_true _ _ |>.mp hc with hc | hc
      · simp only [Bool.and_eq_true] at hc
        have := xblt hc.1
        omega
      · simp only [Bool.and_eq_true] at hc
        rcases Bool.or_eq_true _ _ |>.mp hc.2.1 with he | he
        · simp only [Bool.and_eq_true] at he
          have he2 := Nat.eq_of_beq_eq_true he.2
          have he : us = [] := List.isEmpty_iff.mp he.1
          subst he
          rw [(h4 j hj).1 he2]
          exact Or.inl rfl
        · rw [hk] at he
          cases he
  · rename_i t n us
    simp only [Bool.and_eq_true] at hc
    obtain ⟨hd, ht, hu, htb⟩ := hc
    have hd := dchk_ok hd
    obtain ⟨cA, ty, h1, h2, h3, f, rfl, h4⟩ := hE
    subst h3
    have hu : us = [] := List.isEmpty_iff.mp hu
    subst hu
    have hf : ∀ j, j < n → f j = none := fun j hj => h4 j hj
    unfold zCell
    rw [show zG0.2.1 (zG0.1 k) = .inr (4, n) from hd]
    refine ⟨cA, ty, h1, h2, Or.inr (Or.inr ⟨rfl, f, rfl, (fun j a hj ha => by rw [hf j hj] at ha; cases ha), fun j hj => ?_⟩)⟩
    cases hv : zvs (zkn k) with
    | true =>
      have ek := vis_self hv
      have hlen := zvs_len hv hd hj
      refine Or.inl ⟨hv, ?_⟩
      show zflag (f j) = zIof ws (zid (zkn k) j)
      rw [ek, zIof_q hlen hw]
    | false =>
      refine Or.inr ⟨hv, ?_⟩
      intro q hq
      have : (zta (ztb (zkn k))).2 = [] := List.isEmpty_iff.mp htb
      have hq : q ∈ (zta (ztb (zkn k))).2 := hq
      rw [this] at hq
      cases hq
  · rename_i ci fs
    split at hc
    · rename_i ci' fts hd
      simp only [Bool.and_eq_true] at hc
      have hci := Nat.eq_of_beq_eq_true hc.1
      subst hci
      obtain ⟨vs, rfl, hvs⟩ := hE
      unfold zCell
      rw [show zG0.2.1 (zG0.1 k) = .inl (ci, fts) from hd]
      obtain ⟨l1, l2⟩ := fchk_ok hw 0 fs fts vs hc.2 hvs (fun i x hi => by rw [Nat.zero_add]; exact hi)
      exact ⟨vs, rfl, l1, l2⟩
    · cases hc
set_option maxRecDepth 100000 in
theorem all119 : (List.range 119).all (fun k => match xwg xw1 k with
  | some e => cchk k e
  | none => false) = true := by decide +kernel
theorem at119 {k : Nat} (hk : k < 119) : ∃ e, xwg xw1 k = some e ∧ cchk k e = true := by
  have h := List.all_eq_true.mp all119 k (List.mem_range.mpr hk)
  cases hx : xwg xw1 k with
  | none => rw [hx] at h; cases h
  | some e => rw [hx] at h; exact ⟨e, rfl, h⟩
theorem first_W {sz b : Nat} {tys : List (ClassId × FieldType)} {ws : va_W} (h : xRW sz b tys xw1 ws) : zW zG0 sz 119 tys (zIof ws) ws := by
  refine ⟨h.1, fun k hk => ?_, by decide, by decide⟩
  obtain ⟨e, he, hc⟩ := at119 hk
  obtain ⟨u, hu, hE⟩ := h.2.1 k e he
  exact ⟨u, hu, cell_ok hu hc hE⟩
section FI
variable {sz b : Nat} {tys : List (ClassId × FieldType)} {ws : va_W}
theorem fvalx {id k j ci v : Nat} {fs : List xV} (h : xRW sz b tys xw1 ws) (hid : id < 4096) (hz : zow id = (k, j)) (hx : xwg xw1 k = some (.inr (.inr (ci, fs)))) (hj : fs[j]? = some (.inl (v, v))) : zf (zIof ws) id = (v : Int) - 2147483648 := by
  obtain ⟨u, hu, vs, rfl, hvs⟩ := h.2.1 k _ hx
  obtain ⟨x, h1, y, rfl, h3⟩ := xRS_get hvs hj
  have := xRI_i h3
  show (zIof ws id).toInt = _
  rw [zIof_f hid hz hu h1]
  omega
theorem aval {kd n j : Nat} {d : Nat × Nat} {us : List (Nat × Nat × Nat)} (h : xRW sz b tys xw1 ws) (hx : xwg xw1 kd = some (.inl (0, n, d, us))) (hj : j < n) (hj2 : j < 4096) : xRI (xlk us d j) (zIof ws (zid kd j)) := by
  obtain ⟨u, hu, cA, ty, h1, h2, h3⟩ := h.2.1 kd _ hx
  rcases h3 with ⟨-, f, rfl, h4⟩ | ⟨h3, -⟩
  · rw [zIof_a hj2 hu]
    exact h4 j hj
  · cases h3
theorem aval0 {kd n j : Nat} (h : xRW sz b tys xw1 ws) (hx : xwg xw1 kd = some (.inl (0, n, (2147483648, 2147483648), []))) (hj : j < n) (hj2 : j < 4096) : (zIof ws (zid kd j)).toInt = 0 := xRI_0 (aval h hx hj hj2)
noncomputable def cUx (k : Nat) : List (Nat × Nat × Nat) := match xwg xw1 k with
  | some (.inl (_, _, _, us)) => us
  | _ => []
noncomputable def sck (s o : Nat) : Bool := (List.range 408).all (fun c => (Nat.blt 2147483649 (xlk (cUx s) (2147483648, 2147483648) c).1 || Nat.blt (xlk (cUx s) (2147483648, 2147483648) c).2 2147483649) || (Nat.ble 2147483648 (xlk (cUx o) (2147483648, 2147483648) c).1 && Nat.ble (xlk (cUx o) (2147483648, 2147483648) c).2 2147483656))
set_option maxRecDepth 100000 in
theorem sck1 : sck 10 11 = true := by decide +kernel
set_option maxRecDepth 100000 in
theorem sck2 : sck 21 22 = true := by decide +kernel
theorem sck_ok {s o : Nat} (h : xRW sz b tys xw1 ws) (hs : xwg xw1 s = some (.inl (0, 408, (2147483648, 2147483648), cUx s))) (ho : xwg xw1 o = some (.inl (0, 408, (2147483648, 2147483648), cUx o))) (hc : sck s o = true) : zstp (fun kd i => zIof ws (zid kd i)) s o := by
  intro c hc4 e
  have h1 := xRI_i (aval h hs hc4 (by omega))
  have h2 := xRI_i (aval h ho hc4 (by omega))
  have h3 := List.all_eq_true.mp hc c (List.mem_range.mpr hc4)
  have e : zIof ws (zid s c) = 1 := e
  rw [e] at h1
  have e1 : (1 : Int32).toInt = 1 := by decide
  rw [e1] at h1
  show 0 ≤ (zIof ws (zid o c)).toInt ∧ (zIof ws (zid o c)).toInt ≤ 8
  rcases Bool.or_eq_true _ _ |>.mp h3 with h3 | h3
  · exfalso
    rcases Bool.or_eq_true _ _ |>.mp h3 with h3 | h3
    · have := xblt h3
      omega
    · have := xblt h3
      omega
  · simp only [Bool.and_eq_true] at h3
    have q1 := xble h3.1
    have q2 := xble h3.2
    omega
theorem zvs_lt : ∀ (k : Nat) (u : Unit), zvsT k = some u → k < 119 := (xB_n (xB_n (xB_n (xB_n (xB_l (by decide)) (xB_n (xB_l (by decide)) (xB_l (by decide)))) (xB_n (xB_l (by decide)) (xB_n (xB_l (by decide)) (xB_l (by decide))))) (xB_n (xB_n (xB_l (by decide)) (xB_n (xB_l (by decide)) (xB_l (by decide)))) (xB_n (xB_l (by decide)) (xB_n (xB_l (by decide)) (xB_l (by decide)))))) (xB_n (xB_n (xB_n (xB_l (by decide)) (xB_n (xB_l (by decide)) (xB_l (by decide)))) (xB_n (xB_l (by decide)) (xB_n (xB_l (by decide)) (xB_l (by decide))))) (xB_n (xB_n (xB_l (by decide)) (xB_n (xB_l (by decide)) (xB_l (by decide)))) (xB_n (xB_n (xB_l (by decide)) (xB_l (by decide))) (xB_n (xB_l (by decide)) (xB_l (by decide)))))))
theorem first_inv (h : xRW sz b tys xw1 ws) : zInv (zIof ws) := by
  refine ⟨fun kd i t len hv hd hi => ?_, sck_ok h rfl rfl sck1, sck_ok h rfl rfl sck2, fun t ht => ?_, ?_⟩
  · show eOK _ i (zIof ws (zid kd i)).toInt
    have hlt : kd < 119 := by
      unfold zvs at hv
      split at hv
      · rename_i u hu
        exact zvs_lt kd u hu
      · cases hv
    have ekd : zkn kd = kd := zvs_kn hv
    have hi2 := zvs_len hv hd hi
    obtain ⟨e, he, hc⟩ := at119 hlt
    obtain ⟨u, hu, hE⟩ := h.2.1 kd e he
    unfold cchk at hc
    rw [ekd] at hc
    split at hc
    · rename_i t' n' d us
      simp only [Bool.and_eq_true] at hc
      obtain ⟨hd', hc⟩ := hc
      have hd' := dchk_ok hd'
      cases hd'.symm.trans hd
      rcases Bool.or_eq_true _ _ |>.mp hc with hc | hc
      · simp only [Bool.and_eq_true] at hc
        obtain ⟨cA, ty, h1, h2, h3⟩ := hE
        rcases h3 with ⟨-, f, rfl, h4⟩ | ⟨h3, -⟩
        · rw [zIof_a hi2 hu]
          exact bxok_ok (xlk_all (P := fun a => bxok (zta (ztb kd)) a = true) hc.2.1 (fun q hq => List.all_eq_true.mp hc.2.2 q hq) i) (h4 i hi) i
        · have := xblt hc.1
          omega
      · simp only [Bool.and_eq_true] at hc
        rw [hv] at hc
        exact absurd hc.2.2 (by decide)
    · rename_i t' n' us
      simp only [Bool.and_eq_true] at hc
      intro q hq
      have htb : (zta (ztb kd)).2 = [] := List.isEmpty_iff.mp hc.2.2.2
      have hq : q ∈ (zta (ztb kd)).2 := hq
      rw [htb] at hq
      cases hq
    · rw [hd] at hc
      cases hc
  · have e25 := aval0 h (kd := 25) rfl ht (by omega)
    have e26 := aval0 h (kd := 26) rfl ht (by omega)
    show (zIof ws (zid 25 t)).toInt + (zIof ws (zid 26 t)).toInt ≤ 2000 ∧ (zIof ws (zid 24 t) = 2 → (zIof ws (zid 26 t)).toInt ≤ 8)
    exact ⟨by omega, fun _ => by omega⟩
  · have e22 : (zIof ws 22).toInt = 0 := fvalx (id := 22) (k := 75) (j := 2) h (by decide) rfl rfl rfl
    refine ⟨by omega, fun k hk => ?_⟩
    have ei : 4 * (zIof ws 22).toInt.toNat + k = k := by rw [e22]; show 4 * 0 + k = k; omega
    have e94 := aval0 h (kd := 94) (j := k) rfl (by omega) (by omega)
    have e95 := aval0 h (kd := 95) (j := k) rfl (by omega) (by omega)
    show 0 ≤ (zIof ws (zid 94 (4 * (zIof ws 22).toInt.toNat + k))).toInt ∧ ∀ b' : Nat, (zIof ws (zid 94 (4 * (zIof ws 22).toInt.toNat + k))).toInt ≤ (b' : Int) → (b' : Int) < (zIof ws (zid 95 (4 * (zIof ws 22).toInt.toNat + k))).toInt → _
    rw [ei, e94, e95]
    exact ⟨Int.le_refl _, fun b' _ h2 => by omega⟩
theorem first_B (h : xRW sz b tys xw1 ws) : lwB (zIof ws) ∧ zf (zIof ws) 1 = zf (zIof ws) 10 := by
  have f1 := fvalx (id := 1) (k := 0) (j := 6) h (by decide) rfl rfl rfl
  have f2 := fvalx (id := 2) (k := 12) (j := 3) h (by decide) rfl rfl rfl
  have f3 := fvalx (id := 3) (k := 12) (j := 9) h (by decide) rfl rfl rfl
  have f4 := fvalx (id := 4) (k := 13) (j := 14) h (by decide) rfl rfl rfl
  have f5 := fvalx (id := 5) (k := 13) (j := 0) h (by decide) rfl rfl rfl
  have f6 := fvalx (id := 6) (k := 13) (j := 1) h (by decide) rfl rfl rfl
  have f7 := fvalx (id := 7) (k := 44) (j := 3) h (by decide) rfl rfl rfl
  have f8 := fvalx (id := 8) (k := 40) (j := 1) h (by decide) rfl rfl rfl
  have f9 := fvalx (id := 9) (k := 40) (j := 2) h (by decide) rfl rfl rfl
  have f10 := fvalx (id := 10) (k := 75) (j := 12) h (by decide) rfl rfl rfl
  have f20 := fvalx (id := 20) (k := 75) (j := 10) h (by decide) rfl rfl rfl
  have f21 := fvalx (id := 21) (k := 75) (j := 64) h (by decide) rfl rfl rfl
  have f22 := fvalx (id := 22) (k := 75) (j := 2) h (by decide) rfl rfl rfl
  refine ⟨⟨first_inv h, fun q hq => ?_⟩, by omega⟩
  simp only [TBL, List.mem_cons, List.not_mem_nil, or_false] at hq
  rcases hq with rfl | rfl | rfl | rfl | rfl | rfl | rfl | rfl | rfl | rfl | rfl | rfl | rfl
  · exact ⟨by show (0 : Int) ≤ zf (zIof ws) 1; omega, by show zf (zIof ws) 1 ≤ (2000 : Int); omega⟩
  · exact ⟨by show (0 : Int) ≤ zf (zIof ws) 2; omega, by show zf (zIof ws) 2 ≤ (400 : Int); omega⟩
  · exact ⟨by show (0 : Int) ≤ zf (zIof ws) 3; omega, by show zf (zIof ws) 3 ≤ (12 : Int); omega⟩
  · exact ⟨by show (0 : Int) ≤ zf (zIof ws) 4; omega, by show zf (zIof ws) 4 ≤ (408 : Int); omega⟩
  · exact ⟨by show (0 : Int) ≤ zf (zIof ws) 5; omega, by show zf (zIof ws) 5 ≤ (5 : Int); omega⟩
  · exact ⟨by show (0 : Int) ≤ zf (zIof ws) 6; omega, by show zf (zIof ws) 6 ≤ (7 : Int); omega⟩
  · exact ⟨by show (0 : Int) ≤ zf (zIof ws) 7; omega, by show zf (zIof ws) 7 ≤ (20 : Int); omega⟩
  · exact ⟨by show (0 : Int) ≤ zf (zIof ws) 8; omega, by show zf (zIof ws) 8 ≤ (29 : Int); omega⟩
  · exact ⟨by show (0 : Int) ≤ zf (zIof ws) 9; omega, by show zf (zIof ws) 9 ≤ (30 : Int); omega⟩
  · exact ⟨by show (0 : Int) ≤ zf (zIof ws) 10; omega, by show zf (zIof ws) 10 ≤ (2000 : Int); omega⟩
  · exact ⟨by show (0 : Int) ≤ zf (zIof ws) 20; omega, by show zf (zIof ws) 20 ≤ (30 : Int); omega⟩
  · exact ⟨by show (0 : Int) ≤ zf (zIof ws) 21; omega, by show zf (zIof ws) 21 ≤ (20 : Int); omega⟩
  · exact ⟨by show (0 : Int) ≤ zf (zIof ws) 22; omega, by show zf (zIof ws) 22 ≤ (1 : Int); omega⟩
end FI
/-! the exact memory behind the constructors -/
def zM0 (sz : Nat) (ws : va_W) : xM := (fun k j => match ws[k]? with
    | some (_, .inr (_, vs)) => (match vs[j]? with
      | some (.int v) => v
      | _ => 0)
    | some (_, .inl (_, n, .inl f)) => if j < n then f j else 0
    | _ => 0,
  fun k j => match ws[k]? with
    | some (_, .inl (_, _, .inr (.inl f))) => f j
    | _ => 0,
  fun k j => match ws[k]? with
    | some (_, .inr (_, vs)) => (match vs[j]? with
      | some (.ref a) => some (a - sz)
      | _ => none)
    | some (_, .inl (_, n, .inr (.inr (.inr (.inr f))))) => if j < n then (f j).map (fun a => a - sz) else none
    | _ => none,
  ws.length)
theorem zM0_X (sz : Nat) (ws : va_W) : zXs sz (zM0 sz ws) ws := by
  refine ⟨rfl, fun k u hk => ?_⟩
  match u, hk with
  | .inr (ci, vs), hk =>
    intro j x hx
    refine ⟨fun v hv => ?_, fun r hr => ?_⟩
    · subst hv
      have e : (zM0 sz ws).1 k j = v := by simp only [zM0, hk, hx]
      exact e.symm
    · subst hr
      have e : (zM0 sz ws).2.2.1 k j = some (sz + r - sz) := by simp only [zM0, hk, hx]
      rw [e, Nat.add_sub_cancel_left]
  | .inl (cA, n, .inl f), hk =>
    intro j hj
    have e : (zM0 sz ws).1 k j = f j := by simp only [zM0, hk, if_pos hj]
    exact e.symm
  | .inl (cA, n, .inr (.inl f)), hk =>
    intro j hj
    have e : (zM0 sz ws).2.1 k j = f j := by simp only [zM0, hk]
    exact e.symm
  | .inl (cA, n, .inr (.inr (.inl f))), hk => exact trivial
  | .inl (cA, n, .inr (.inr (.inr (.inl f)))), hk => exact trivial
  | .inl (cA, n, .inr (.inr (.inr (.inr f)))), hk =>
    intro j hj
    have e : (zM0 sz ws).2.2.1 k j = (f j).map (fun a => a - sz) := by simp only [zM0, hk, if_pos hj]
    refine ⟨fun h => by rw [e, h]; rfl, fun r h => ?_⟩
    rw [e, h]
    show some (sz + r - sz) = some r
    rw [Nat.add_sub_cancel_left]
section FR
variable {sz b : Nat} {tys : List (ClassId × FieldType)} {ws : va_W}
theorem mfld {k j ci v : Nat} {fs : List xV} (h : xRW sz b tys xw1 ws) (hx : xwg xw1 k = some (.inr (.inr (ci, fs)))) (hj : fs[j]? = some (.inl (v, v))) : ((zM0 sz ws).1 k j).toInt = (v : Int) - 2147483648 := by
  obtain ⟨u, hu, vs, rfl, hvs⟩ := h.2.1 k _ hx
  obtain ⟨x, h1, y, rfl, h3⟩ := xRS_get hvs hj
  have := xRI_i h3
  have e : (zM0 sz ws).1 k j = y := by simp only [zM0, hu, h1]
  rw [e]
  omega
theorem marr0 {k t n : Nat} (ht : t < 3) (h : xRW sz b tys xw1 ws) (hx : xwg xw1 k = some (.inl (t, n, (2147483648, 2147483648), []))) (j : Nat) : (zM0 sz ws).1 k j = 0 := by
  obtain ⟨u, hu, cA, ty, h1, h2, h3⟩ := h.2.1 k _ hx
  rcases h3 with ⟨-, f, rfl, h4⟩ | ⟨h3, -⟩
  · by_cases hj : j < n
    · have e : (zM0 sz ws).1 k j = f j := by simp only [zM0, hu, if_pos hj]
      rw [e]
      have h5 : (f j).toInt = 0 := xRI_0 (h4 j hj)
      exact Int32.toInt_inj.mp (h5.trans (by decide))
    · simp only [zM0, hu, if_neg hj]
  · omega
set_option maxRecDepth 100000 in
theorem keys21 : ∀ j, j < 21 → (xlk (cUx 82) (2147483648, 2147483648) j).1 = 1 ∧ 1 ≤ (xlk (cUx 82) (2147483648, 2147483648) j).2 ∧ wKey j = ((xlk (cUx 82) (2147483648, 2147483648) j).2 : Int) - 1 := by decide +kernel
theorem first_T (h : xRW sz b tys xw1 ws) : lwT (zM0 sz ws) := by
  have e6 := mfld (k := 0) (j := 6) h rfl rfl
  have e12 := mfld (k := 75) (j := 12) h rfl rfl
  have a1 := marr0 (k := 1) (t := 1) (by decide) h rfl
  have a76 := marr0 (k := 76) (t := 1) (by decide) h rfl
  have z0 : (0 : Int32).toInt = 0 := by decide
  refine ⟨Nat.le_of_eq h.1.symm, by omega, by omega, fun j => (a76 j).trans (a1 j).symm, fun j => by rw [a1 j, z0]; omega, fun j hj => ?_⟩
  obtain ⟨k1, k2, k3⟩ := keys21 j hj
  obtain ⟨u, hu, cA, ty, h1, h2, h3⟩ := h.2.1 82 (.inl (3, 21, (2147483648, 2147483648), cUx 82)) rfl
  rcases h3 with ⟨h3, -⟩ | ⟨-, f, rfl, h4⟩
  · omega
  · have e : (zM0 sz ws).2.1 82 j = f j := by simp only [zM0, hu]
    rw [e, k3]
    have h5 := (h4 j hj).2 k1
    obtain ⟨q, hq⟩ : ∃ q, (xlk (cUx 82) (2147483648, 2147483648) j).2 = q + 1 := ⟨(xlk (cUx 82) (2147483648, 2147483648) j).2 - 1, by omega⟩
    rw [hq] at h5 ⊢
    have h6 : (f j).toInt = (q : Int) := h5
    omega
theorem mref {k j ci r : Nat} {fs : List xV} (h : xRW sz b tys xw1 ws) (hx : xwg xw1 k = some (.inr (.inr (ci, fs)))) (hj : fs[j]? = some (.inr (.inl (some r)))) : (zM0 sz ws).2.2.1 k j = some r := by
  obtain ⟨u, hu, vs, rfl, hvs⟩ := h.2.1 k _ hx
  obtain ⟨x, h1, h3⟩ := xRS_get hvs hj
  have h4 : x = .ref (sz + r) := h3
  subst h4
  have e : (zM0 sz ws).2.2.1 k j = some (sz + r - sz) := by simp only [zM0, hu, h1]
  rw [e, Nat.add_sub_cancel_left]
theorem first_OK (h : xRW sz b tys xw1 ws) : hOK (zM0 sz ws) := by
  refine ⟨Nat.le_of_eq h.1.symm, fun k hk j hj => ?_⟩
  have hk2 : k = 28 ∨ k = 34 ∨ k = 60 := by
    unfold hTw at hk
    simp at hk
    omega
  rcases hk2 with rfl | rfl | rfl
  · match j, hj with
    | 0, _ => exact mref h rfl rfl
    | 1, _ => exact mref h rfl rfl
    | 2, _ => exact mref h rfl rfl
    | 3, _ => exact mref h rfl rfl
    | 4, _ => exact mref h rfl rfl
  · match j, hj with
    | 0, _ => exact mref h rfl rfl
    | 1, _ => exact mref h rfl rfl
    | 2, _ => exact mref h rfl rfl
    | 3, _ => exact mref h rfl rfl
    | 4, _ => exact mref h rfl rfl
  · match j, hj with
    | 0, _ => exact mref h rfl rfl
    | 1, _ => exact mref h rfl rfl
    | 2, _ => exact mref h rfl rfl
    | 3, _ => exact mref h rfl rfl
    | 4, _ => exact mref h rfl rfl
theorem marrv {k t n v d1 d2 j : Nat} {us : List (Nat × Nat × Nat)} (ht : t < 3) (h : xRW sz b tys xw1 ws) (hx : xwg xw1 k = some (.inl (t, n, (d1, d2), us))) (hj : j < n) (e : xlk us (d1, d2) j = (v, v)) : ((zM0 sz ws).1 k j).toInt = (v : Int) - 2147483648 := by
  obtain ⟨u, hu, cA, ty, h1, h2, h3⟩ := h.2.1 k _ hx
  rcases h3 with ⟨-, f, rfl, h4⟩ | ⟨h3, -⟩
  · have e1 : (zM0 sz ws).1 k j = f j := by simp only [zM0, hu, if_pos hj]
    rw [e1]
    have h5 := h4 j hj
    rw [e] at h5
    have h6 := xRI_i h5
    have h7 : ((v, v) : Nat × Nat).1 = v := rfl
    have h8 : ((v, v) : Nat × Nat).2 = v := rfl
    omega
  · omega
theorem mnull {k n j : Nat} (h : xRW sz b tys xw1 ws) (hx : xwg xw1 k = some (.inr (.inl (4, n, [])))) : (zM0 sz ws).2.2.1 k j = none := by
  obtain ⟨u, hu, cA, ty, h1, h2, -, f, rfl, h4⟩ := h.2.1 k _ hx
  by_cases hj : j < n
  · have e : (zM0 sz ws).2.2.1 k j = (f j).map (fun a => a - sz) := by simp only [zM0, hu, if_pos hj]
    rw [e, h4 j hj]
    rfl
  · simp only [zM0, hu, if_neg hj]
theorem kOkL_D {k : Nat} (hk : k < 4) : kOkL (kDef k) := by
  rcases (by omega : k = 0 ∨ k = 1 ∨ k = 2 ∨ k = 3) with rfl | rfl | rfl | rfl
  · exact ⟨fun X hX => absurd hX List.not_mem_nil, eOk_mono (by decide) (eOk_int (v := 1))⟩
  · exact ⟨fun X hX => absurd hX List.not_mem_nil, eOk_mono (by decide) (eOk_int (v := 0))⟩
  · exact ⟨fun X hX => absurd hX List.not_mem_nil, eOk_mono (by decide) (eOk_int (v := 1))⟩
  · exact ⟨fun X hX => absurd hX List.not_mem_nil, eOk_mono (by decide) (eOk_var (v := 0))⟩
theorem first_lc (h : xRW sz b tys xw1 ws) : lC 2 (fun _ => none) (zM0 sz ws) := by
  have f14 := mfld (k := 2) (j := 14) h rfl rfl
  refine ⟨by omega, fun k hk => ⟨kOkL_D hk, ?_⟩⟩
  rcases (by omega : k = 0 ∨ k = 1 ∨ k = 2 ∨ k = 3) with rfl | rfl | rfl | rfl
  · refine ⟨0, (marrv (t := 0) (k := 9) (j := 0) (v := 2147483648) (by decide) h rfl (by decide) rfl).trans (by decide), by rw [f14]; decide, fun i hi => ?_⟩
    have hi : i < 2 := hi
    rcases (by omega : i = 0 ∨ i = 1) with rfl | rfl
    · exact ⟨(marrv (t := 0) (k := 10) (j := 0) (v := 2147483648) (by decide) h rfl (by decide) rfl).trans (by decide), (marrv (t := 0) (k := 11) (j := 0) (v := 2147483649) (by decide) h rfl (by decide) rfl).trans (by decide)⟩
    · exact ⟨(marrv (t := 0) (k := 10) (j := 1) (v := 2147483655) (by decide) h rfl (by decide) rfl).trans (by decide), (marrv (t := 0) (k := 11) (j := 1) (v := 2147483648) (by decide) h rfl (by decide) rfl).trans (by decide)⟩
  · refine ⟨2, (marrv (t := 0) (k := 9) (j := 1) (v := 2147483650) (by decide) h rfl (by decide) rfl).trans (by decide), by rw [f14]; decide, fun i hi => ?_⟩
    have hi : i < 2 := hi
    rcases (by omega : i = 0 ∨ i = 1) with rfl | rfl
    · exact ⟨(marrv (t := 0) (k := 10) (j := 2) (v := 2147483648) (by decide) h rfl (by decide) rfl).trans (by decide), (marrv (t := 0) (k := 11) (j := 2) (v := 2147483648) (by decide) h rfl (by decide) rfl).trans (by decide)⟩
    · exact ⟨(marrv (t := 0) (k := 10) (j := 3) (v := 2147483655) (by decide) h rfl (by decide) rfl).trans (by decide), (marrv (t := 0) (k := 11) (j := 3) (v := 2147483648) (by decide) h rfl (by decide) rfl).trans (by decide)⟩
  · refine ⟨4, (marrv (t := 0) (k := 9) (j := 2) (v := 2147483652) (by decide) h rfl (by decide) rfl).trans (by decide), by rw [f14]; decide, fun i hi => ?_⟩
    have hi : i < 2 := hi
    rcases (by omega : i = 0 ∨ i = 1) with rfl | rfl
    · exact ⟨(marrv (t := 0) (k := 10) (j := 4) (v := 2147483648) (by decide) h rfl (by decide) rfl).trans (by decide), (marrv (t := 0) (k := 11) (j := 4) (v := 2147483649) (by decide) h rfl (by decide) rfl).trans (by decide)⟩
    · exact ⟨(marrv (t := 0) (k := 10) (j := 5) (v := 2147483655) (by decide) h rfl (by decide) rfl).trans (by decide), (marrv (t := 0) (k := 11) (j := 5) (v := 2147483648) (by decide) h rfl (by decide) rfl).trans (by decide)⟩
  · refine ⟨6, (marrv (t := 0) (k := 9) (j := 3) (v := 2147483654) (by decide) h rfl (by decide) rfl).trans (by decide), by rw [f14]; decide, fun i hi => ?_⟩
    have hi : i < 2 := hi
    rcases (by omega : i = 0 ∨ i = 1) with rfl | rfl
    · exact ⟨(marrv (t := 0) (k := 10) (j := 6) (v := 2147483649) (by decide) h rfl (by decide) rfl).trans (by decide), (marrv (t := 0) (k := 11) (j := 6) (v := 2147483648) (by decide) h rfl (by decide) rfl).trans (by decide)⟩
    · exact ⟨(marrv (t := 0) (k := 10) (j := 7) (v := 2147483655) (by decide) h rfl (by decide) rfl).trans (by decide), (marrv (t := 0) (k := 11) (j := 7) (v := 2147483648) (by decide) h rfl (by decide) rfl).trans (by decide)⟩
theorem m91 (h : xRW sz b tys xw1 ws) : ((zM0 sz ws).1 91 0).toInt = 20 := by
  obtain ⟨u, hu, cA, ty, h1, h2, h3⟩ := h.2.1 91 (.inl (0, 2, (2147483648, 2147483648), [(0, 2147483668, 2147483668)])) rfl
  rcases h3 with ⟨-, f, rfl, h4⟩ | ⟨h3, -⟩
  · have e : (zM0 sz ws).1 91 0 = f 0 := by simp only [zM0, hu, if_pos (show 0 < 2 by decide)]
    rw [e]
    have h5 : xRI (2147483668, 2147483668) (f 0) := h4 0 (by decide)
    have h6 := xRI_i h5
    have h7 : ((2147483668, 2147483668) : Nat × Nat).1 = 2147483668 := rfl
    have h8 : ((2147483668, 2147483668) : Nat × Nat).2 = 2147483668 := rfl
    omega
  · omega
theorem kV_0 (v : Nat) : kV kS0 v = ([], 0, 0) := by
  unfold kV kS0
  rfl
theorem first_sc (h : xRW sz b tys xw1 ws) : sC 2 kS0 (zM0 sz ws) ∧ sM 0 kS0 (zM0 sz ws) := by
  have f0 := mfld (k := 2) (j := 0) h rfl rfl
  have f1 := mfld (k := 2) (j := 1) h rfl rfl
  have f2 := mfld (k := 2) (j := 2) h rfl rfl
  have f3 := mfld (k := 2) (j := 3) h rfl rfl
  have f4 := mfld (k := 2) (j := 4) h rfl rfl
  have f5 := mfld (k := 75) (j := 2) h rfl rfl
  have g3 := marr0 (k := 3) (t := 0) (by decide) h rfl
  have g8 := marr0 (k := 8) (t := 0) (by decide) h rfl
  have g84 := marr0 (k := 84) (t := 0) (by decide) h rfl
  have g86 := marr0 (k := 86) (t := 0) (by decide) h rfl
  have g92 := marr0 (k := 92) (t := 0) (by decide) h rfl
  have g93 := marr0 (k := 93) (t := 0) (by decide) h rfl
  have g91 := m91 h
  have z0 : (0 : Int32).toInt = 0 := by decide
  have n0 : (kS0.1.length : Int) = 0 := rfl
  have n1 : (kS0.2.1.length : Int) = 0 := rfl
  have n2 : kS0.2.2.1.1 = 20 := rfl
  have n3 : kS0.2.2.1.2.1 = 0 := rfl
  have n4 : kS0.2.2.1.2.2 = 0 := rfl
  refine ⟨⟨⟨by rw [n0, f0]; decide, by rw [n1, f1]; decide, by rw [n2, f4]; decide, by rw [n3, f2]; decide, by rw [n4, f3]; decide⟩, fun x y hx hy => ?_, fun v hv => absurd hv (Nat.not_lt_zero _), fun v y hv hy => ?_⟩, ⟨by rw [n0, g84, z0], by rw [n1, g86, z0], by rw [n2, g91], by rw [n3, g92, z0], by rw [n4, g93, z0]⟩, fun x y hx _ => absurd hx (Nat.not_lt_zero _), fun v hv => absurd hv (Nat.not_lt_zero _)⟩
  · rw [g3, z0]
    rfl
  · rw [g8, z0, kV_0]
    rfl
theorem first_z (h : xRW sz b tys xw1 ws) : zT9 kS0 0 0 (fun _ _ => 0) (fun _ => none) (zM0 sz ws) := by
  obtain ⟨hc, hm⟩ := first_sc h
  have oD : ∀ k, oLw (lwOf kS0.2.2.2 k) := fun k => kDef_oLw k
  have z0 : (0 : Int32).toInt = 0 := by decide
  have f75 := mfld (k := 75) (j := 2) h rfl rfl
  have f10 := mfld (k := 75) (j := 10) h rfl rfl
  have f41 := mfld (k := 40) (j := 1) h rfl rfl
  have f42 := mfld (k := 40) (j := 2) h rfl rfl
  have t5 := mfld (k := 28) (j := 5) h rfl rfl
  have t6 := mfld (k := 28) (j := 6) h rfl rfl
  have t7 := mfld (k := 28) (j := 7) h rfl rfl
  have t8 := mfld (k := 28) (j := 8) h rfl rfl
  have t9 := mfld (k := 28) (j := 9) h rfl rfl
  have zf : ∀ {x : Int32}, x.toInt = ((2147483648 : Nat) : Int) - 2147483648 → x = 0 := fun e => Int32.toInt_inj.mp (e.trans (by decide))
  have a43 := marr0 (k := 43) (t := 2) (by decide) h rfl
  have a117 := marr0 (k := 117) (t := 2) (by decide) h rfl
  have a29 := marr0 (k := 29) (t := 0) (by decide) h rfl
  have a3 := marr0 (k := 3) (t := 0) (by decide) h rfl
  have a30 := marr0 (k := 30) (t := 0) (by decide) h rfl
  have a31 := marr0 (k := 31) (t := 0) (by decide) h rfl
  have a32 := marr0 (k := 32) (t := 0) (by decide) h rfl
  have a107 := marr0 (k := 107) (t := 0) (by decide) h rfl
  have a85 := marr0 (k := 85) (t := 0) (by decide) h rfl
  have a94 := marr0 (k := 94) (t := 0) (by decide) h rfl
  have a95 := marr0 (k := 95) (t := 0) (by decide) h rfl
  refine zT_new (first_OK h) (fun p hp j hj => ?_) ⟨?_, fun A i c hA e => ?_, fun A i B l c d hA hB e1 e2 => ?_⟩ ⟨kWf_0, oD, hc, first_lc h⟩ ⟨⟨kWf_0, oD, fun k hk => kOkL_D hk⟩, ⟨by decide, by rw [f75]; decide⟩, hm, fun k hk => ?_⟩ (by omega) (by omega) (by omega) (fun j _ => a43 j) (fun j _ => a117 j) (fun j _ => ⟨(a29 j).trans (a3 j).symm, a30 j, a31 j⟩) (fun j _ => a32 j) (fun j p q => ?_) (fun c _ => ?_) (fun c _ _ => a107 c)
  · rcases hp with rfl | rfl
    · rcases (by omega : j = 2 ∨ j = 3 ∨ j = 4 ∨ j = 9 ∨ j = 10 ∨ j = 11) with rfl | rfl | rfl | rfl | rfl | rfl
      · exact mref h rfl rfl
      · exact mref h rfl rfl
      · exact mref h rfl rfl
      · exact mref h rfl rfl
      · exact mref h rfl rfl
      · exact mref h rfl rfl
    · rcases (by omega : j = 2 ∨ j = 3 ∨ j = 4 ∨ j = 9 ∨ j = 10 ∨ j = 11) with rfl | rfl | rfl | rfl | rfl | rfl
      · exact mref h rfl rfl
      · exact mref h rfl rfl
      · exact mref h rfl rfl
      · exact mref h rfl rfl
      · exact mref h rfl rfl
      · exact mref h rfl rfl
  · have h9 := h.1
    show ws.length % 6 = 5
    rw [h9]
    rfl
  · have e9 : (zM0 sz ws).2.2.1 A i = none := by
      unfold hsK at hA
      rcases hA with ⟨rfl, -⟩ | rfl
      · exact mnull h rfl
      · exact mnull h rfl
    rw [e9] at e
    cases e
  · have e9 : (zM0 sz ws).2.2.1 A i = none := by
      unfold hsK at hA
      rcases hA with ⟨rfl, -⟩ | rfl
      · exact mnull h rfl
      · exact mnull h rfl
    rw [e9] at e1
    cases e1
  · show ((zM0 sz ws).1 94 (4 * 0 + k)).toInt = ((zM0 sz ws).1 95 (4 * 0 + k)).toInt
    rw [a94, a95]
  · rcases (by omega : j = 5 ∨ j = 6 ∨ j = 7 ∨ j = 8 ∨ j = 9) with rfl | rfl | rfl | rfl | rfl
    · exact zf t5
    · exact zf t6
    · exact zf t7
    · exact zf t8
    · exact zf t9
  · rw [a107, a85]
    by_cases z : (c : Int) < 8 * (kS0.1.length : Int)
    · rw [if_pos z]
    · rw [if_neg z]
theorem first_R (h : xRW sz b tys xw1 ws) : lwR (zM0 sz ws) := ⟨first_T h, kS0, 0, 0, _, _, first_z h⟩
end FR
