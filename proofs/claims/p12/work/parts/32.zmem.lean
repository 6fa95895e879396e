section ZS2
variable {g : zG} {PX : xPX} {bd : Nat → Nat × Nat} {pre : zPre} {post : zPost} {d : Nat × Nat × Nat} {cc : ByteArray} {own : String} {pc : Nat}
theorem zs_if {op : Nat} {t n : Nat} (hrow : ∀ (p : Program) (l : Launch) (e : Env) (R : Room) (s : State) (m : MethodId) (args : Array Value) (below : List Frame) (meth : Method) (c : Code) (H : Heap) (locs : List Loc) (cells slots : Nat) (Q : State → Prop) (ls : Array Slot) (rest : List Value) (x : Int32), p.tables.exec = Jvm.exec → c.code = cc → (xcmpP op x 0 → W p l e R s m args below meth c H locs cells slots Q (F0 m t ls rest)) → (¬ xcmpP op x 0 → W p l e R s m args below meth c H locs cells slots Q (F0 m n ls rest)) → W p l e R s m args below meth c H locs cells slots Q (F0 m pc ls (.int x :: rest))) (hxs : ∀ (L : zL) (S : List zV) (μ : xM) (x : Int32), (xcmpP op x 0 → xStep (zk g) (Ex (zk g)) cc own (pc, L, .inl x :: S, μ) (t, L, S, μ)) ∧ (¬ xcmpP op x 0 → xStep (zk g) (Ex (zk g)) cc own (pc, L, .inl x :: S, μ) (n, L, S, μ))) :
    zSound g PX bd pre post d cc own pc (z_if op t n) := by
  intro K L S I B h hc p l e R s m args below meth c Q nL D tys sz sc TT hT C hf hlo kk N ls st H locs μ hM hL hS hB1 hB2 hτ
  unfold z_if at h
  split at h
  · obtain ⟨u, st', rfl, rfl, hS⟩ := hS
    exact hrow _ _ _ _ _ _ _ _ _ _ _ _ _ _ _ _ _ _ C.1 C.2.1 (fun q => kk _ _ _ _ _ (h.1 q) N _ _ _ _ _ hM hL hS hB1 hB2 (hT _ _ hτ ((hxs _ _ _ _).1 q))) (fun q => kk _ _ _ _ _ (h.2 q) N _ _ _ _ _ hM hL hS hB1 hB2 (hT _ _ hτ ((hxs _ _ _ _).2 q)))
  · exact h.elim
theorem zs_icmp {op : Nat} {t n : Nat} (hrow : ∀ (p : Program) (l : Launch) (e : Env) (R : Room) (s : State) (m : MethodId) (args : Array Value) (below : List Frame) (meth : Method) (c : Code) (H : Heap) (locs : List Loc) (cells slots : Nat) (Q : State → Prop) (ls : Array Slot) (rest : List Value) (x y : Int32), p.tables.exec = Jvm.exec → c.code = cc → (xcmpP op x y → W p l e R s m args below meth c H locs cells slots Q (F0 m t ls rest)) → (¬ xcmpP op x y → W p l e R s m args below meth c H locs cells slots Q (F0 m n ls rest)) → W p l e R s m args below meth c H locs cells slots Q (F0 m pc ls (.int y :: .int x :: rest))) (hxs : ∀ (L : zL) (S : List zV) (μ : xM) (x y : Int32), (xcmpP op x y → xStep (zk g) (Ex (zk g)) cc own (pc, L, .inl y :: .inl x :: S, μ) (t, L, S, μ)) ∧ (¬ xcmpP op x y → xStep (zk g) (Ex (zk g)) cc own (pc, L, .inl y :: .inl x :: S, μ) (n, L, S, μ))) :
    zSound g PX bd pre post d cc own pc (z_icmp op t n) := by
  intro K L S I B h hc p l e R s m args below meth c Q nL D tys sz sc TT hT C hf hlo kk N ls st H locs μ hM hL hS hB1 hB2 hτ
  unfold z_icmp at h
  split at h
  · obtain ⟨u, st', rfl, rfl, u2, st2, rfl, rfl, hS⟩ := hS
    exact hrow _ _ _ _ _ _ _ _ _ _ _ _ _ _ _ _ _ _ _ C.1 C.2.1 (fun q => kk _ _ _ _ _ (h.1 q) N _ _ _ _ _ hM hL hS hB1 hB2 (hT _ _ hτ ((hxs _ _ _ _ _).1 q))) (fun q => kk _ _ _ _ _ (h.2 q) N _ _ _ _ _ hM hL hS hB1 hB2 (hT _ _ hτ ((hxs _ _ _ _ _).2 q)))
  · exact h.elim
theorem zs_ifeq {off : Int} {t : Nat} (hd : decode cc pc = .ok (.ifCond .eq off, 3)) (ht : (pc : Int) + off = (t : Int)) : zSound g PX bd pre post d cc own pc (z_if 0 t (pc + 3)) := zs_if (fun _ _ _ _ _ _ _ _ _ _ _ _ _ _ _ _ _ _ hx hb a b => lv_if_eq hx hb hd ht a b) (fun _ _ _ _ => ⟨fun q => est hd ⟨_, _, _, rfl, ht, Or.inl ⟨q, rfl⟩⟩, fun q => est hd ⟨_, _, _, rfl, ht, Or.inr ⟨q, rfl⟩⟩⟩)
theorem zs_ifne {off : Int} {t : Nat} (hd : decode cc pc = .ok (.ifCond .ne off, 3)) (ht : (pc : Int) + off = (t : Int)) : zSound g PX bd pre post d cc own pc (z_if 1 t (pc + 3)) := zs_if (fun _ _ _ _ _ _ _ _ _ _ _ _ _ _ _ _ _ _ hx hb a b => lv_if_ne hx hb hd ht a (fun q => b (fun n => n q))) (fun _ _ _ _ => ⟨fun q => est hd ⟨_, _, _, rfl, ht, Or.inl ⟨q, rfl⟩⟩, fun q => est hd ⟨_, _, _, rfl, ht, Or.inr ⟨q, rfl⟩⟩⟩)
theorem zs_iflt {off : Int} {t : Nat} (hd : decode cc pc = .ok (.ifCond .lt off, 3)) (ht : (pc : Int) + off = (t : Int)) : zSound g PX bd pre post d cc own pc (z_if 2 t (pc + 3)) := zs_if (fun _ _ _ _ _ _ _ _ _ _ _ _ _ _ _ _ _ _ hx hb a b => lv_if_lt hx hb hd ht a b) (fun _ _ _ _ => ⟨fun q => est hd ⟨_, _, _, rfl, ht, Or.inl ⟨q, rfl⟩⟩, fun q => est hd ⟨_, _, _, rfl, ht, Or.inr ⟨q, rfl⟩⟩⟩)
theorem zs_ifge {off : Int} {t : Nat} (hd : decode cc pc = .ok (.ifCond .ge off, 3)) (ht : (pc : Int) + off = (t : Int)) : zSound g PX bd pre post d cc own pc (z_if 3 t (pc + 3)) := zs_if (fun _ _ _ _ _ _ _ _ _ _ _ _ _ _ _ _ _ _ hx hb a b => lv_if_ge hx hb hd ht a b) (fun _ _ _ _ => ⟨fun q => est hd ⟨_, _, _, rfl, ht, Or.inl ⟨q, rfl⟩⟩, fun q => est hd ⟨_, _, _, rfl, ht, Or.inr ⟨q, rfl⟩⟩⟩)
theorem zs_ifgt {off : Int} {t : Nat} (hd : decode cc pc = .ok (.ifCond .gt off, 3)) (ht : (pc : Int) + off = (t : Int)) : zSound g PX bd pre post d cc own pc (z_if 4 t (pc + 3)) := zs_if (fun _ _ _ _ _ _ _ _ _ _ _ _ _ _ _ _ _ _ hx hb a b => lv_if_gt hx hb hd ht a b) (fun _ _ _ _ => ⟨fun q => est hd ⟨_, _, _, rfl, ht, Or.inl ⟨q, rfl⟩⟩, fun q => est hd ⟨_, _, _, rfl, ht, Or.inr ⟨q, rfl⟩⟩⟩)
theorem zs_ifle {off : Int} {t : Nat} (hd : decode cc pc = .ok (.ifCond .le off, 3)) (ht : (pc : Int) + off = (t : Int)) : zSound g PX bd pre post d cc own pc (z_if 5 t (pc + 3)) := zs_if (fun _ _ _ _ _ _ _ _ _ _ _ _ _ _ _ _ _ _ hx hb a b => lv_if_le hx hb hd ht a b) (fun _ _ _ _ => ⟨fun q => est hd ⟨_, _, _, rfl, ht, Or.inl ⟨q, rfl⟩⟩, fun q => est hd ⟨_, _, _, rfl, ht, Or.inr ⟨q, rfl⟩⟩⟩)
theorem zs_icmpeq {off : Int} {t : Nat} (hd : decode cc pc = .ok (.if_icmp .eq off, 3)) (ht : (pc : Int) + off = (t : Int)) : zSound g PX bd pre post d cc own pc (z_icmp 0 t (pc + 3)) := zs_icmp (fun _ _ _ _ _ _ _ _ _ _ _ _ _ _ _ _ _ _ _ hx hb a b => lv_icmp_eq hx hb hd ht a b) (fun _ _ _ _ _ => ⟨fun q => est hd ⟨_, _, _, _, rfl, ht, Or.inl ⟨q, rfl⟩⟩, fun q => est hd ⟨_, _, _, _, rfl, ht, Or.inr ⟨q, rfl⟩⟩⟩)
theorem zs_icmpne {off : Int} {t : Nat} (hd : decode cc pc = .ok (.if_icmp .ne off, 3)) (ht : (pc : Int) + off = (t : Int)) : zSound g PX bd pre post d cc own pc (z_icmp 1 t (pc + 3)) := zs_icmp (fun _ _ _ _ _ _ _ _ _ _ _ _ _ _ _ _ _ _ _ hx hb a b => lv_icmp_ne hx hb hd ht a (fun q => b (fun n => n q))) (fun _ _ _ _ _ => ⟨fun q => est hd ⟨_, _, _, _, rfl, ht, Or.inl ⟨q, rfl⟩⟩, fun q => est hd ⟨_, _, _, _, rfl, ht, Or.inr ⟨q, rfl⟩⟩⟩)
theorem zs_icmplt {off : Int} {t : Nat} (hd : decode cc pc = .ok (.if_icmp .lt off, 3)) (ht : (pc : Int) + off = (t : Int)) : zSound g PX bd pre post d cc own pc (z_icmp 2 t (pc + 3)) := zs_icmp (fun _ _ _ _ _ _ _ _ _ _ _ _ _ _ _ _ _ _ _ hx hb a b => lv_icmp_lt hx hb hd ht a b) (fun _ _ _ _ _ => ⟨fun q => est hd ⟨_, _, _, _, rfl, ht, Or.inl ⟨q, rfl⟩⟩, fun q => est hd ⟨_, _, _, _, rfl, ht, Or.inr ⟨q, rfl⟩⟩⟩)
theorem zs_icmpge {off : Int} {t : Nat} (hd : decode cc pc = .ok (.if_icmp .ge off, 3)) (ht : (pc : Int) + off = (t : Int)) : zSound g PX bd pre post d cc own pc (z_icmp 3 t (pc + 3)) := zs_icmp (fun _ _ _ _ _ _ _ _ _ _ _ _ _ _ _ _ _ _ _ hx hb a b => lv_icmp_ge hx hb hd ht a b) (fun _ _ _ _ _ => ⟨fun q => est hd ⟨_, _, _, _, rfl, ht, Or.inl ⟨q, rfl⟩⟩, fun q => est hd ⟨_, _, _, _, rfl, ht, Or.inr ⟨q, rfl⟩⟩⟩)
theorem zs_icmpgt {off : Int} {t : Nat} (hd : decode cc pc = .ok (.if_icmp .gt off, 3)) (ht : (pc : Int) + off = (t : Int)) : zSound g PX bd pre post d cc own pc (z_icmp 4 t (pc + 3)) := zs_icmp (fun _ _ _ _ _ _ _ _ _ _ _ _ _ _ _ _ _ _ _ hx hb a b => lv_icmp_gt hx hb hd ht a b) (fun _ _ _ _ _ => ⟨fun q => est hd ⟨_, _, _, _, rfl, ht, Or.inl ⟨q, rfl⟩⟩, fun q => est hd ⟨_, _, _, _, rfl, ht, Or.inr ⟨q, rfl⟩⟩⟩)
theorem zs_icmple {off : Int} {t : Nat} (hd : decode cc pc = .ok (.if_icmp .le off, 3)) (ht : (pc : Int) + off = (t : Int)) : zSound g PX bd pre post d cc own pc (z_icmp 5 t (pc + 3)) := zs_icmp (fun _ _ _ _ _ _ _ _ _ _ _ _ _ _ _ _ _ _ _ hx hb a b => lv_icmp_le hx hb hd ht a b) (fun _ _ _ _ _ => ⟨fun q => est hd ⟨_, _, _, _, rfl, ht, Or.inl ⟨q, rfl⟩⟩, fun q => est hd ⟨_, _, _, _, rfl, ht, Or.inr ⟨q, rfl⟩⟩⟩)
/-- what a field gives, by its type -/
def zget (g : zG) (I : zI) (ft : zT) (K : zV → Prop) : Prop :=
  (ft.1 = 0 → K (.inl (I ft.2))) ∧ (ft.1 = 1 → ∀ v : Int32, g.2.2.2.1 ft.2 v → K (.inl v)) ∧ (ft.1 = 2 → K (.inr (.inl (some ft.2)))) ∧ (ft.1 = 3 → ∀ r : Nat, g.1 r = ft.2 → K (.inr (.inl (some r))))
def z_getf (g : zG) (ci j n : Nat) : zF := fun K L S I B => match S with
  | .inr (.inl (some a)) :: S => (match g.2.1 (g.1 a) with
    | .inl (c, fts) => c = ci ∧ (match fts[j]? with
      | some ft => zget g I ft (fun v => K n L (v :: S) I B)
      | none => False)
    | .inr _ => False)
  | _ => False
theorem zcell_at {sz N : Nat} {tys : List (ClassId × FieldType)} {I : zI} {ws : va_W} (h : zW g sz N tys I ws) {a : Nat} (ha : a < N) : ∃ u, ws[a]? = some (sz + a, u) ∧ zCell g sz N tys I a u := h.2.1 a ha
theorem zs_getf {index ci j : Nat} {C : String} {T : u_T} {M : Nat} (hd : decode cc pc = .ok (.getfield index, 3)) (hcl : vwCl[ci]? = some (C, T, M)) (hin : ∀ w ∈ u_ws C T M, w ∈ lw_tbl) (hj : j < M) (hw : Cond.fieldLink own index (T j).1 (T j).2.1 (T j).2.2.1 ∈ xTB) (hxt : xTb own index = (0, ci, (j : Int))) : zSound g PX bd pre post d cc own pc (z_getf g ci j (pc + 3)) := by
  intro K L S I B h hc p l e R s m args below meth c Q nL D tys sz sc TT hT C1 hf hlo kk N ls st H locs μ hM hL hS hB1 hB2 hτ
  unfold z_getf at h
  split at h
  · rename_i a S0
    obtain ⟨u, st', rfl, ⟨rfl, haN⟩, hS⟩ := hS
    obtain ⟨⟨ws, hR, hP, hXw⟩, hM2⟩ := id hM
    obtain ⟨u, hu, huc⟩ := zcell_at hR haN
    unfold zCell at huc
    cases hdd : g.2.1 (g.1 a) with
    | inr q => rw [hdd] at h; exact h.elim
    | inl q =>
      obtain ⟨c1, fts⟩ := q
      rw [hdd] at h huc
      obtain ⟨rfl, h⟩ := h
      obtain ⟨vs, rfl, hlen, hfs⟩ := huc
      cases hft : fts[j]? with
      | none => rw [hft] at h; exact h.elim
      | some ft =>
        rw [hft] at h
        obtain ⟨x, hx, hxt⟩ := hfs j ft hft
        obtain ⟨g0, g1, g2, g3⟩ := h
        have hXa := hXw.2 _ _ hu j x hx
        have go : ∀ v : zV, zRV sz N v x → K (pc + 3) L (v :: S0) I B → xStep (zk g) (Ex (zk g)) cc own (pc, L, .inr (.inl (some a)) :: S0, μ) (pc + 3, L, v :: S0, μ) → W p l e R s m args below meth c H locs B.1 B.2 Q (F0 m pc ls (.ref (sz + a) :: st')) := fun v hv hk hs =>
          va_get C1.1 C1.2.1 C1.2.2.2.2.1 (xin1 hin) C1.2.2.2.1 C1.2.2.2.2.2.1 hP a hu hcl j hj (C1.2.2.2.2.1 _ hw) (fun _ h9 => h9) hx hd (kk _ _ _ _ _ hk N _ _ _ _ _ hM hL ⟨_, _, rfl, hv, hS⟩ hB1 hB2 (hT _ _ hτ (hs)))
        rcases hxt with ⟨t0, rfl⟩ | ⟨t0, v, rfl, hv⟩ | ⟨t0, rfl, hr⟩ | ⟨t0, r, hr, hk, rfl⟩
        · exact go (.inl (I ft.2)) rfl (g0 t0) (est hd ⟨_, _, _, _, _, _, _, rfl, hxt, hdd, hft, rfl, Or.inl ⟨by omega, by rw [hXa.1 _ rfl]⟩⟩)
        · exact go (.inl v) rfl (g1 t0 v hv) (est hd ⟨_, _, _, _, _, _, _, rfl, hxt, hdd, hft, rfl, Or.inl ⟨by omega, by rw [hXa.1 _ rfl]⟩⟩)
        · exact go (.inr (.inl (some ft.2))) ⟨rfl, hr⟩ (g2 t0) (est hd ⟨_, _, _, _, _, _, _, rfl, hxt, hdd, hft, rfl, Or.inr (Or.inl ⟨t0, rfl⟩)⟩)
        · exact go (.inr (.inl (some r))) ⟨rfl, hr⟩ (g3 t0 r hk) (est hd ⟨_, _, _, _, _, _, _, rfl, hxt, hdd, hft, rfl, Or.inr (Or.inr ⟨t0, r, hk, hXa.2 _ rfl, rfl⟩)⟩)
  · exact h.elim
/-- loads: an element of which the invariant holds -/
def z_iald (g : zG) (n : Nat) : zF := fun K L S I B => match S with
  | .inl i :: .inr (.inl (some a)) :: S => (match g.2.1 (g.1 a) with
    | .inr (t, len) => t = 0 ∧ vp_in i len ∧ ∀ v : Int32, zE g I (g.1 a) i.toNatClampNeg v → K n L (.inl v :: S) I B
    | .inl _ => False)
  | _ => False
theorem zs_iald (hd : decode cc pc = .ok (.iaload, 1)) : zSound g PX bd pre post d cc own pc (z_iald g (pc + 1)) := by
  intro K L S I B h hc p l e R s m args below meth c Q nL D tys sz sc TT hT C1 hf hlo kk N ls st H locs μ hM hL hS hB1 hB2 hτ
  unfold z_iald at h
  split at h
  · rename_i i a S0
    obtain ⟨u, st', rfl, rfl, u2, st2, rfl, ⟨rfl, haN⟩, hS⟩ := hS
    obtain ⟨⟨ws, hR, hP, hXw⟩, hM2⟩ := id hM
    obtain ⟨u, hu, huc⟩ := zcell_at hR haN
    unfold zCell at huc
    cases hdd : g.2.1 (g.1 a) with
    | inl q => rw [hdd] at h; exact h.elim
    | inr q =>
      obtain ⟨t, len⟩ := q
      rw [hdd] at h huc
      obtain ⟨rfl, hin, h⟩ := h
      obtain ⟨cA, ty, hty, hlen, hk⟩ := huc
      have ht := Option.some.inj (xty_of C1.2.2.2.2.2.2.1 hty)
      cases ht
      have hlt : i.toNatClampNeg < len := Nat.not_le.mp fun q => hin (Or.inr q)
      rcases hk with ⟨-, f, rfl, hf2⟩ | ⟨h3, -⟩ | ⟨h3, -⟩
      · exact va_iald C1.1 C1.2.1 C1.2.2.2.2.2.1 hP a 0 hu hty hin hd (kk _ _ _ _ _ (h _ (hf2 _ hlt)) N _ _ _ _ _ hM hL ⟨_, _, rfl, rfl, hS⟩ hB1 hB2 (hT _ _ hτ (est hd (⟨_, _, _, _, _, rfl, hdd, hin, hXw.2 _ _ hu _ hlt, rfl⟩))))
      · cases h3
      · cases h3
  · exact h.elim
def z_bald (g : zG) (n : Nat) : zF := fun K L S I B => match S with
  | .inl i :: .inr (.inl (some a)) :: S => (match g.2.1 (g.1 a) with
    | .inr (t, len) => (t = 1 ∨ t = 2) ∧ vp_in i len ∧ ∀ v : Int32, zE g I (g.1 a) i.toNatClampNeg v → K n L (.inl v :: S) I B
    | .inl _ => False)
  | _ => False
theorem zs_bald (hd : decode cc pc = .ok (.baload, 1)) : zSound g PX bd pre post d cc own pc (z_bald g (pc + 1)) := by
  intro K L S I B h hc p l e R s m args below meth c Q nL D tys sz sc TT hT C1 hf hlo kk N ls st H locs μ hM hL hS hB1 hB2 hτ
  unfold z_bald at h
  split at h
  · rename_i i a S0
    obtain ⟨u, st', rfl, rfl, u2, st2, rfl, ⟨rfl, haN⟩, hS⟩ := hS
    obtain ⟨⟨ws, hR, hP, hXw⟩, hM2⟩ := id hM
    obtain ⟨u, hu, huc⟩ := zcell_at hR haN
    unfold zCell at huc
    cases hdd : g.2.1 (g.1 a) with
    | inl q => rw [hdd] at h; exact h.elim
    | inr q =>
      obtain ⟨t, len⟩ := q
      rw [hdd] at h huc
      obtain ⟨ht12, hin, h⟩ := h
      obtain ⟨cA, ty, hty, hlen, hk⟩ := huc
      have hlt : i.toNatClampNeg < len := Nat.not_le.mp fun q => hin (Or.inr q)
      rcases ht12 with rfl | rfl
      · have ht := Option.some.inj (xty_of C1.2.2.2.2.2.2.1 hty)
        cases ht
        rcases hk with ⟨-, f, rfl, hf2⟩ | ⟨h3, -⟩ | ⟨h3, -⟩
        · exact va_bald C1.1 C1.2.1 C1.2.2.2.2.2.1 hP a 1 hu hty hin hd (kk _ _ _ _ _ (h _ (hf2 _ hlt)) N _ _ _ _ _ hM hL ⟨_, _, rfl, rfl, hS⟩ hB1 hB2 (hT _ _ hτ (est hd (⟨_, _, _, _, _, _, rfl, Or.inl rfl, hdd, hin, hXw.2 _ _ hu _ hlt, rfl⟩))))
        · cases h3
        · cases h3
      · have ht := Option.some.inj (xty_of C1.2.2.2.2.2.2.1 hty)
        cases ht
        rcases hk with ⟨-, f, rfl, hf2⟩ | ⟨h3, -⟩ | ⟨h3, -⟩
        · exact va_zald C1.1 C1.2.1 C1.2.2.2.2.2.1 hP a 2 hu hty hin hd (kk _ _ _ _ _ (h _ (hf2 _ hlt)) N _ _ _ _ _ hM hL ⟨_, _, rfl, rfl, hS⟩ hB1 hB2 (hT _ _ hτ (est hd (⟨_, _, _, _, _, _, rfl, Or.inr rfl, hdd, hin, hXw.2 _ _ hu _ hlt, rfl⟩))))
        · cases h3
        · cases h3
  · exact h.elim
end ZS2
