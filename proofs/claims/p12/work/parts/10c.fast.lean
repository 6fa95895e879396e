/-! ===== the same steps, written for the kernel ===== -/
noncomputable def xif {α : Type} (c : Bool) (x y : α) : α := Bool.rec y x c
noncomputable def oB {α β : Type} (o : Option α) (k : α → Option β) : Option β := Option.rec none k o
noncomputable def lB {α β : Type} (l : List α) (k : α → List α → Option β) : Option β := List.rec none (fun a t _ => k a t) l
noncomputable def vI {β : Type} (v : xV) (k : Nat × Nat → Option β) : Option β := Sum.rec k (fun _ => none) v
noncomputable def vR {β : Type} (v : xV) (k : Nat → Option β) : Option β := Sum.rec (fun _ => none) (fun r => Sum.rec (fun o => Option.rec none k o) (fun _ => none) r) v
noncomputable def eO {β : Type} (e : xE) (k : Nat → List xV → Option β) : Option β := Sum.rec (fun _ => none) (fun r => Sum.rec (fun _ => none) (fun q => k q.1 q.2) r) e
noncomputable def eA {β : Type} (e : xE) (k : Nat → Nat → Nat × Nat → List (Nat × Nat × Nat) → Option β) : Option β := Sum.rec (fun q => k q.1 q.2.1 q.2.2.1 q.2.2.2) (fun _ => none) e
noncomputable def ywg (w : xW) (k : Nat) : Option xE := oB (xget w.2.2 (Nat.div k 16)) (fun r => oB (xget r (Nat.mod k 16)) (fun o => o))
theorem ywg_eq (w : xW) (k : Nat) : ywg w k = xwg w k := by
  unfold ywg xwg
  show oB (xget w.2.2 (k / 16)) (fun r => oB (xget r (k % 16)) (fun o => o)) = _
  cases xget w.2.2 (k / 16) with
  | none => rfl
  | some r =>
    show oB (xget r (k % 16)) (fun o => o) = match xget r (k % 16) with
      | none => none
      | some o => o
    cases xget r (k % 16) <;> rfl
noncomputable def yws (w : xW) (k : Nat) (e : xE) : xW := Option.rec w (fun r => (w.1, w.2.1, xset (xset (some e) r (Nat.mod k 16)) w.2.2 (Nat.div k 16))) (xget w.2.2 (Nat.div k 16))
theorem yws_eq (w : xW) (k : Nat) (e : xE) : yws w k e = xws w k e := by
  unfold yws xws
  show @Option.rec (List (Option xE)) (fun _ => xW) w (fun r => (w.1, w.2.1, xset (xset (some e) r (k % 16)) w.2.2 (k / 16))) (xget w.2.2 (k / 16)) = _
  cases xget w.2.2 (k / 16) <;> rfl
noncomputable def ybin (f : Nat → Nat → Nat) (a b : Nat × Nat) : Nat × Nat := xif (xif (Nat.beq a.1 a.2) (Nat.beq b.1 b.2) false) (f a.1 b.1, f a.1 b.1) (0, 4294967295)
theorem ybin_eq (f : Nat → Nat → Nat) (a b : Nat × Nat) : ybin f a b = xbin f a b := by
  unfold ybin xbin
  cases Nat.beq a.1 a.2 <;> cases Nat.beq b.1 b.2 <;> rfl
noncomputable def yadd (a b : Nat) : Nat := Nat.mod (Nat.add (Nat.add a b) 2147483648) 4294967296
theorem yadd_eq : yadd = xfadd := rfl
noncomputable def ysub (a b : Nat) : Nat := Nat.mod (Nat.sub (Nat.add a 6442450944) b) 4294967296
theorem ysub_eq : ysub = xfsub := rfl
noncomputable def yc0 (a b : Nat × Nat) : Option Bool := xif (xif (Nat.ble (Nat.succ a.2) b.1) true (Nat.ble (Nat.succ b.2) a.1)) (some false) (xif (xif (Nat.beq a.1 a.2) (xif (Nat.beq b.1 b.2) (Nat.beq a.1 b.1) false) false) (some true) none)
noncomputable def yc1 (a b : Nat × Nat) : Option Bool := xif (xif (Nat.ble (Nat.succ a.2) b.1) true (Nat.ble (Nat.succ b.2) a.1)) (some true) (xif (xif (Nat.beq a.1 a.2) (xif (Nat.beq b.1 b.2) (Nat.beq a.1 b.1) false) false) (some false) none)
noncomputable def yc2 (a b : Nat × Nat) : Option Bool := xif (Nat.ble (Nat.succ a.2) b.1) (some true) (xif (Nat.ble b.2 a.1) (some false) none)
noncomputable def yc3 (a b : Nat × Nat) : Option Bool := xif (Nat.ble (Nat.succ a.2) b.1) (some false) (xif (Nat.ble b.2 a.1) (some true) none)
noncomputable def yc4 (a b : Nat × Nat) : Option Bool := xif (Nat.ble (Nat.succ b.2) a.1) (some true) (xif (Nat.ble a.2 b.1) (some false) none)
noncomputable def yc5 (a b : Nat × Nat) : Option Bool := xif (Nat.ble (Nat.succ b.2) a.1) (some false) (xif (Nat.ble a.2 b.1) (some true) none)
theorem yc0_eq (a b : Nat × Nat) : yc0 a b = xcmp 0 a b := by
  show _ = (bif Nat.ble (Nat.succ a.2) b.1 || Nat.ble (Nat.succ b.2) a.1 then some false else bif Nat.beq a.1 a.2 && (Nat.beq b.1 b.2 && Nat.beq a.1 b.1) then some true else none)
  unfold yc0
  cases Nat.ble (Nat.succ a.2) b.1 <;> cases Nat.ble (Nat.succ b.2) a.1 <;> cases Nat.beq a.1 a.2 <;> cases Nat.beq b.1 b.2 <;> cases Nat.beq a.1 b.1 <;> rfl
theorem yc1_eq (a b : Nat × Nat) : yc1 a b = xcmp 1 a b := by
  show _ = (bif Nat.ble (Nat.succ a.2) b.1 || Nat.ble (Nat.succ b.2) a.1 then some true else bif Nat.beq a.1 a.2 && (Nat.beq b.1 b.2 && Nat.beq a.1 b.1) then some false else none)
  unfold yc1
  cases Nat.ble (Nat.succ a.2) b.1 <;> cases Nat.ble (Nat.succ b.2) a.1 <;> cases Nat.beq a.1 a.2 <;> cases Nat.beq b.1 b.2 <;> cases Nat.beq a.1 b.1 <;> rfl
theorem yc2_eq (a b : Nat × Nat) : yc2 a b = xcmp 2 a b := by
  show _ = (bif Nat.ble (Nat.succ a.2) b.1 then some true else bif Nat.ble b.2 a.1 then some false else none)
  unfold yc2
  cases Nat.ble (Nat.succ a.2) b.1 <;> cases Nat.ble b.2 a.1 <;> rfl
theorem yc3_eq (a b : Nat × Nat) : yc3 a b = xcmp 3 a b := by
  show _ = (bif Nat.ble (Nat.succ a.2) b.1 then some false else bif Nat.ble b.2 a.1 then some true else none)
  unfold yc3
  cases Nat.ble (Nat.succ a.2) b.1 <;> cases Nat.ble b.2 a.1 <;> rfl
theorem yc4_eq (a b : Nat × Nat) : yc4 a b = xcmp 4 a b := by
  show _ = (bif Nat.ble (Nat.succ b.2) a.1 then some true else bif Nat.ble a.2 b.1 then some false else none)
  unfold yc4
  cases Nat.ble (Nat.succ b.2) a.1 <;> cases Nat.ble a.2 b.1 <;> rfl
theorem yc5_eq (a b : Nat × Nat) : yc5 a b = xcmp 5 a b := by
  show _ = (bif Nat.ble (Nat.succ b.2) a.1 then some false else bif Nat.ble a.2 b.1 then some true else none)
  unfold yc5
  cases Nat.ble (Nat.succ b.2) a.1 <;> cases Nat.ble a.2 b.1 <;> rfl
noncomputable def yix (i : Nat × Nat) (n : Nat) : Option Nat := xif (xif (Nat.beq i.1 i.2) (xif (Nat.ble 2147483648 i.1) (Nat.ble (Nat.succ i.1) (Nat.add n 2147483648)) false) false) (some (Nat.sub i.1 2147483648)) none
theorem yix_eq (i : Nat × Nat) (n : Nat) : yix i n = xix i n := by
  show _ = (bif Nat.beq i.1 i.2 && (Nat.ble 2147483648 i.1 && Nat.ble (Nat.succ i.1) (Nat.add n 2147483648)) then some (i.1 - 2147483648) else none)
  unfold yix
  cases Nat.beq i.1 i.2 <;> cases Nat.ble 2147483648 i.1 <;> cases Nat.ble (Nat.succ i.1) (Nat.add n 2147483648) <;> rfl
noncomputable def ylg (o : Option (Option xV)) : Bool := Option.rec false (fun o => Option.rec false (fun v => Sum.rec (fun _ => false) (fun r => Sum.rec (fun _ => false) (fun k => Nat.rec false (fun _ _ => true) k) r) v) o) o
theorem ylg_eq (o : Option (Option xV)) : ylg o = xlg o := by
  match o with
  | none => rfl
  | some none => rfl
  | some (some (.inl a)) => rfl
  | some (some (.inr (.inl r))) => rfl
  | some (some (.inr (.inr 0))) => rfl
  | some (some (.inr (.inr (k + 1)))) => rfl
noncomputable def yst (L : List (Option xV)) (i : Nat) (v : xV) : Option (List (Option xV)) := oB (xget L i) (fun _ => xif (ylg (xget L (Nat.sub i 1))) none (some (xset (some v) L i)))
theorem yst_eq (L : List (Option xV)) (i : Nat) (v : xV) : yst L i v = xst L i v := by
  unfold yst xst
  cases xget L i with
  | none => rfl
  | some o =>
    show xif (ylg (xget L (i - 1))) none (some (xset (some v) L i)) = (bif xlg (xget L (i - 1)) then none else some (xset (some v) L i))
    rw [ylg_eq]
    cases xlg (xget L (i - 1)) <;> rfl
noncomputable def ylk (us : List (Nat × Nat × Nat)) (d : Nat × Nat) (j : Nat) : Nat × Nat := List.rec d (fun q _ ih => xif (Nat.beq q.1 j) q.2 ih) us
theorem ylk_eq (d : Nat × Nat) (j : Nat) : ∀ us : List (Nat × Nat × Nat), ylk us d j = xlk us d j
  | [] => rfl
  | q :: us => by
    show xif (Nat.beq q.1 j) q.2 (ylk us d j) = bif Nat.beq q.1 j then q.2 else xlk us d j
    rw [ylk_eq d j us]
    cases Nat.beq q.1 j <;> rfl
noncomputable def yup (w : xW) (a t len : Nat) (d : Nat × Nat) (us : List (Nat × Nat × Nat)) (j : Nat) (v : Nat × Nat) : xW :=
  xif (xif (Nat.beq (ylk us d j).1 v.1) (Nat.beq (ylk us d j).2 v.2) false) w (yws w a (.inl (t, len, d, xlp us j v)))
theorem yup_eq (w : xW) (a t len : Nat) (d : Nat × Nat) (us : List (Nat × Nat × Nat)) (j : Nat) (v : Nat × Nat) : yup w a t len d us j v = xup w a t len d us j v := by
  unfold yup xup
  rw [ylk_eq, yws_eq]
  cases Nat.beq (xlk us d j).1 v.1 <;> cases Nat.beq (xlk us d j).2 v.2 <;> rfl
/-! the steps -/
noncomputable def y_iload (i n : Nat) : xF := fun _ L S w => oB (xget L i) (fun o => oB o (fun v => vI v (fun _ => some (n, L, v :: S, w))))
theorem y_iload_eq (i n : Nat) : y_iload i n = x_iload i n := by
  funext call L S w
  unfold y_iload x_iload
  match xget L i with
  | none => rfl
  | some none => rfl
  | some (some (.inl a)) => rfl
  | some (some (.inr r)) => rfl
noncomputable def y_aload (i n : Nat) : xF := fun _ L S w => oB (xget L i) (fun o => oB o (fun v => vR v (fun _ => some (n, L, v :: S, w))))
theorem y_aload_eq (i n : Nat) : y_aload i n = x_aload i n := by
  funext call L S w
  unfold y_aload x_aload
  match xget L i with
  | none => rfl
  | some none => rfl
  | some (some (.inl a)) => rfl
  | some (some (.inr (.inl none))) => rfl
  | some (some (.inr (.inl (some k)))) => rfl
  | some (some (.inr (.inr k))) => rfl
noncomputable def y_istore (i n : Nat) : xF := fun _ L S w => lB S (fun v S => vI v (fun _ => oB (yst L i v) (fun L' => some (n, L', S, w))))
theorem y_istore_eq (i n : Nat) : y_istore i n = x_istore i n := by
  funext call L S w
  unfold y_istore x_istore
  match S with
  | [] => rfl
  | .inl a :: S =>
    show oB (yst L i (.inl a)) _ = match xst L i (.inl a) with
      | some L' => some (n, L', S, w)
      | none => none
    rw [yst_eq]
    cases xst L i (.inl a) <;> rfl
  | .inr r :: S => rfl
noncomputable def y_iinc (i k n : Nat) : xF := fun _ L S w => oB (xget L i) (fun o => oB o (fun v => vI v (fun a => oB (yst L i (.inl (ybin yadd a (k, k)))) (fun L' => some (n, L', S, w)))))
theorem y_iinc_eq (i k n : Nat) : y_iinc i k n = x_iinc i k n := by
  funext call L S w
  unfold y_iinc x_iinc
  match xget L i with
  | none => rfl
  | some none => rfl
  | some (some (.inl a)) =>
    show oB (yst L i (.inl (ybin yadd a (k, k)))) _ = match xst L i (.inl (xbin xfadd a (k, k))) with
      | some L' => some (n, L', S, w)
      | none => none
    rw [yst_eq, ybin_eq, yadd_eq]
    cases xst L i (.inl (xbin xfadd a (k, k))) <;> rfl
  | some (some (.inr r)) => rfl
noncomputable def y_bin (f : Nat → Nat → Nat) (n : Nat) : xF := fun _ L S w => lB S (fun v S => vI v (fun b => lB S (fun u S => vI u (fun a => some (n, L, .inl (ybin f a b) :: S, w)))))
theorem y_bin_eq (f : Nat → Nat → Nat) (n : Nat) : y_bin f n = x_bin f n := by
  funext call L S w
  unfold y_bin x_bin
  match S with
  | [] => rfl
  | .inl b :: [] => rfl
  | .inl b :: .inl a :: S =>
    show some (n, L, Sum.inl (ybin f a b) :: S, w) = some (n, L, Sum.inl (xbin f a b) :: S, w)
    rw [ybin_eq]
  | .inl b :: .inr r :: S => rfl
  | .inr r :: S => rfl
noncomputable def y_if (q : Nat × Nat → Nat × Nat → Option Bool) (t n : Nat) : xF := fun _ L S w => lB S (fun v S => vI v (fun a => oB (q a (2147483648, 2147483648)) (fun r => xif r (some (t, L, S, w)) (some (n, L, S, w)))))
theorem y_if_eq {q : Nat × Nat → Nat × Nat → Option Bool} {op : Nat} (hq : ∀ a b, q a b = xcmp op a b) (t n : Nat) : y_if q t n = x_if op t n := by
  funext call L S w
  unfold y_if x_if
  match S with
  | [] => rfl
  | .inl a :: S =>
    show oB (q a (2147483648, 2147483648)) _ = match xcmp op a (2147483648, 2147483648) with
      | some true => some (t, L, S, w)
      | some false => some (n, L, S, w)
      | none => none
    rw [hq]
    match xcmp op a (2147483648, 2147483648) with
    | none => rfl
    | some true => rfl
    | some false => rfl
  | .inr r :: S => rfl
noncomputable def y_icmp (q : Nat × Nat → Nat × Nat → Option Bool) (t n : Nat) : xF := fun _ L S w => lB S (fun v S => vI v (fun b => lB S (fun u S => vI u (fun a => oB (q a b) (fun r => xif r (some (t, L, S, w)) (some (n, L, S, w)))))))
theorem y_icmp_eq {q : Nat × Nat → Nat × Nat → Option Bool} {op : Nat} (hq : ∀ a b, q a b = xcmp op a b) (t n : Nat) : y_icmp q t n = x_icmp op t n := by
  funext call L S w
  unfold y_icmp x_icmp
  match S with
  | [] => rfl
  | .inl b :: [] => rfl
  | .inl b :: .inl a :: S =>
    show oB (q a b) _ = match xcmp op a b with
      | some true => some (t, L, S, w)
      | some false => some (n, L, S, w)
      | none => none
    rw [hq]
    match xcmp op a b with
    | none => rfl
    | some true => rfl
    | some false => rfl
  | .inl b :: .inr r :: S => rfl
  | .inr r :: S => rfl
noncomputable def y_getf (ci k n : Nat) : xF := fun _ L S w => lB S (fun v S => vR v (fun a => oB (ywg w a) (fun e => eO e (fun c fs => xif (Nat.beq c ci) (oB (xget fs k) (fun v => some (n, L, v :: S, w))) none))))
theorem y_getf_eq (ci k n : Nat) : y_getf ci k n = x_getf ci k n := by
  funext call L S w
  unfold y_getf x_getf
  match S with
  | [] => rfl
  | .inl a :: S => rfl
  | .inr (.inl none) :: S => rfl
  | .inr (.inr k) :: S => rfl
  | .inr (.inl (some a)) :: S =>
    show oB (ywg w a) _ = match xwg w a with
      | some (.inr (.inr (c, fs))) => bif Nat.beq c ci then (match xget fs k with
        | some v => some (n, L, v :: S, w)
        | none => none) else none
      | _ => none
    rw [ywg_eq]
    match xwg w a with
    | none => rfl
    | some (.inl e) => rfl
    | some (.inr (.inl e)) => rfl
    | some (.inr (.inr (c, fs))) =>
      show xif (Nat.beq c ci) (oB (xget fs k) _) none = bif Nat.beq c ci then (match xget fs k with
        | some v => some (n, L, v :: S, w)
        | none => none) else none
      cases Nat.beq c ci with
      | false => rfl
      | true => cases xget fs k <;> rfl
noncomputable def y_iald (n : Nat) : xF := fun _ L S w => lB S (fun u S => vI u (fun i => lB S (fun v S => vR v (fun a => oB (ywg w a) (fun e => eA e (fun t len d us => xif (Nat.beq t 0) (oB (yix i len) (fun j => some (n, L, .inl (ylk us d j) :: S, w))) none))))))
theorem y_iald_eq (n : Nat) : y_iald n = x_iald n := by
  funext call L S w
  unfold y_iald x_iald
  match S with
  | [] => rfl
  | .inr r :: S => rfl
  | .inl i :: [] => rfl
  | .inl i :: .inl a :: S => rfl
  | .inl i :: .inr (.inl none) :: S => rfl
  | .inl i :: .inr (.inr k) :: S => rfl
  | .inl i :: .inr (.inl (some a)) :: S =>
    show oB (ywg w a) _ = match xwg w a with
      | some (.inl (0, len, d, us)) => (match xix i len with
        | some j => some (n, L, .inl (xlk us d j) :: S, w)
        | none => none)
      | _ => none
    rw [ywg_eq]
    match xwg w a with
    | none => rfl
    | some (.inr e) => rfl
    | some (.inl (0, len, d, us)) =>
      show oB (yix i len) _ = match xix i len with
        | some j => some (n, L, .inl (xlk us d j) :: S, w)
        | none => none
      rw [yix_eq]
      cases xix i len with
      | none => rfl
      | some j =>
        show some (n, L, Sum.inl (ylk us d j) :: S, w) = some (n, L, Sum.inl (xlk us d j) :: S, w)
        rw [ylk_eq]
    | some (.inl (t + 1, len, d, us)) => rfl
noncomputable def y_iast (n : Nat) : xF := fun _ L S w => lB S (fun x S => vI x (fun v => lB S (fun u S => vI u (fun i => lB S (fun z S => vR z (fun a => oB (ywg w a) (fun e => eA e (fun t len d us => xif (Nat.beq t 0) (oB (yix i len) (fun j => some (n, L, S, yup w a 0 len d us j v))) none))))))))
theorem y_iast_eq (n : Nat) : y_iast n = x_iast n := by
  funext call L S w
  unfold y_iast x_iast
  match S with
  | [] => rfl
  | .inr r :: S => rfl
  | .inl v :: [] => rfl
  | .inl v :: .inr r :: S => rfl
  | .inl v :: .inl i :: [] => rfl
  | .inl v :: .inl i :: .inl a :: S => rfl
  | .inl v :: .inl i :: .inr (.inl none) :: S => rfl
  | .inl v :: .inl i :: .inr (.inr k) :: S => rfl
  | .inl v :: .inl i :: .inr (.inl (some a)) :: S =>
    show oB (ywg w a) _ = match xwg w a with
      | some (.inl (0, len, d, us)) => (match xix i len with
        | some j => some (n, L, S, xup w a 0 len d us j v)
        | none => none)
      | _ => none
    rw [ywg_eq]
    match xwg w a with
    | none => rfl
    | some (.inr e) => rfl
    | some (.inl (0, len, d, us)) =>
      show oB (yix i len) _ = match xix i len with
        | some j => some (n, L, S, xup w a 0 len d us j v)
        | none => none
      rw [yix_eq]
      cases xix i len with
      | none => rfl
      | some j =>
        show some (n, L, S, yup w a 0 len d us j v) = some (n, L, S, xup w a 0 len d us j v)
        rw [yup_eq]
    | some (.inl (t + 1, len, d, us)) => rfl
noncomputable def ypop : Nat → List xV → List xV → Option (List xV × List xV) := Nat.rec (fun acc S => some (acc, S)) (fun _ ih acc S => lB S (fun v S => ih (v :: acc) S))
theorem ypop_eq : ∀ (k : Nat) (acc S : List xV), ypop k acc S = xpop k acc S
  | 0, acc, S => rfl
  | k + 1, acc, [] => rfl
  | k + 1, acc, v :: S => ypop_eq k (v :: acc) S
noncomputable def ycat (S : List xV) : Nat := List.rec 0 (fun v _ ih => Nat.add ih (Sum.rec (fun _ => 1) (fun r => Sum.rec (fun _ => 1) (fun k => xif (Nat.beq k 0) 1 2) r) v)) S
theorem ycat_eq : ∀ S : List xV, ycat S = xcat S
  | [] => rfl
  | .inl a :: S => congrArg (fun z => z + 1) (ycat_eq S)
  | .inr (.inl r) :: S => congrArg (fun z => z + 1) (ycat_eq S)
  | .inr (.inr 0) :: S => congrArg (fun z => z + 1) (ycat_eq S)
  | .inr (.inr (k + 1)) :: S => congrArg (fun z => z + 2) (ycat_eq S)
noncomputable def ypush (r : Option xV) (S : List xV) : List xV := Option.rec S (fun v => v :: S) r
theorem ypush_eq (r : Option xV) (S : List xV) : ypush r S = xpush r S := by cases r <;> rfl
noncomputable def yob (w : xW) (ci : Nat) (as : List xV) : Bool := List.rec false (fun v _ _ => Sum.rec (fun _ => false) (fun r => Sum.rec (fun o => Option.rec false (fun k => Option.rec false (fun e => Sum.rec (fun _ => false) (fun r => Sum.rec (fun _ => false) (fun q => Nat.beq q.1 ci) r) e) (ywg w k)) o) (fun _ => false) r) v) as
theorem yob_eq (w : xW) (ci : Nat) (as : List xV) : yob w ci as = xob w ci as := by
  match as with
  | [] => rfl
  | .inl a :: S => rfl
  | .inr (.inl none) :: S => rfl
  | .inr (.inr k) :: S => rfl
  | .inr (.inl (some k)) :: S =>
    show Option.rec false _ (ywg w k) = match xwg w k with
      | some (.inr (.inr (c, _))) => Nat.beq c ci
      | _ => false
    rw [ywg_eq]
    match xwg w k with
    | none => rfl
    | some (.inl e) => rfl
    | some (.inr (.inl e)) => rfl
    | some (.inr (.inr (c, fs))) => rfl
noncomputable def y_inv (j na n : Nat) : xF := fun call L S w => oB (ypop na [] S) (fun q => xif (Nat.ble (ycat q.2) 8) (oB (call j q.1 w) (fun r => some (n, L, ypush r.1 q.2, r.2))) none)
theorem y_inv_eq (j na n : Nat) : y_inv j na n = x_inv j na n := by
  funext call L S w
  unfold y_inv x_inv
  rw [ypop_eq]
  match xpop na [] S with
  | none => rfl
  | some (as, rest) =>
    show xif (Nat.ble (ycat rest) 8) (oB (call j as w) (fun r => some (n, L, ypush r.1 rest, r.2))) none = bif Nat.ble (xcat rest) 8 then (match call j as w with
      | some (r, w') => some (n, L, xpush r rest, w')
      | none => none) else none
    rw [ycat_eq]
    cases Nat.ble (xcat rest) 8 with
    | false => rfl
    | true =>
      match call j as w with
      | none => rfl
      | some (r, w') =>
        show some (n, L, ypush r rest, w') = some (n, L, xpush r rest, w')
        rw [ypush_eq]
noncomputable def y_invV (ci j na n : Nat) : xF := fun call L S w => oB (ypop na [] S) (fun q => xif (xif (yob w ci q.1) (Nat.ble (ycat q.2) 8) false) (oB (call j q.1 w) (fun r => some (n, L, ypush r.1 q.2, r.2))) none)
theorem y_invV_eq (ci j na n : Nat) : y_invV ci j na n = x_invV ci j na n := by
  funext call L S w
  unfold y_invV x_invV
  rw [ypop_eq]
  match xpop na [] S with
  | none => rfl
  | some (as, rest) =>
    show xif (xif (yob w ci as) (Nat.ble (ycat rest) 8) false) (oB (call j as w) (fun r => some (n, L, ypush r.1 rest, r.2))) none = bif xob w ci as && Nat.ble (xcat rest) 8 then (match call j as w with
      | some (r, w') => some (n, L, xpush r rest, w')
      | none => none) else none
    rw [ycat_eq, yob_eq]
    cases xob w ci as with
    | false => rfl
    | true =>
      cases Nat.ble (xcat rest) 8 with
      | false => rfl
      | true =>
        match call j as w with
        | none => rfl
        | some (r, w') =>
          show some (n, L, ypush r rest, w') = some (n, L, xpush r rest, w')
          rw [ypush_eq]
noncomputable def yfit (kd : Nat) (v : xV) : Bool := xif (Nat.beq kd 0) (Sum.rec (fun _ => true) (fun _ => false) v) (xif (Nat.beq kd 1) (Sum.rec (fun a => xif (Nat.ble 2147483648 a.1) (Nat.ble a.2 2147483649) false) (fun _ => false) v) (xif (Nat.beq kd 2) (Sum.rec (fun _ => false) (fun r => Sum.rec (fun _ => true) (fun _ => false) r) v) false))
theorem yfit_eq (kd : Nat) (v : xV) : yfit kd v = xfit kd v := by
  match kd, v with
  | 0, .inl a => rfl
  | 0, .inr r => rfl
  | 1, .inl a =>
    show xif (Nat.ble 2147483648 a.1) (Nat.ble a.2 2147483649) false = (Nat.ble 2147483648 a.1 && Nat.ble a.2 2147483649)
    cases Nat.ble 2147483648 a.1 <;> rfl
  | 1, .inr r => rfl
  | 2, .inl a => rfl
  | 2, .inr (.inl r) => rfl
  | 2, .inr (.inr k) => rfl
  | k + 3, .inl a => rfl
  | k + 3, .inr r => rfl
noncomputable def y_putf (ci k kd n : Nat) : xF := fun _ L S w => lB S (fun v S => lB S (fun u S => vR u (fun a => oB (ywg w a) (fun e => eO e (fun c fs => xif (xif (Nat.beq c ci) (xif (yfit kd v) (Nat.ble (Nat.succ k) fs.length) false) false) (some (n, L, S, yws w a (.inr (.inr (c, xset v fs k))))) none)))))
theorem y_putf_eq (ci k kd n : Nat) : y_putf ci k kd n = x_putf ci k kd n := by
  funext call L S w
  unfold y_putf x_putf
  match S with
  | [] => rfl
  | v :: [] => rfl
  | v :: .inl a :: S => rfl
  | v :: .inr (.inl none) :: S => rfl
  | v :: .inr (.inr k) :: S => rfl
  | v :: .inr (.inl (some a)) :: S =>
    show oB (ywg w a) _ = match xwg w a with
      | some (.inr (.inr (c, fs))) => bif Nat.beq c ci && (xfit kd v && Nat.blt k fs.length) then some (n, L, S, xws w a (.inr (.inr (c, xset v fs k)))) else none
      | _ => none
    rw [ywg_eq]
    match xwg w a with
    | none => rfl
    | some (.inl e) => rfl
    | some (.inr (.inl e)) => rfl
    | some (.inr (.inr (c, fs))) =>
      show xif (xif (Nat.beq c ci) (xif (yfit kd v) (Nat.ble (Nat.succ k) fs.length) false) false) (some (n, L, S, yws w a (.inr (.inr (c, xset v fs k))))) none = bif Nat.beq c ci && (xfit kd v && Nat.ble (Nat.succ k) fs.length) then some (n, L, S, xws w a (.inr (.inr (c, xset v fs k)))) else none
      rw [yfit_eq, yws_eq]
      cases Nat.beq c ci <;> cases xfit kd v <;> cases Nat.ble (Nat.succ k) fs.length <;> rfl
/-! runs -/
noncomputable def yrun (T : Nat → Option xF) (call : xC) : Nat → xS → Option xS := Nat.rec (fun _ => none) (fun _ ih st => Option.rec (some st) (fun f => oB (f call st.2.1 st.2.2.1 st.2.2.2) ih) (T st.1))
theorem yrun_eq (T : Nat → Option xF) (call : xC) : ∀ (n : Nat) (st : xS), yrun T call n st = xrun T call n st
  | 0, st => rfl
  | n + 1, st => by
    rw [xrun_s]
    show @Option.rec xF (fun _ => Option xS) (some st) (fun f => oB (f call st.2.1 st.2.2.1 st.2.2.2) (yrun T call n)) (T st.1) = _
    cases T st.1 with
    | none => rfl
    | some f =>
      show oB (f call st.2.1 st.2.2.1 st.2.2.2) (yrun T call n) = match f call st.2.1 st.2.2.1 st.2.2.2 with
        | none => none
        | some st' => xrun T call n st'
      cases f call st.2.1 st.2.2.1 st.2.2.2 with
      | none => rfl
      | some st' => exact yrun_eq T call n st'
noncomputable def ycall (PT : Nat → Option xT) (fuel : Nat) : Nat → xC := Nat.rec (fun _ _ _ => none) (fun _ ih j as w => oB (PT j) (fun q => xif (Nat.ble (xla as).length q.2.1) (oB (yrun q.1 ih fuel (0, xloc q.2.1 as, [], w)) (fun r => oB (xfin (xrt q.2.2 r.1) r.2.2.1) (fun v => some (v, r.2.2.2)))) none))
theorem ycall_eq (PT : Nat → Option xT) (fuel : Nat) : ∀ d, ycall PT fuel d = xcall PT fuel d
  | 0 => rfl
  | d + 1 => by
    funext j as w
    rw [xcall_s]
    show oB (PT j) (fun q => xif (Nat.ble (xla as).length q.2.1) (oB (yrun q.1 (ycall PT fuel d) fuel (0, xloc q.2.1 as, [], w)) (fun r => oB (xfin (xrt q.2.2 r.1) r.2.2.1) (fun v => some (v, r.2.2.2)))) none) = _
    rw [ycall_eq PT fuel d]
    cases PT j with
    | none => rfl
    | some q =>
      show xif (Nat.ble (xla as).length q.2.1) (oB (yrun q.1 (xcall PT fuel d) fuel (0, xloc q.2.1 as, [], w)) (fun r => oB (xfin (xrt q.2.2 r.1) r.2.2.1) (fun v => some (v, r.2.2.2)))) none = bif Nat.ble (xla as).length q.2.1 then (match xrun q.1 (xcall PT fuel d) fuel (0, xloc q.2.1 as, [], w) with
        | none => none
        | some r => match xfin (xrt q.2.2 r.1) r.2.2.1 with
          | none => none
          | some v => some (v, r.2.2.2)) else none
      rw [yrun_eq]
      cases Nat.ble (xla as).length q.2.1 with
      | false => rfl
      | true =>
        match xrun q.1 (xcall PT fuel d) fuel (0, xloc q.2.1 as, [], w) with
        | none => rfl
        | some r =>
          show oB (xfin (xrt q.2.2 r.1) r.2.2.1) (fun v => some (v, r.2.2.2)) = match xfin (xrt q.2.2 r.1) r.2.2.1 with
            | none => none
            | some v => some (v, r.2.2.2)
          cases xfin (xrt q.2.2 r.1) r.2.2.1 <;> rfl
theorem yS {PX : xPX} {G : State → Nat → Nat → Prop} {cc : ByteArray} {own : String} {ini : Bool} {pc : Nat} {f g : xF} (h : f = g) (hs : xSound PX G cc own ini pc g) : xSound PX G cc own ini pc f := h ▸ hs
