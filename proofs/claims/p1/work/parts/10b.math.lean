section XM
variable {PX : xPX} {G : State → Nat → Nat → Prop} {cc : ByteArray} {own : String} {ini : Bool} {pc : Nat}
def xfmax (a b : Nat) : Nat := bif Nat.blt a b then b else a
def xfmin (a b : Nat) : Nat := bif Nat.blt b a then b else a
theorem xblt_iff (a b : Nat) : Nat.blt a b = decide (a < b) := by
  cases h : Nat.blt a b with
  | true => exact (decide_eq_true (xblt h)).symm
  | false =>
    refine (decide_eq_false fun q => ?_).symm
    have : Nat.blt a b = true := Nat.ble_eq_true_of_le q
    rw [h] at this
    cases this
theorem xo_max (x y : Int32) : xo (if x < y then y else x) = xfmax (xo x) (xo y) := by
  unfold xfmax
  rw [xblt_iff]
  by_cases h : x < y
  · rw [if_pos h, decide_eq_true (xo_lt_iff.mp h)]
    rfl
  · rw [if_neg h, decide_eq_false (fun q => h (xo_lt_iff.mpr q))]
    rfl
theorem xo_min (x y : Int32) : xo (if y < x then y else x) = xfmin (xo x) (xo y) := by
  unfold xfmin
  rw [xblt_iff]
  by_cases h : y < x
  · rw [if_pos h, decide_eq_true (xo_lt_iff.mp h)]
    rfl
  · rw [if_neg h, decide_eq_false (fun q => h (xo_lt_iff.mpr q))]
    rfl
noncomputable def x_math (f : Nat → Nat → Nat) (n : Nat) : xF := fun _ L S w => match S with
  | .inl b :: .inl a :: S => bif Nat.ble (xcat S) 8 then some (n, L, .inl (xbin f a b) :: S, w) else none
  | _ => none
theorem x_math_eq {f : Nat → Nat → Nat} {n : Nat} {call : xC} {L : List (Option xV)} {S : List xV} {w : xW} {r : xS} (h : x_math f n call L S w = some r) : ∃ b a S0, S = .inl b :: .inl a :: S0 ∧ xcat S0 ≤ 8 ∧ r = (n, L, .inl (xbin f a b) :: S0, w) := by
  unfold x_math at h
  split at h
  · rename_i b a S0
    cases hb : Nat.ble (xcat S0) 8 with
    | false => rw [hb] at h; cases h
    | true =>
      rw [hb] at h
      exact ⟨_, _, _, rfl, xble hb, (Option.some.inj h).symm⟩
  · cases h
theorem s_max {index : Nat} (hd : decode cc pc = .ok (.invokestatic index, 3)) (hw1 : Cond.methodLink own index Lib.Math.max.name ∈ xTB) (hw2 : Cond.static Lib.Math.max.name ∈ xTB) (hw3 : Cond.initialized "java/lang/Math" ∈ xTB) (hw4 : Cond.code Lib.Math.max.name Lib.Math.max.code 2 (some .int) ∈ xTB) : xSound PX G cc own ini pc (x_math xfmax (pc + 3)) := by
  intro call d hc L S w pc' L' S' w' h
  obtain ⟨b2, a2, S0, rfl, hcat, hr⟩ := x_math_eq h
  cases hr
  refine ⟨xLe_rf, ?_⟩
  intro p l e R s m args below meth c Q nL D tys sz b c0 s0 C1 hG hf hlo h1 h2 ls st H locs cells slots hM hL hS kk
  obtain ⟨u, st', rfl, ⟨y, rfl, hy⟩, u2, st2, rfl, ⟨x, rfl, hx⟩, hS⟩ := hS
  have hcs := xcat_ok hS
  obtain ⟨-, -, -, hM3, hM4, -⟩ := id hM
  exact va_mmax C1.1 C1.2.1 (by rw [C1.2.2.1]; obtain ⟨-, lv, g, -⟩ := hL; exact g.1.symm) C1.2.2.2.1 (C1.2.2.2.2.1 _ hw1) (C1.2.2.2.2.1 _ hw2) (C1.2.2.2.2.1 _ hw3) (C1.2.2.2.2.1 _ hw4) (by omega) (by omega) (by omega) (by omega) hd (kk _ _ _ _ _ _ hM hL ⟨_, _, rfl, ⟨_, rfl, xbin_ok hx hy (xo_max x y)⟩, hS⟩)
theorem s_min {index : Nat} (hd : decode cc pc = .ok (.invokestatic index, 3)) (hw1 : Cond.methodLink own index Lib.Math.min.name ∈ xTB) (hw2 : Cond.static Lib.Math.min.name ∈ xTB) (hw3 : Cond.initialized "java/lang/Math" ∈ xTB) (hw4 : Cond.code Lib.Math.min.name Lib.Math.min.code 2 (some .int) ∈ xTB) : xSound PX G cc own ini pc (x_math xfmin (pc + 3)) := by
  intro call d hc L S w pc' L' S' w' h
  obtain ⟨b2, a2, S0, rfl, hcat, hr⟩ := x_math_eq h
  cases hr
  refine ⟨xLe_rf, ?_⟩
  intro p l e R s m args below meth c Q nL D tys sz b c0 s0 C1 hG hf hlo h1 h2 ls st H locs cells slots hM hL hS kk
  obtain ⟨u, st', rfl, ⟨y, rfl, hy⟩, u2, st2, rfl, ⟨x, rfl, hx⟩, hS⟩ := hS
  have hcs := xcat_ok hS
  obtain ⟨-, -, -, hM3, hM4, -⟩ := id hM
  exact va_mmin C1.1 C1.2.1 (by rw [C1.2.2.1]; obtain ⟨-, lv, g, -⟩ := hL; exact g.1.symm) C1.2.2.2.1 (C1.2.2.2.2.1 _ hw1) (C1.2.2.2.2.1 _ hw2) (C1.2.2.2.2.1 _ hw3) (C1.2.2.2.2.1 _ hw4) (by omega) (by omega) (by omega) (by omega) hd (kk _ _ _ _ _ _ hM hL ⟨_, _, rfl, ⟨_, rfl, xbin_ok hx hy (xo_min x y)⟩, hS⟩)
end XM
