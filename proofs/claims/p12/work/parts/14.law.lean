noncomputable def x_slen (sl n : Nat) : xF := fun _ L S w => match S with
  | .inr (.inr 0) :: S => some (n, L, .inl (sl + 2147483648, sl + 2147483648) :: S, w)
  | _ => none
noncomputable def x_sld (sl : Nat) (sb : List (Nat × Nat)) (n : Nat) : xF := fun _ L S w => match S with
  | .inl i :: .inr (.inr 0) :: S => (match xix i sl with
    | some j => (match xget sb j with
      | some q => some (n, L, .inl q :: S, w)
      | none => none)
    | none => none)
  | _ => none
def xG (sl : Nat) (xs : Nat → Int32) (sb : List (Nat × Nat)) : State → Nat → Nat → Prop := fun s sz b => va_X b sl xs s s.heap ∧ b < s.heap.size ∧ ¬ sz ≤ b ∧ sl < 2147483648 ∧ ∀ (j : Nat) (q : Nat × Nat), xget sb j = some q → xRI q (xs j)
section XL
variable {PX : xPX} {cc : ByteArray} {own : String} {ini : Bool} {pc sl : Nat} {xs : Nat → Int32} {sb : List (Nat × Nat)}
theorem s_slen (hd : decode cc pc = .ok (.arraylength, 1)) : xSound PX (xG sl xs sb) cc own ini pc (x_slen sl (pc + 1)) := by
  intro call d hc L S w pc' L' S' w' h
  unfold x_slen at h
  split at h
  · cases h
    refine ⟨xLe_rf, ?_⟩
    intro p l e R s m args below meth c Q nL D tys sz b c0 s0 C1 hG hf hlo h1 h2 ls st H locs cells slots hM hL hS kk
    obtain ⟨u2, st2, rfl, hu, hS⟩ := hS
    cases hu
    obtain ⟨hX, hbl, hbA, hsl, hbx⟩ := hG
    obtain ⟨-, hz, hS0, -⟩ := id hM
    refine va_slen C1.1 C1.2.1 hX hbl hbA hS0 hd (kk _ _ _ _ _ _ hM hL ⟨_, _, rfl, ⟨_, rfl, ?_⟩, hS⟩)
    rw [← xo_nat hsl]
    exact xRI_c _
  · cases h
theorem s_sld (hd : decode cc pc = .ok (.iaload, 1)) : xSound PX (xG sl xs sb) cc own ini pc (x_sld sl sb (pc + 1)) := by
  intro call d hc L S w pc' L' S' w' h
  unfold x_sld at h
  split at h
  · rename_i i S0
    cases hj : xix i sl with
    | none => simp only [hj] at h; cases h
    | some j =>
      simp only [hj] at h
      cases hq : xget sb j with
      | none => simp only [hq] at h; cases h
      | some q =>
        simp only [hq] at h
        cases h
        refine ⟨xLe_rf, ?_⟩
        intro p l e R s m args below meth c Q nL D tys sz b c0 s0 C1 hG hf hlo h1 h2 ls st H locs cells slots hM hL hS kk
        obtain ⟨x, st', rfl, ⟨x, rfl, hx⟩, u2, st2, rfl, hu, hS⟩ := hS
        cases hu
        obtain ⟨hX, hbl, hbA, hsl, hbx⟩ := hG
        obtain ⟨-, hz, hS0, -⟩ := id hM
        obtain ⟨hin, hcl, hjl⟩ := xix_eq hj hx
        exact va_sld C1.1 C1.2.1 hX hbl hbA hS0 hin hd (kk _ _ _ _ _ _ hM hL ⟨_, _, rfl, ⟨_, rfl, by rw [hcl]; exact hbx j q hq⟩, hS⟩)
  · cases h
end XL
theorem dL_0 : decode code 0 = .ok (.new 7, 3) := by decide +kernel
theorem dL_3 : decode code 3 = .ok (.dup, 1) := by decide +kernel
theorem dL_4 : decode code 4 = .ok (.invokespecial 9, 3) := by decide +kernel
theorem dL_7 : decode code 7 = .ok (.astore_n 1, 1) := by decide +kernel
theorem dL_8 : decode code 8 = .ok (.new 10, 3) := by decide +kernel
theorem dL_11 : decode code 11 = .ok (.dup, 1) := by decide +kernel
theorem dL_12 : decode code 12 = .ok (.invokespecial 12, 3) := by decide +kernel
theorem dL_15 : decode code 15 = .ok (.astore_n 2, 1) := by decide +kernel
theorem dL_16 : decode code 16 = .ok (.iconst 0, 1) := by decide +kernel
theorem dL_17 : decode code 17 = .ok (.istore_n 3, 1) := by decide +kernel
noncomputable def TI : Nat → Option xF := bn 11 (bn 4 (bn 3 (bl 0 (x_new 11 16 [.inr (.inl none), .inr (.inl none), .inr (.inl none), .inr (.inl none), .inr (.inl none), .inr (.inl none), .inl (2147483648, 2147483648), .inr (.inl none), .inr (.inl none), .inl (2147483648, 2147483648), .inr (.inl none), .inr (.inl none), .inr (.inl none), .inr (.inl none), .inr (.inl none), .inr (.inl none)] 3)) (bl 3 (x_dup 4))) (bn 7 (bl 4 (y_invV 11 14 1 7)) (bn 8 (bl 7 (x_astore 1 8)) (bl 8 (x_new 12 70 [.inr (.inl none), .inr (.inl none), .inl (2147483648, 2147483648), .inr (.inl none), .inr (.inl none), .inr (.inl none), .inl (2147483648, 2147483648), .inl (2147483648, 2147483648), .inl (2147483648, 2147483648), .inr (.inl none), .inl (2147483648, 2147483648), .inr (.inl none), .inl (2147483648, 2147483648), .inr (.inl none), .inr (.inl none), .inr (.inl none), .inl (2147483648, 2147483648), .inr (.inl none), .inl (2147483648, 2147483648), .inr (.inl none), .inr (.inl none), .inr (.inl none), .inr (.inl none), .inr (.inl none), .inl (2147483648, 2147483648), .inl (2147483648, 2147483648), .inl (2147483648, 2147483648), .inl (2147483648, 2147483648), .inl (2147483648, 2147483648), .inl (2147483648, 2147483648), .inl (2147483648, 2147483648), .inl (2147483648, 2147483648), .inl (2147483648, 2147483648), .inl (2147483648, 2147483648), .inr (.inl none), .inr (.inl none), .inr (.inl none), .inr (.inl none), .inr (.inl none), .inr (.inl none), .inr (.inl none), .inr (.inl none), .inr (.inl none), .inl (2147483648, 2147483648), .inr (.inl none), .inr (.inl none), .inr (.inl none), .inr (.inl none), .inr (.inl none), .inl (2147483648, 2147483648), .inr (.inl none), .inr (.inl none), .inr (.inl none), .inl (2147483648, 2147483648), .inr (.inl none), .inl (2147483648, 2147483648), .inr (.inl none), .inr (.inl none), .inl (2147483648, 2147483648), .inl (2147483648, 2147483648), .inr (.inl none), .inr (.inl none), .inl (2147483648, 2147483648), .inl (2147483648, 2147483648), .inl (2147483648, 2147483648), .inr (.inl none), .inr (.inl none), .inr (.inl none), .inr (.inl none), .inr (.inl none)] 11))))) (bn 15 (bn 12 (bl 11 (x_dup 12)) (bl 12 (y_invV 12 15 1 15))) (bn 16 (bl 15 (x_astore 2 16)) (bn 17 (bl 16 (x_const 2147483648 17)) (bl 17 (y_istore 3 18)))))
set_option maxRecDepth 100000 in
set_option maxHeartbeats 4000000 in
theorem TI_ok (G : State → Nat → Nat → Prop) : xTree PX G code "CapitalCaseLaw" false TI := (xT_n (xT_n (xT_n (xT_l (s_new (T := TX11) (ty := tyX11) dL_0 rfl inX11 tyX11_ok (by decide) (by decide) wd_133 wd_134 wd_111)) (xT_l (s_dup dL_3))) (xT_n (xT_l (yS (y_invV_eq _ _ _ _) (s_invI dL_4 cal_14 wd_135 wd_136 rfl))) (xT_n (xT_l (s_astore_n dL_7)) (xT_l (s_new (T := TX12) (ty := tyX12) dL_8 rfl inX12 tyX12_ok (by decide) (by decide) wd_1257 wd_1258 wd_124))))) (xT_n (xT_n (xT_l (s_dup dL_11)) (xT_l (yS (y_invV_eq _ _ _ _) (s_invI dL_12 cal_15 wd_1259 wd_1260 rfl)))) (xT_n (xT_l (s_astore_n dL_15)) (xT_n (xT_l (s_iconst dL_16 (by decide +kernel))) (xT_l (yS (y_istore_eq _ _) (s_istore_n dL_17)))))))
