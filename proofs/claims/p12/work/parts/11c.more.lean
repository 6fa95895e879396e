/-- a local that may be null -/
noncomputable def x_aloadz (i n : Nat) : xF := fun _ L S w => match xget L i with
  | some (some (.inr (.inl r))) => some (n, L, .inr (.inl r) :: S, w)
  | _ => none
section XZ
variable {PX : xPX} {G : State → Nat → Nat → Prop} {cc : ByteArray} {own : String} {ini : Bool} {pc : Nat}
theorem s_aloadz_n {k : Fin 4} (hd : decode cc pc = .ok (.aload_n k, 1)) : xSound PX G cc own ini pc (x_aloadz k (pc + 1)) := by
  intro call d hc L S w pc' L' S' w' h
  unfold x_aloadz at h
  split at h
  · rename_i r ha
    cases h
    refine ⟨xLe_rf, ?_⟩
    intro p l e R s m args below meth c Q nL D tys sz b c0 s0 C hG hf hlo h1 h2 ls st H locs cells slots hM hL hS kk
    obtain ⟨u, hu, hv⟩ := xRL_at hL ha
    cases r with
    | none =>
      cases hv
      exact lv_aload_nN C.1 C.2.1 hd rfl hu (kk _ _ _ _ _ _ hM hL ⟨_, _, rfl, rfl, hS⟩)
    | some k2 =>
      cases hv
      exact lv_aload_n C.1 C.2.1 hd rfl hu (kk _ _ _ _ _ _ hM hL ⟨_, _, rfl, rfl, hS⟩)
  · cases h
end XZ
