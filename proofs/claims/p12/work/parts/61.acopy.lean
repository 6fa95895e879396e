/-- a whole hidden array over another of the same table -/
noncomputable def a_copy (g : zG) (T : aT) (n : Nat) : aF := fun A => match A.2.2.2.1 with
  | .inl k :: .inl dp :: .inr (.inl q) :: .inl sp :: .inr (.inl q0) :: S => (match g.2.1 (akd g q0) with
    | .inr (t0, n0) => (match g.2.1 (akd g q) with
      | .inr (t, len) => bif Nat.beq t0 0 && (Nat.beq t 0 && (Nat.ble (acat S) 8 && (aNeq sp (0, 0) && (aNeq dp (0, 0) && (aNeq k (0, (len : Int)) && (Nat.ble len n0 && (Nat.blt len 2147483648 && (!g.2.2.2.2.2 (akd g q) && (!g.2.2.2.2.2 (akd g q0) && Nat.beq (T.1 (akd g q0)) (T.1 (akd g q))))))))))) then some [(n, A.1, A.2.1, A.2.2.1, S, A.2.2.2.2)] else none
      | .inl _ => none)
    | .inl _ => none)
  | _ => none
section A12
variable {g : zG} {T : aT} {Inv : zI → Prop} {fl : Bool × Bool}
theorem as_copy (hT : aTie g T) {n : Nat} : aSnd g T Inv fl (z_copy g n) (a_copy g T n) := by
  intro I0 A outs h ρ L S I B h0 hA K hK
  unfold a_copy at h
  split at h
  · rename_i k dp q sp q0 S1 hS1
    have hS := hA.2.2.2.1
    rw [hS1] at hS
    obtain ⟨z1, S1', rfl, ⟨-, xk, rfl, hk⟩, z2, S2, rfl, ⟨-, xd, rfl, hd⟩, z3, S3, rfl, h3, z4, S4, rfl, ⟨-, xs, rfl, hs⟩, z5, S5, rfl, h5, h6⟩ := hS
    obtain ⟨r, rfl, hr⟩ := akd_ok h3
    obtain ⟨r0, rfl, hr0⟩ := akd_ok h5
    split at h
    · rename_i t0 n0 hd0
      split at h
      · rename_i t len hd1
        cases hc : Nat.beq t0 0 && (Nat.beq t 0 && (Nat.ble (acat S1) 8 && (aNeq sp (0, 0) && (aNeq dp (0, 0) && (aNeq k (0, (len : Int)) && (Nat.ble len n0 && (Nat.blt len 2147483648 && (!g.2.2.2.2.2 (akd g q) && (!g.2.2.2.2.2 (akd g q0) && Nat.beq (T.1 (akd g q0)) (T.1 (akd g q))))))))))) with
        | false => rw [hc] at h; cases h
        | true =>
          rw [hc] at h
          cases h
          simp only [Bool.and_eq_true] at hc
          obtain ⟨c1, c2, c3, c4, c5, c6, c7, c8, c9, c10, c11⟩ := hc
          have e4 := aNeq_ok c4
          have e5 := aNeq_ok c5
          have e6 := aNeq_ok c6
          subst e4
          subst e5
          subst e6
          have hz := hA.1.1
          have z0 : (0 : Int32).toInt = 0 := by decide
          have hs : xs.toInt = ρ 0 + 0 := hs
          have hd : xd.toInt = ρ 0 + 0 := hd
          have hk : xk.toInt = ρ 0 + (len : Int) := hk
          have v1 : g.2.2.2.2.2 (akd g q) = false := by simpa using c9
          have v0 : g.2.2.2.2.2 (akd g q0) = false := by simpa using c10
          have ht := Nat.eq_of_beq_eq_true c11
          unfold z_copy
          simp only [hr, hr0, hd0, hd1]
          refine ⟨Nat.eq_of_beq_eq_true c1, Nat.eq_of_beq_eq_true c2, by rw [acat_ok h6]; exact xble c3, Int32.toInt_inj.mp (by omega), Int32.toInt_inj.mp (by omega), an_of (by omega), xble c7, by rw [v1, v0], fun _ j v hj hv => ?_, ?_⟩
          · refine (hT.1 _ _ _).mpr ?_
            rw [← ht]
            exact (hT.1 _ _ _).mp hv
          · rw [zcp_no v1]
            exact hK n _ List.mem_cons_self ρ _ _ _ _ aAg_rf (Nat.le_refl _) (aG_stk hA h6)
      · cases h
    · cases h
  · cases h
end A12
