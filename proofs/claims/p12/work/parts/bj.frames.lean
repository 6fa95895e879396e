/-! ===== WHAT THE CALLS LEAVE ALONE ===== -/
def fA0 : List Nat := [1, 76]
def fF0 : List (Nat × Nat × Int) := [(0, 11, 6), (75, 12, 12)]
theorem fPF0 : fPF fF0 := by
  intro p hp
  rcases List.mem_cons.mp hp with rfl | hp
  · exact ⟨by decide, by decide, _, rfl⟩
  · rcases List.mem_cons.mp hp with rfl | hp
    · exact ⟨by decide, by decide, _, rfl⟩
    · cases hp
theorem fR0_i {μ ν : xM} {c j : Nat} {v : Int32} (h : fRm fA0 fF0 μ ν) (hc : c ≠ 1 ∧ c ≠ 76 ∧ ¬ (c = 0 ∧ j = 6) ∧ ¬ (c = 75 ∧ j = 12)) : fRm fA0 fF0 μ (xpi ν c j v) := fun h0 => by
  obtain ⟨h1, h2, h3, h4⟩ := h h0
  refine ⟨h1, fun k hk hk2 i => ?_, h3, fun p hp => ?_⟩
  · rw [← h2 k hk hk2 i]
    refine xpi_ne (fun q => ?_)
    rcases List.mem_cons.mp hk with rfl | hk
    · exact hc.1 q.1.symm
    · rcases List.mem_cons.mp hk with rfl | hk
      · exact hc.2.1 q.1.symm
      · cases hk
  · rw [← h4 p hp]
    refine xpi_ne (fun q => ?_)
    rcases List.mem_cons.mp hp with rfl | hp
    · exact hc.2.2.1 ⟨q.1.symm, q.2.symm⟩
    · rcases List.mem_cons.mp hp with rfl | hp
      · exact hc.2.2.2 ⟨q.1.symm, q.2.symm⟩
      · cases hp
theorem fR0_r {μ ν : xM} {c j : Nat} {v : Option Nat} (h : fRm fA0 fF0 μ ν) : fRm fA0 fF0 μ (xpr ν c j v) := h
theorem fR0_n {μ ν : xM} (h : fRm fA0 fF0 μ ν) : fRm fA0 fF0 μ (xnew ν) := fun h0 => by
  obtain ⟨h1, h2, h3, h4⟩ := h h0
  have e : ∀ k j, k < 119 → (xnew ν).1 k j = ν.1 k j := fun k j hk => by
    show (if ν.2.2.2 ≤ k then 0 else ν.1 k j) = _
    rw [if_neg (by omega)]
  exact ⟨by show 119 ≤ ν.2.2.2 + 6; omega, fun k hk hk2 i => (e k i (by omega)).trans (h2 k hk hk2 i), h3, fun p hp => (e _ _ (by have := (fPF0 p hp).1; omega)).trans (h4 p hp)⟩
section TXN
variable {q : xP} {n pc : Nat} {L : zL} {S : List zV} {μ μ' : xM} {r : Option zV}
theorem tx_new {x : Nat} (h : eT q n pc L S μ r μ') (hd : decode q.2.1 pc = .ok (.new x, 3)) : eT q n (pc + 7) L (.inr (.inl (some μ.2.2.2)) :: S) (xnew μ) r μ' := by
  obtain ⟨L0, b, hf, hi, h⟩ := tx h hd rfl
  cases hi
  exact eT_fg hf h
end TXN
def fL1 (mn : Nat) : Bool := Nat.testBit 205688069665150778506747644688578126603060423305479022010433536 mn
def fL2 (mn : Nat) : Bool := Nat.testBit 28269361605035968751591020445309491409627363639643159098193830411285561343 mn
theorem fC1_49 : fChk xTf_9 fF0 fL1 prog_10_method_3_code [0, 1, 4, 5, 6, 9, 10, 12, 15, 16, 19, 20, 21, 24, 25, 27, 30, 31, 34, 35, 36, 39, 40, 42, 45, 46, 49, 50, 51, 54, 55, 58, 61, 62, 65, 66, 67, 70, 71, 73, 76, 77, 78, 81, 84, 85, 86, 89, 92, 93, 94, 97, 100, 101, 102, 105, 108, 109, 110, 113, 116, 117] = true := by decide +kernel
theorem fC1_50 : fChk xTf_9 fF0 fL1 prog_10_method_2_code [0, 1, 4, 5, 6, 9, 10, 12, 15, 16, 19, 20, 23, 24, 27, 28, 31, 32, 35, 36, 39, 40, 41, 44, 45, 46, 49, 50, 51, 54, 55, 56, 59, 60, 61, 64, 65] = true := by decide +kernel
theorem fC1_145 : fChk xTf_12 fF0 fL1 prog_14_method_41_code [0, 1, 2, 5, 6, 9, 10, 11, 14, 15, 18, 19, 20] = true := by decide +kernel
theorem fC1_148 : fChk xTf_12 fF0 fL1 prog_14_method_40_code [0, 1, 2, 5, 6, 7, 10, 11, 14, 15, 16] = true := by decide +kernel
theorem fC1_154 : fChk xTf_12 fF0 fL1 prog_14_method_44_code [0, 1, 2, 4, 7, 8] = true := by decide +kernel
theorem fC1_207 : fChk xTf_14 fF0 fL1 prog_22_method_103_code [0, 1, 2, 3, 4, 5, 6, 7, 10, 11, 12, 13, 14, 17, 20, 21] = true := by decide +kernel
theorem fH1 : ∀ (mn : Nat) (q : xP), xMB mn = some q → fL1 mn = true → fGd fA0 fF0 fL1 q := (xB_n (xB_n (xB_n (xB_n (xB_n (xB_n (xB_n (xB_l (fun h => absurd h (by decide +kernel))) (xB_n (xB_l (fun h => absurd h (by decide +kernel))) (xB_l (fun h => absurd h (by decide +kernel))))) (xB_n (xB_n (xB_l (fun h => absurd h (by decide +kernel))) (xB_l (fun h => absurd h (by decide +kernel)))) (xB_n (xB_l (fun h => absurd h (by decide +kernel))) (xB_l (fun h => absurd h (by decide +kernel)))))) (xB_n (xB_n (xB_n (xB_l (fun h => absurd h (by decide +kernel))) (xB_l (fun h => absurd h (by decide +kernel)))) (xB_n (xB_l (fun h => absurd h (by decide +kernel))) (xB_l (fun h => absurd h (by decide +kernel))))) (xB_n (xB_n (xB_l (fun h => absurd h (by decide +kernel))) (xB_l (fun h => absurd h (by decide +kernel)))) (xB_n (xB_l (fun h => absurd h (by decide +kernel))) (xB_l (fun h => absurd h (by decide +kernel))))))) (xB_n (xB_n (xB_n (xB_l (fun h => absurd h (by decide +kernel))) (xB_n (xB_l (fun h => absurd h (by decide +kernel))) (xB_l (fun h => absurd h (by decide +kernel))))) (xB_n (xB_n (xB_l (fun h => absurd h (by decide +kernel))) (xB_l (fun h => absurd h (by decide +kernel)))) (xB_n (xB_l (fun h => absurd h (by decide +kernel))) (xB_l (fun h => absurd h (by decide +kernel)))))) (xB_n (xB_n (xB_n (xB_l (fun h => absurd h (by decide +kernel))) (xB_l (fun h => absurd h (by decide +kernel)))) (xB_n (xB_l (fun h => absurd h (by decide +kernel))) (xB_l (fun h => absurd h (by decide +kernel))))) (xB_n (xB_n (xB_l (fun h => absurd h (by decide +kernel))) (xB_l (fun h => absurd h (by decide +kernel)))) (xB_n (xB_l (fun h => absurd h (by decide +kernel))) (xB_l (fun h => absurd h (by decide +kernel)))))))) (xB_n (xB_n (xB_n (xB_n (xB_l (fun h => absurd h (by decide +kernel))) (xB_n (xB_l (fun h => absurd h (by decide +kernel))) (xB_l (fun h => absurd h (by decide +kernel))))) (xB_n (xB_n (xB_l (fun h => absurd h (by decide +kernel))) (xB_l (fun h => absurd h (by decide +kernel)))) (xB_n (xB_l (fun h => absurd h (by decide +kernel))) (xB_l (fun h => absurd h (by decide +kernel)))))) (xB_n (xB_n (xB_n (xB_l (fun h => absurd h (by decide +kernel))) (xB_l (fun h => absurd h (by decide +kernel)))) (xB_n (xB_l (fun h => absurd h (by decide +kernel))) (xB_l (fun h => absurd h (by decide +kernel))))) (xB_n (xB_n (xB_l (fun h => absurd h (by decide +kernel))) (xB_l (fun h => absurd h (by decide +kernel)))) (xB_n (xB_l (fun h => absurd h (by decide +kernel))) (xB_l (fun h => absurd h (by decide +kernel))))))) (xB_n (xB_n (xB_n (xB_n (xB_l (fun h => absurd h (by decide +kernel))) (xB_l (fun h => absurd h (by decide +kernel)))) (xB_n (xB_l (fun h => absurd h (by decide +kernel))) (xB_l (fun h => absurd h (by decide +kernel))))) (xB_n (xB_n (xB_l (fun _ => Or.inl ⟨_, _, xo_9, fC1_49⟩)) (xB_l (fun _ => Or.inl ⟨_, _, xo_9, fC1_50⟩))) (xB_n (xB_l (fun h => absurd h (by decide +kernel))) (xB_l (fun h => absurd h (by decide +kernel)))))) (xB_n (xB_n (xB_n (xB_l (fun h => absurd h (by decide +kernel))) (xB_l (fun h => absurd h (by decide +kernel)))) (xB_n (xB_l (fun h => absurd h (by decide +kernel))) (xB_l (fun h => absurd h (by decide +kernel))))) (xB_n (xB_n (xB_l (fun h => absurd h (by decide +kernel))) (xB_l (fun h => absurd h (by decide +kernel)))) (xB_n (xB_l (fun h => absurd h (by decide +kernel))) (xB_l (fun h => absurd h (by decide +kernel))))))))) (xB_n (xB_n (xB_n (xB_n (xB_n (xB_l (fun h => absurd h (by decide +kernel))) (xB_n (xB_l (fun h => absurd h (by decide +kernel))) (xB_l (fun h => absurd h (by decide +kernel))))) (xB_n (xB_n (xB_l (fun h => absurd h (by decide +kernel))) (xB_l (fun h => absurd h (by decide +kernel)))) (xB_n (xB_l (fun h => absurd h (by decide +kernel))) (xB_l (fun h => absurd h (by decide +kernel)))))) (xB_n (xB_n (xB_n (xB_l (fun h => absurd h (by decide +kernel))) (xB_l (fun h => absurd h (by decide +kernel)))) (xB_n (xB_l (fun h => absurd h (by decide +kernel))) (xB_l (fun h => absurd h (by decide +kernel))))) (xB_n (xB_n (xB_l (fun h => absurd h (by decide +kernel))) (xB_l (fun h => absurd h (by decide +kernel)))) (xB_n (xB_l (fun h => absurd h (by decide +kernel))) (xB_l (fun h => absurd h (by decide +kernel))))))) (xB_n (xB_n (xB_n (xB_l (fun h => absurd h (by decide +kernel))) (xB_n (xB_l (fun h => absurd h (by decide +kernel))) (xB_l (fun h => absurd h (by decide +kernel))))) (xB_n (xB_n (xB_l (fun h => absurd h (by decide +kernel))) (xB_l (fun h => absurd h (by decide +kernel)))) (xB_n (xB_l (fun h => absurd h (by decide +kernel))) (xB_l (fun h => absurd h (by decide +kernel)))))) (xB_n (xB_n (xB_n (xB_l (fun h => absurd h (by decide +kernel))) (xB_l (fun h => absurd h (by decide +kernel)))) (xB_n (xB_l (fun h => absurd h (by decide +kernel))) (xB_l (fun h => absurd h (by decide +kernel))))) (xB_n (xB_n (xB_l (fun h => absurd h (by decide +kernel))) (xB_l (fun h => absurd h (by decide +kernel)))) (xB_n (xB_l (fun h => absurd h (by decide +kernel))) (xB_l (fun h => absurd h (by decide +kernel)))))))) (xB_n (xB_n (xB_n (xB_n (xB_l (fun h => absurd h (by decide +kernel))) (xB_n (xB_l (fun h => absurd h (by decide +kernel))) (xB_l (fun h => absurd h (by decide +kernel))))) (xB_n (xB_n (xB_l (fun h => absurd h (by decide +kernel))) (xB_l (fun h => absurd h (by decide +kernel)))) (xB_n (xB_l (fun h => absurd h (by decide +kernel))) (xB_l (fun h => absurd h (by decide +kernel)))))) (xB_n (xB_n (xB_n (xB_l (fun h => absurd h (by decide +kernel))) (xB_l (fun h => absurd h (by decide +kernel)))) (xB_n (xB_l (fun h => absurd h (by decide +kernel))) (xB_l (fun h => absurd h (by decide +kernel))))) (xB_n (xB_n (xB_l (fun h => absurd h (by decide +kernel))) (xB_l (fun h => absurd h (by decide +kernel)))) (xB_n (xB_l (fun h => absurd h (by decide +kernel))) (xB_l (fun h => absurd h (by decide +kernel))))))) (xB_n (xB_n (xB_n (xB_n (xB_l (fun h => absurd h (by decide +kernel))) (xB_l (fun h => absurd h (by decide +kernel)))) (xB_n (xB_l (fun h => absurd h (by decide +kernel))) (xB_l (fun h => absurd h (by decide +kernel))))) (xB_n (xB_n (xB_l (fun h => absurd h (by decide +kernel))) (xB_l (fun h => absurd h (by decide +kernel)))) (xB_n (xB_l (fun h => absurd h (by decide +kernel))) (xB_l (fun h => absurd h (by decide +kernel)))))) (xB_n (xB_n (xB_n (xB_l (fun h => absurd h (by decide +kernel))) (xB_l (fun h => absurd h (by decide +kernel)))) (xB_n (xB_l (fun h => absurd h (by decide +kernel))) (xB_l (fun h => absurd h (by decide +kernel))))) (xB_n (xB_n (xB_l (fun h => absurd h (by decide +kernel))) (xB_l (fun h => absurd h (by decide +kernel)))) (xB_n (xB_l (fun h => absurd h (by decide +kernel))) (xB_l (fun h => absurd h (by decide +kernel)))))))))) (xB_n (xB_n (xB_n (xB_n (xB_n (xB_n (xB_l (fun h => absurd h (by decide +kernel))) (xB_n (xB_l (fun h => absurd h (by decide +kernel))) (xB_l (fun h => absurd h (by decide +kernel))))) (xB_n (xB_n (xB_l (fun h => absurd h (by decide +kernel))) (xB_l (fun h => absurd h (by decide +kernel)))) (xB_n (xB_l (fun h => absurd h (by decide +kernel))) (xB_l (fun h => absurd h (by decide +kernel)))))) (xB_n (xB_n (xB_n (xB_l (fun h => absurd h (by decide +kernel))) (xB_l (fun h => absurd h (by decide +kernel)))) (xB_n (xB_l (fun h => absurd h (by decide +kernel))) (xB_l (fun h => absurd h (by decide +kernel))))) (xB_n (xB_n (xB_l (fun h => absurd h (by decide +kernel))) (xB_l (fun h => absurd h (by decide +kernel)))) (xB_n (xB_l (fun h => absurd h (by decide +kernel))) (xB_l (fun h => absurd h (by decide +kernel))))))) (xB_n (xB_n (xB_n (xB_l (fun h => absurd h (by decide +kernel))) (xB_n (xB_l (fun h => absurd h (by decide +kernel))) (xB_l (fun h => absurd h (by decide +kernel))))) (xB_n (xB_n (xB_l (fun h => absurd h (by decide +kernel))) (xB_l (fun h => absurd h (by decide +kernel)))) (xB_n (xB_l (fun h => absurd h (by decide +kernel))) (xB_l (fun h => absurd h (by decide +kernel)))))) (xB_n (xB_n (xB_n (xB_l (fun h => absurd h (by decide +kernel))) (xB_l (fun _ => Or.inl ⟨_, _, xo_12, fC1_145⟩))) (xB_n (xB_l (fun h => absurd h (by decide +kernel))) (xB_l (fun h => absurd h (by decide +kernel))))) (xB_n (xB_n (xB_l (fun _ => Or.inl ⟨_, _, xo_12, fC1_148⟩)) (xB_l (fun h => absurd h (by decide +kernel)))) (xB_n (xB_l (fun h => absurd h (by decide +kernel))) (xB_l (fun h => absurd h (by decide +kernel)))))))) (xB_n (xB_n (xB_n (xB_n (xB_l (fun h => absurd h (by decide +kernel))) (xB_n (xB_l (fun h => absurd h (by decide +kernel))) (xB_l (fun _ => Or.inl ⟨_, _, xo_12, fC1_154⟩)))) (xB_n (xB_n (xB_l (fun h => absurd h (by decide +kernel))) (xB_l (fun h => absurd h (by decide +kernel)))) (xB_n (xB_l (fun h => absurd h (by decide +kernel))) (xB_l (fun h => absurd h (by decide +kernel)))))) (xB_n (xB_n (xB_n (xB_l (fun h => absurd h (by decide +kernel))) (xB_l (fun h => absurd h (by decide +kernel)))) (xB_n (xB_l (fun h => absurd h (by decide +kernel))) (xB_l (fun h => absurd h (by decide +kernel))))) (xB_n (xB_n (xB_l (fun h => absurd h (by decide +kernel))) (xB_l (fun h => absurd h (by decide +kernel)))) (xB_n (xB_l (fun h => absurd h (by decide +kernel))) (xB_l (fun h => absurd h (by decide +kernel))))))) (xB_n (xB_n (xB_n (xB_n (xB_l (fun h => absurd h (by decide +kernel))) (xB_l (fun h => absurd h (by decide +kernel)))) (xB_n (xB_l (fun h => absurd h (by decide +kernel))) (xB_l (fun h => absurd h (by decide +kernel))))) (xB_n (xB_n (xB_l (fun h => absurd h (by decide +kernel))) (xB_l (fun h => absurd h (by decide +kernel)))) (xB_n (xB_l (fun h => absurd h (by decide +kernel))) (xB_l (fun h => absurd h (by decide +kernel)))))) (xB_n (xB_n (xB_n (xB_l (fun h => absurd h (by decide +kernel))) (xB_l (fun h => absurd h (by decide +kernel)))) (xB_n (xB_l (fun h => absurd h (by decide +kernel))) (xB_l (fun h => absurd h (by decide +kernel))))) (xB_n (xB_n (xB_l (fun h => absurd h (by decide +kernel))) (xB_l (fun h => absurd h (by decide +kernel)))) (xB_n (xB_l (fun h => absurd h (by decide +kernel))) (xB_l (fun h => absurd h (by decide +kernel))))))))) (xB_n (xB_n (xB_n (xB_n (xB_n (xB_l (fun h => absurd h (by decide +kernel))) (xB_n (xB_l (fun h => absurd h (by decide +kernel))) (xB_l (fun h => absurd h (by decide +kernel))))) (xB_n (xB_n (xB_l (fun h => absurd h (by decide +kernel))) (xB_l (fun h => absurd h (by decide +kernel)))) (xB_n (xB_l (fun h => absurd h (by decide +kernel))) (xB_l (fun h => absurd h (by decide +kernel)))))) (xB_n (xB_n (xB_n (xB_l (fun h => absurd h (by decide +kernel))) (xB_l (fun h => absurd h (by decide +kernel)))) (xB_n (xB_l (fun h => absurd h (by decide +kernel))) (xB_l (fun h => absurd h (by decide +kernel))))) (xB_n (xB_n (xB_l (fun h => absurd h (by decide +kernel))) (xB_l (fun h => absurd h (by decide +kernel)))) (xB_n (xB_l (fun h => absurd h (by decide +kernel))) (xB_l (fun h => absurd h (by decide +kernel))))))) (xB_n (xB_n (xB_n (xB_l (fun h => absurd h (by decide +kernel))) (xB_n (xB_l (fun h => absurd h (by decide +kernel))) (xB_l (fun h => absurd h (by decide +kernel))))) (xB_n (xB_n (xB_l (fun h => absurd h (by decide +kernel))) (xB_l (fun h => absurd h (by decide +kernel)))) (xB_n (xB_l (fun h => absurd h (by decide +kernel))) (xB_l (fun h => absurd h (by decide +kernel)))))) (xB_n (xB_n (xB_n (xB_l (fun h => absurd h (by decide +kernel))) (xB_l (fun h => absurd h (by decide +kernel)))) (xB_n (xB_l (fun _ => Or.inl ⟨_, _, xo_14, fC1_207⟩)) (xB_l (fun h => absurd h (by decide +kernel))))) (xB_n (xB_n (xB_l (fun h => absurd h (by decide +kernel))) (xB_l (fun h => absurd h (by decide +kernel)))) (xB_n (xB_l (fun h => absurd h (by decide +kernel))) (xB_l (fun h => absurd h (by decide +kernel)))))))) (xB_n (xB_n (xB_n (xB_n (xB_l (fun h => absurd h (by decide +kernel))) (xB_n (xB_l (fun h => absurd h (by decide +kernel))) (xB_l (fun h => absurd h (by decide +kernel))))) (xB_n (xB_n (xB_l (fun h => absurd h (by decide +kernel))) (xB_l (fun h => absurd h (by decide +kernel)))) (xB_n (xB_l (fun h => absurd h (by decide +kernel))) (xB_l (fun h => absurd h (by decide +kernel)))))) (xB_n (xB_n (xB_n (xB_l (fun h => absurd h (by decide +kernel))) (xB_l (fun h => absurd h (by decide +kernel)))) (xB_n (xB_l (fun h => absurd h (by decide +kernel))) (xB_l (fun h => absurd h (by decide +kernel))))) (xB_n (xB_n (xB_l (fun h => absurd h (by decide +kernel))) (xB_l (fun h => absurd h (by decide +kernel)))) (xB_n (xB_l (fun h => absurd h (by decide +kernel))) (xB_l (fun h => absurd h (by decide +kernel))))))) (xB_n (xB_n (xB_n (xB_n (xB_l (fun h => absurd h (by decide +kernel))) (xB_l (fun h => absurd h (by decide +kernel)))) (xB_n (xB_l (fun h => absurd h (by decide +kernel))) (xB_l (fun h => absurd h (by decide +kernel))))) (xB_n (xB_n (xB_l (fun h => absurd h (by decide +kernel))) (xB_l (fun h => absurd h (by decide +kernel)))) (xB_n (xB_l (fun h => absurd h (by decide +kernel))) (xB_l (fun h => absurd h (by decide +kernel)))))) (xB_n (xB_n (xB_n (xB_l (fun h => absurd h (by decide +kernel))) (xB_l (fun h => absurd h (by decide +kernel)))) (xB_n (xB_l (fun h => absurd h (by decide +kernel))) (xB_l (fun h => absurd h (by decide +kernel))))) (xB_n (xB_n (xB_l (fun h => absurd h (by decide +kernel))) (xB_l (fun h => absurd h (by decide +kernel)))) (xB_n (xB_l (fun h => absurd h (by decide +kernel))) (xB_l (fun h => absurd h (by decide +kernel)))))))))))
theorem fR1 {mn : Nat} {q : xP} (hm : xMB mn = some q) (hl : fL1 mn = true) {as : List zV} {r : Option zV} {μ μ' : xM} (h : Ex gx q as μ r μ') : fRm fA0 fF0 μ μ' := fAll fPF0 (fun mn q h1 h2 => fH1 mn q h2 h1) (fH1 mn q hm hl) h
/-- fields that are rows of truths: (class, place) -/
def fGL : List (Nat × Nat) := [(5, 2), (11, 12), (12, 60), (12, 67), (12, 68)]
def fGD (d : zD) : Bool := match d with
  | .inl (c, fts) => fGL.all (fun p => !(p.1 == c) || (match fts[p.2]? with
    | some (t, m) => t == 2 && !(m == 1) && !(m == 76)
    | none => false))
  | .inr _ => true
theorem fGD0 : ∀ (k : Nat) (d : zD), zdsT k = some d → fGD d = true := (xB_n (xB_n (xB_n (xB_n (xB_n (xB_n (xB_l rfl) (xB_n (xB_l rfl) (xB_l rfl))) (xB_n (xB_l rfl) (xB_n (xB_l rfl) (xB_l rfl)))) (xB_n (xB_n (xB_l rfl) (xB_n (xB_l rfl) (xB_l rfl))) (xB_n (xB_l rfl) (xB_n (xB_l rfl) (xB_l rfl))))) (xB_n (xB_n (xB_n (xB_l rfl) (xB_n (xB_l rfl) (xB_l rfl))) (xB_n (xB_l rfl) (xB_n (xB_l rfl) (xB_l rfl)))) (xB_n (xB_n (xB_l rfl) (xB_n (xB_l rfl) (xB_l rfl))) (xB_n (xB_n (xB_l rfl) (xB_l rfl)) (xB_n (xB_l rfl) (xB_l rfl)))))) (xB_n (xB_n (xB_n (xB_n (xB_l rfl) (xB_n (xB_l rfl) (xB_l rfl))) (xB_n (xB_l rfl) (xB_n (xB_l rfl) (xB_l rfl)))) (xB_n (xB_n (xB_l rfl) (xB_n (xB_l rfl) (xB_l rfl))) (xB_n (xB_l rfl) (xB_n (xB_l rfl) (xB_l rfl))))) (xB_n (xB_n (xB_n (xB_l rfl) (xB_n (xB_l rfl) (xB_l rfl))) (xB_n (xB_l rfl) (xB_n (xB_l rfl) (xB_l rfl)))) (xB_n (xB_n (xB_l rfl) (xB_n (xB_l rfl) (xB_l rfl))) (xB_n (xB_n (xB_l rfl) (xB_l rfl)) (xB_n (xB_l rfl) (xB_l rfl))))))) (xB_n (xB_n (xB_n (xB_n (xB_n (xB_l rfl) (xB_n (xB_l rfl) (xB_l rfl))) (xB_n (xB_l rfl) (xB_n (xB_l rfl) (xB_l rfl)))) (xB_n (xB_n (xB_l rfl) (xB_n (xB_l rfl) (xB_l rfl))) (xB_n (xB_l rfl) (xB_n (xB_l rfl) (xB_l rfl))))) (xB_n (xB_n (xB_n (xB_l rfl) (xB_n (xB_l rfl) (xB_l rfl))) (xB_n (xB_l rfl) (xB_n (xB_l rfl) (xB_l rfl)))) (xB_n (xB_n (xB_l rfl) (xB_n (xB_l rfl) (xB_l rfl))) (xB_n (xB_n (xB_l rfl) (xB_l rfl)) (xB_n (xB_l rfl) (xB_l rfl)))))) (xB_n (xB_n (xB_n (xB_n (xB_l rfl) (xB_n (xB_l rfl) (xB_l rfl))) (xB_n (xB_l rfl) (xB_n (xB_l rfl) (xB_l rfl)))) (xB_n (xB_n (xB_l rfl) (xB_n (xB_l rfl) (xB_l rfl))) (xB_n (xB_l rfl) (xB_n (xB_l rfl) (xB_l rfl))))) (xB_n (xB_n (xB_n (xB_l rfl) (xB_n (xB_l rfl) (xB_l rfl))) (xB_n (xB_l rfl) (xB_n (xB_l rfl) (xB_l rfl)))) (xB_n (xB_n (xB_l rfl) (xB_n (xB_l rfl) (xB_l rfl))) (xB_n (xB_n (xB_l rfl) (xB_l rfl)) (xB_n (xB_l rfl) (xB_l rfl))))))))
theorem fGD1 (k : Nat) : fGD (zds k) = true := by
  unfold zds
  split
  · rename_i d hd
    exact fGD0 k d hd
  · rfl
def fPu (i : Instr) : Bool := match i with
  | .iload _ => true
  | .iload_n _ => true
  | .iconst _ => true
  | .bipush _ => true
  | .aload_n _ => true
  | _ => false
theorem fPu_ok {X : xX} {own : String} {i : Instr} {pc n : Nat} {L : zL} {S : List zV} {μ : xM} {b : eS} (hx : xIns gx X own i pc n L S μ b) (h : fPu i = true) : ∃ v, b.2.2.1 = v :: S := by
  cases i with
  | iload x0 =>
    obtain ⟨v, _, rfl⟩ := hx
    exact ⟨_, rfl⟩
  | iload_n x0 =>
    obtain ⟨v, _, rfl⟩ := hx
    exact ⟨_, rfl⟩
  | aload_n x0 =>
    obtain ⟨v, _, rfl⟩ := hx
    exact ⟨_, rfl⟩
  | iconst x0 =>
    obtain ⟨v, _, rfl⟩ := hx
    exact ⟨_, rfl⟩
  | bipush x0 =>
    obtain ⟨v, _, rfl⟩ := hx
    exact ⟨_, rfl⟩
  | _ => cases h
/-- a row that is none of the tapes -/
def fRw (S : List zV) (d : Nat) : Prop := ∃ m : Nat, S[d]? = some (.inr (.inl (some m))) ∧ m ≠ 1 ∧ m ≠ 76
theorem fGe_ok {X : xX} {own : String} {T : Nat → Nat × Nat × Int} (hT : xTb own = T) {x pc n : Nat} {L : zL} {S : List zV} {μ : xM} {b : eS} (hx : xIns gx X own (.getfield x) pc n L S μ b) : (∀ d, 1 ≤ d → fRw S d → fRw b.2.2.1 d) ∧ (fGL.contains ((T x).2.1, (T x).2.2.toNat) = true → fRw b.2.2.1 0) := by
  subst hT
  obtain ⟨a, c, j, S0, fts, ft, v, rfl, h2, h3, h4, rfl, h5⟩ := hx
  refine ⟨fun d hd h => ?_, fun h => ?_⟩
  · obtain ⟨m, g1, g2⟩ := h
    obtain ⟨d, rfl⟩ : ∃ d', d = d' + 1 := ⟨d - 1, by omega⟩
    exact ⟨m, g1, g2⟩
  · rw [h2] at h
    have h : fGL.contains (c, j) = true := h
    have hz := fGD1 (zG0.1 a)
    have h3 : zds (zG0.1 a) = .inl (c, fts) := h3
    rw [h3] at hz
    have hz : fGL.all (fun p => !(p.1 == c) || (match fts[p.2]? with
      | some (t, m) => t == 2 && !(m == 1) && !(m == 76)
      | none => false)) = true := hz
    have hm : (c, j) ∈ fGL := by simpa using h
    have hp := List.all_eq_true.mp hz (c, j) hm
    have hp : (!(c == c) || (match fts[j]? with
      | some (t, m) => t == 2 && !(m == 1) && !(m == 76)
      | none => false)) = true := hp
    rw [h4] at hp
    have hp : (!(c == c) || (ft.1 == 2 && !(ft.2 == 1) && !(ft.2 == 76))) = true := hp
    simp at hp
    rcases h5 with ⟨q, -⟩ | ⟨-, rfl⟩ | ⟨q, -⟩
    · omega
    · exact ⟨ft.2, rfl, hp.1.2, hp.2⟩
    · omega
def fWk (T : Nat → Nat × Nat × Int) (W : List (Nat × Nat)) (i : Instr) (pc : Nat) (w : Nat × Nat) : Bool := (fPu i && (match w.2 with
  | 0 => false
  | d + 1 => W.contains (pc, d))) || (match i with
  | .getfield x => (w.2 == 0 && fGL.contains ((T x).2.1, (T x).2.2.toNat)) || (!(w.2 == 0) && W.contains (pc, w.2))
  | _ => false)
def fWo (T : Nat → Nat × Nat × Int) (PF : List (Nat × Nat × Int)) (AL : Nat → Bool) (W : List (Nat × Nat)) (i : Instr) (pc : Nat) : Bool := match i with
  | .bastore => W.contains (pc, 2)
  | _ => fOk T PF AL i
/-- a method with rows of truths stored into: W: where which place of the stack is such a row -/
def fChW (T : Nat → Nat × Nat × Int) (PF : List (Nat × Nat × Int)) (AL : Nat → Bool) (W : List (Nat × Nat)) (cc : ByteArray) (pcs : List Nat) : Bool := pcs.contains 0 && (W.all (fun w => !(w.1 == 0))) && pcs.all (fun pc => match decode cc pc with
  | .ok (i, n) => fWo T PF AL W i pc && (fSx i pc n).all (fun t => pcs.contains t && W.all (fun w => !(w.1 == t) || fWk T W i pc w))
  | .error _ => true)
theorem fWin {T : Nat → Nat × Nat × Int} {W : List (Nat × Nat)} {pcs : List Nat} {q : xP} (hT : xTb q.1.cls = T) (hk : fChW T fF0 fL1 W q.2.1 pcs = true) {as : List zV} {r : Option zV} {μ μ' : xM} (h : Ex gx q as μ r μ') : fRm fA0 fF0 μ μ' := by
  obtain ⟨n, pf, Lf, Sf, h1, h2⟩ := Ex_out h
  unfold fChW at hk
  rw [Bool.and_eq_true, Bool.and_eq_true, List.all_eq_true, List.all_eq_true] at hk
  obtain ⟨⟨hk0, hW0⟩, hk⟩ := hk
  have hst : ∀ (n : Nat) (a b : eS), eN gx (Ex gx) q.2.1 q.1.cls n a b → a.1 ∈ pcs → (∀ w, w ∈ W → w.1 = a.1 → fRw a.2.2.1 w.2) → fRm fA0 fF0 a.2.2.2 b.2.2.2 := by
    intro n
    induction n with
    | zero => intro a b h _ _; cases h; exact fRm_rf
    | succ n ih =>
      intro a b h ha hw
      obtain ⟨c, hs, h⟩ := h
      rcases hs with ⟨i, m, hd, hi⟩ | ⟨e1, e2, e3⟩
      · have hk2 := hk a.1 ha
        rw [hd] at hk2
        replace hk2 : (fWo T fF0 fL1 W i a.1 && (fSx i a.1 m).all (fun t => pcs.contains t && W.all (fun w => !(w.1 == t) || fWk T W i a.1 w))) = true := hk2
        rw [Bool.and_eq_true, List.all_eq_true] at hk2
        have hm := hk2.2 c.1 (fSx_ok hi)
        rw [Bool.and_eq_true, List.all_eq_true] at hm
        have hfr : fRm fA0 fF0 a.2.2.2 c.2.2.2 := by
          by_cases hb : i = .bastore
          · subst hb
            have hw3 : W.contains (a.1, 2) = true := hk2.1
            have hw2 : (a.1, 2) ∈ W := by simpa using hw3
            obtain ⟨mm, g1, g2, g3⟩ := hw _ hw2 rfl
            obtain ⟨v, k, x, t, len, S0, e1, -, hg, -, e2⟩ := hi
            rw [e1] at g1
            have e3 : x = mm := by cases g1; rfl
            subst e3
            have hp := fArr2 fPF0 hg
            have e4 : c.2.2.2 = xpi a.2.2.2 x k.toNatClampNeg v.toInt8.toInt32 := by rw [e2]
            rw [e4]
            intro h0
            refine ⟨h0, fun k2 hk2 _ i2 => xpi_ne (fun q => ?_), fun _ => rfl, fun p hp2 => xpi_ne (fun q => hp p hp2 q.1)⟩
            rcases List.mem_cons.mp hk2 with rfl | hk2
            · exact g2 q.1.symm
            · rcases List.mem_cons.mp hk2 with rfl | hk2
              · exact g3 q.1.symm
              · cases hk2
          · have ho : fOk T fF0 fL1 i = true := by
              have := hk2.1
              cases i <;> first | exact this | exact absurd rfl hb
            exact fIns_ok hT fPF0 hi ho (fun mn q as r ν ν' hal hq hX => fR1 hq hal hX)
        refine fRm_tr hfr (ih c b h (by simpa using hm.1) (fun w hw1 hw2 => ?_))
        have h5 := hm.2 w hw1
        rw [hw2] at h5
        have h5 : fWk T W i a.1 w = true := by simpa using h5
        unfold fWk at h5
        rw [Bool.or_eq_true] at h5
        rcases h5 with h5 | h5
        · rw [Bool.and_eq_true] at h5
          obtain ⟨v, ev⟩ := fPu_ok hi h5.1
          obtain ⟨w1, w2⟩ := w
          cases w2 with
          | zero => cases h5.2
          | succ d =>
            have h6 : (a.1, d) ∈ W := by simpa using h5.2
            obtain ⟨mm, g1, g2⟩ := hw _ h6 rfl
            exact ⟨mm, by rw [ev]; exact g1, g2⟩
        · cases i with
          | getfield x =>
            have h5 : ((w.2 == 0 && fGL.contains ((T x).2.1, (T x).2.2.toNat)) || (!(w.2 == 0) && W.contains (a.1, w.2))) = true := h5
            obtain ⟨k1, k2⟩ := fGe_ok hT hi
            rw [Bool.or_eq_true, Bool.and_eq_true, Bool.and_eq_true] at h5
            rcases h5 with ⟨h6, h7⟩ | ⟨h6, h7⟩
            · have e0 : w.2 = 0 := by simpa using h6
              rw [e0]
              exact k2 h7
            · have e0 : ¬ w.2 = 0 := by simpa using h6
              have h8 : (a.1, w.2) ∈ W := by simpa using h7
              exact k1 _ (by omega) (hw (a.1, w.2) h8 rfl)
          | _ => cases h5
      · have e4 : c.2.2.2 = a.2.2.2 := by rw [e3]
        rw [← e4]
        refine ih c b h (by rw [e1]; exact ha) (fun w hw1 hw2 => ?_)
        rw [e3]
        exact hw w hw1 (by rw [hw2, e1])
  have hz : (0 : Nat) ∈ pcs := by simpa using hk0
  refine hst n _ _ h1 hz (fun w hw1 hw2 => ?_)
  have := hW0 w hw1
  rw [hw2] at this
  have this : (!((0 : Nat) == 0)) = true := this
  exact absurd this (by decide)
theorem fB_42 {as : List zV} {r : Option zV} {μ μ' : xM} (h : Ex gx (⟨"CapitalCase$Prints", "note", "(IIZ)I"⟩, prog_7_method_2_code, 4, (some .int)) as μ r μ') : fRm fA0 fF0 μ μ' := fWin (W := [(35, 0), (36, 1), (39, 1), (40, 2)]) (pcs := [0, 1, 4, 6, 9, 10, 11, 12, 15, 16, 19, 20, 21, 22, 25, 26, 29, 30, 31, 32, 35, 36, 39, 40, 41, 42, 43, 46, 47, 48, 51, 52, 55, 56, 57, 58]) xo_6 (by decide +kernel) h
theorem fB_74 {as : List zV} {r : Option zV} {μ μ' : xM} (h : Ex gx (⟨"CapitalCase", "beginAnew", "()V"⟩, prog_1_method_6_code, 2, none) as μ r μ') : fRm fA0 fF0 μ μ' := fWin (W := [(38, 0), (39, 1), (40, 2)]) (pcs := [0, 1, 4, 5, 8, 11, 12, 15, 16, 19, 20, 23, 24, 27, 28, 29, 30, 31, 34, 35, 38, 39, 40, 41, 44, 47, 48]) xo_0 (by decide +kernel) h
theorem fB_86 {as : List zV} {r : Option zV} {μ μ' : xM} (h : Ex gx (⟨"CapitalCase", "hold", "(I)Z"⟩, prog_1_method_42_code, 2, (some .boolean)) as μ r μ') : fRm fA0 fF0 μ μ' := fWin (W := [(50, 0), (51, 1), (52, 2)]) (pcs := [0, 1, 4, 5, 6, 9, 10, 11, 12, 15, 16, 17, 20, 21, 24, 25, 28, 29, 32, 33, 34, 37, 38, 39, 40, 43, 46, 47, 50, 51, 52, 53, 54, 55]) xo_0 (by decide +kernel) h
theorem fB_146 {as : List zV} {r : Option zV} {μ μ' : xM} (h : Ex gx (⟨"CapitalCaseModel", "hold", "(I)Z"⟩, prog_14_method_111_code, 3, (some .boolean)) as μ r μ') : fRm fA0 fF0 μ μ' := fWin (W := [(15, 0), (16, 1), (17, 2)]) (pcs := [0, 1, 2, 3, 6, 9, 10, 11, 12, 15, 16, 17, 18, 19, 20, 21, 24, 27, 28, 31, 34, 35, 36, 37, 38, 39, 42, 43, 44, 45, 48, 51, 52, 53]) xo_12 (by decide +kernel) h
theorem fB_188 {as : List zV} {r : Option zV} {μ μ' : xM} (h : Ex gx (⟨"CapitalCaseModel", "tell", "(IIZ)I"⟩, prog_14_method_106_code, 4, (some .int)) as μ r μ') : fRm fA0 fF0 μ μ' := fWin (W := [(53, 0), (54, 1), (57, 1), (58, 2)]) (pcs := [0, 1, 4, 6, 9, 10, 13, 16, 17, 18, 21, 24, 27, 28, 29, 30, 33, 34, 37, 38, 39, 40, 43, 44, 47, 48, 49, 50, 53, 54, 57, 58, 59, 60, 61, 64, 65, 66, 69, 70, 73, 74, 75, 76]) xo_12 (by decide +kernel) h
theorem fB_198 {as : List zV} {r : Option zV} {μ μ' : xM} (h : Ex gx (⟨"CapitalCaseModel", "wears", "(I)V"⟩, prog_14_method_68_code, 2, none) as μ r μ') : fRm fA0 fF0 μ μ' := fWin (W := [(4, 0), (5, 1), (6, 2), (130, 0), (131, 1), (132, 2)]) (pcs := [0, 1, 4, 5, 6, 7, 8, 11, 13, 14, 15, 16, 19, 20, 21, 24, 26, 27, 28, 29, 32, 34, 35, 36, 37, 38, 41, 43, 44, 45, 46, 47, 50, 51, 52, 53, 54, 55, 58, 61, 62, 63, 66, 68, 69, 70, 71, 72, 75, 76, 79, 80, 83, 84, 85, 88, 90, 91, 92, 93, 94, 95, 98, 99, 100, 103, 104, 105, 108, 109, 110, 111, 112, 113, 114, 115, 118, 121, 122, 123, 124, 125, 126, 127, 130, 131, 132, 133, 134]) xo_12 (by decide +kernel) h
