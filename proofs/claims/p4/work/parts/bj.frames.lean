/-! ===== WHAT THE CALLS LEAVE ALONE ===== -/
def fA0 : List Nat := [1, 76]
def fF0 : List (Nat × Nat × Int) := [(0, 11, 6), (75, 12, 12)]
theorem fPF0 : fPF fF0 := by
  intro p hp
  rcases List.mem_cons.mp hp with rfl | hp
  · exact ⟨by decide, by decide, _, rfl⟩
  · rcases List.mem_cons.mp hp with rfl | hp
    · exact ⟨by decide, by decide, _, rfl⟩
    · cases hp
theorem fR0_i {μ ν : xM} {c j : Nat} {v : Int32} (h : fRm fA0 fF0 μ ν) (hc : c ≠ 1 ∧ c ≠ 76 ∧ ¬ (c = 0 ∧ j = 6) ∧ ¬ (c = 75 ∧ j = 12)) : fRm fA0 fF0 μ (xpi ν c j v) := fun h0 => by
  obtain ⟨h1, h2, h3, h4⟩ := h h0
  refine ⟨h1, fun k hk hk2 i => ?_, h3, fun p hp => ?_⟩
  · rw [← h2 k hk hk2 i]
    refine xpi_ne (fun q => ?_)
    rcases List.mem_cons.mp hk with rfl | hk
    · exact hc.1 q.1.symm
    · rcases List.mem_cons.mp hk with rfl | hk
      · exact hc.2.1 q.1.symm
      · cases hk
  · rw [← h4 p hp]
    refine xpi_ne (fun q => ?_)
    rcases List.mem_cons.mp hp with rfl | hp
    · exact hc.2.2.1 ⟨q.1.symm, q.2.symm⟩
    · rcases List.mem_cons.mp hp with rfl | hp
      · exact hc.2.2.2 ⟨q.1.symm, q.2.symm⟩
      · cases hp
theorem fR0_r {μ ν : xM} {c j : Nat} {v : Option Nat} (h : fRm fA0 fF0 μ ν) : fRm fA0 fF0 μ (xpr ν c j v) := h
theorem fR0_n {μ ν : xM} (h : fRm fA0 fF0 μ ν) : fRm fA0 fF0 μ (xnew ν) := fun h0 => by
  obtain ⟨h1, h2, h3, h4⟩ := h h0
  have e : ∀ k j, k < 119 → (xnew ν).1 k j = ν.1 k j := fun k j hk => by
    show (if ν.2.2.2 ≤ k then 0 else ν.1 k j) = _
    rw [if_neg (by omega)]
  exact ⟨by show 119 ≤ ν.2.2.2 + 6; omega, fun k hk hk2 i => (e k i (by omega)).trans (h2 k hk hk2 i), h3, fun p hp => (e _ _ (by have := (fPF0 p hp).1; omega)).trans (h4 p hp)⟩
section TXN
variable {q : xP} {n pc : Nat} {L : zL} {S : List zV} {μ μ' : xM} {r : Option zV}
theorem tx_new {x : Nat} (h : eT q n pc L S μ r μ') (hd : decode q.2.1 pc = .ok (.new x, 3)) : eT q n (pc + 7) L (.inr (.inl (some μ.2.2.2)) :: S) (xnew μ) r μ' := by
  obtain ⟨L0, b, hf, hi, h⟩ := tx h hd rfl
  cases hi
  exact eT_fg hf h
end TXN
def fL1 (mn : Nat) : Bool := Nat.testBit 205688069665150778506747644688578126603060423305479022010433536 mn
def fL2 (mn : Nat) : Bool := Nat.testBit 28269361605035968751591020445309491409627363639643159098193830411285561343 mn
theorem fC1_49 : fChk xTf_9 fF0 fL1 prog_10_method_3_code [0, 1, 4, 5, 6, 9, 10, 12, 15, 16, 19, 20, 21, 24, 25, 27, 30, 31, 34, 35, 36, 39, 40, 42, 45, 46, 49, 50, 51, 54, 55, 58, 61, 62, 65, 66, 67, 70, 71, 73, 76, 77, 78, 81, 84, 85, 86, 89, 92, 93, 94, 97, 100, 101, 102, 105, 108, 109, 110, 113, 116, 117] = true := by decide +kernel
theorem fC1_50 : fChk xTf_9 fF0 fL1 prog_10_method_2_code [0, 1, 4, 5, 6, 9, 10, 12, 15, 16, 19, 20, 23, 24, 27, 28, 31, 32, 35, 36, 39, 40, 41, 44, 45, 46, 49, 50, 51, 54, 55, 56, 59, 60, 61, 64, 65] = true := by decide +kernel
theorem fC1_145 : fChk xTf_12 fF0 fL1 prog_14_method_41_code [0, 1, 2, 5, 6, 9, 10, 11, 14, 15, 18, 19, 20] = true := by decide +kernel
theorem fC1_148 : fChk xTf_12 fF0 fL1 prog_14_method_40_code [0, 1, 2, 5, 6, 7, 10, 11, 14, 15, 16] = true := by decide +kernel
theorem fC1_154 : fChk xTf_12 fF0 fL1 prog_14_method_44_code [0, 1, 2, 4, 7, 8] = true := by decide +kernel
theorem fC1_207 : fChk xTf_14 fF0 fL1 prog_22_method_103_code [0, 1, 2, 3, 4, 5, 6, 7, 10, 11, 12, 13, 14, 17, 20, 21] = true := by decide +kernel
theorem fH1 : ∀ (mn : Nat) (q : xP), xMB mn = some q → fL1 mn = true → fGd fA0 fF0 fL1 q := (xB_n (xB_n (xB_n (xB_n (xB_n (xB_n (xB_n (xB_l (fun h => absurd h (by decide +kernel))) (xB_n (xB_l (fun h => absurd h (by decide +kernel))) (xB_l (fun h => absurd h (by decide +kernel))))) (xB_n (xB_n (xB_l (fun h => absurd h (by decide +kernel))) (xB_l (fun h => absurd h (by decide +kernel)))) (xB_n (xB_l (fun h => absurd h (by decide +kernel))) (xB_l (fun h => absurd h (by decide +kernel)))))) (xB_n (xB_n (xB_n (xB_l (fun h => absurd h (by decide +kernel))) (xB_l (fun h => absurd h (by decide +kernel)))) (xB_n (xB_l (fun h => absurd h (by decide +kernel))) (xB_l (fun h => absurd h (by decide +kernel))))) (xB_n (xB_n (xB_l (fun h => absurd h (by decide +kernel))) (xB_l (fun h => absurd h (by decide +kernel)))) (xB_n (xB_l (fun h => absurd h (by decide +kernel))) (xB_l (fun h => absurd h (by decide +kernel))))))) (xB_n (xB_n (xB_n (xB_l (fun h => absurd h (by decide +kernel))) (xB_n (xB_l (fun h => absurd h (by decide +kernel))) (xB_l (fun h => absurd h (by decide +kernel))))) (xB_n (xB_n (xB_l (fun h => absurd h (by decide +kernel))) (xB_l (fun h => absurd h (by decide +kernel)))) (xB_n (xB_l (fun h => absurd h (by decide +kernel))) (xB_l (fun h => absurd h (by decide +kernel)))))) (xB_n (xB_n (xB_n (xB_l (fun h => absurd h (by decide +kernel))) (xB_l (fun h => absurd h (by decide +kernel)))) (xB_n (xB_l (fun h => absurd h (by decide +kernel))) (xB_l (fun h => absurd h (by decide +kernel))))) (xB_n (xB_n (xB_l (fun h => absurd h (by decide +kernel))) (xB_l (fun h => absurd h (by decide +kernel)))) (xB_n (xB_l (fun h => absurd h (by decide +kernel))) (xB_l (fun h => absurd h (by decide +kernel)))))))) (xB_n (xB_n (xB_n (xB_n (xB_l (fun h => absurd h (by decide +kernel))) (xB_n (xB_l (fun h => absurd h (by decide +kernel))) (xB_l (fun h => absurd h (by decide +kernel))))) (xB_n (xB_n (xB_l (fun h => absurd h (by decide +kernel))) (xB_l (fun h => absurd h (by decide +kernel)))) (xB_n (xB_l (fun h => absurd h (by decide +kernel))) (xB_l (fun h => absurd h (by decide +kernel)))))) (xB_n (xB_n (xB_n (xB_l (fun h => absurd h (by decide +kernel))) (xB_l (fun h => absurd h (by decide +kernel)))) (xB_n (xB_l (fun h => absurd h (by decide +kernel))) (xB_l (fun h => absurd h (by decide +kernel))))) (xB_n (xB_n (xB_l (fun h => absurd h (by decide +kernel))) (xB_l (fun h => absurd h (by decide +kernel)))) (xB_n (xB_l (fun h => absurd h (by decide +kernel))) (xB_l (fun h => absurd h (by decide +kernel))))))) (xB_n (xB_n (xB_n (xB_n (xB_l (fun h => absurd h (by decide +kernel))) (xB_l (fun h => absurd h (by decide +kernel)))) (xB_n (xB_l (fun h => absurd h (by decide +kernel))) (xB_l (fun h => absurd h (by decide +kernel))))) (xB_n (xB_n (xB_l (fun _ => Or.inl ⟨_, _, xo_9, fC1_49⟩)) (xB_l (fun _ => Or.inl ⟨_, _, xo_9, fC1_50⟩))) (xB_n (xB_l (fun h => absurd h (by decide +kernel))) (xB_l (fun h => absurd h (by decide +kernel)))))) (xB_n (xB_n (xB_n (xB_l (fun h => absurd h (by decide +kernel))) (xB_l (fun h => absurd h (by decide +kernel)))) (xB_n (xB_l (fun h => absurd h (by decide +kernel))) (xB_l (fun h => absurd h (by decide +kernel))))) (xB_n (xB_n (xB_l (fun h => absurd h (by decide +kernel))) (xB_l (fun h => absurd h (by decide +kernel)))) (xB_n (xB_l (fun h => absurd h (by decide +kernel))) (xB_l (fun h => absurd h (by decide +kernel))))))))) (xB_n (xB_n (xB_n (xB_n (xB_n (xB_l (fun h => absurd h (by decide +kernel))) (xB_n (xB_l (fun h => absurd h (by decide +kernel))) (xB_l (fun h => absurd h (by decide +kernel))))) (xB_n (xB_n (xB_l (fun h => absurd h (by decide +kernel))) (xB_l (fun h => absurd h (by decide +kernel)))) (xB_n (xB_l (fun h => absurd h (by decide +kernel))) (xB_l (fun h => absurd h (by decide +kernel)))))) (xB_n (xB_n (xB_n (xB_l (fun h => absurd h (by decide +kernel))) (xB_l (fun h => absurd h (by decide +kernel)))) (xB_n (xB_l (fun h => absurd h (by decide +kernel))) (xB_l (fun h => absurd h (by decide +kernel))))) (xB_n (xB_n (xB_l (fun h => absurd h (by decide +kernel))) (xB_l (fun h => absurd h (by decide +kernel)))) (xB_n (xB_l (fun h => absurd h (by decide +kernel))) (xB_l (fun h => absurd h (by decide +kernel))))))) (xB_n (xB_n (xB_n (xB_l (fun h => absurd h (by decide +kernel))) (xB_n (xB_l (fun h => absurd h (by decide +kernel))) (xB_l (fun h => absurd h (by decide +kernel))))) (xB_n (xB_n (xB_l (fun h => absurd h (by decide +kernel))) (xB_l (fun h => absurd h (by decide +kernel)))) (xB_n (xB_l (fun h => absurd h (by decide +kernel))) (xB_l (fun h => absurd h (by decide +kernel)))))) (xB_n (xB_n (xB_n (xB_l (fun h => absurd h (by decide +kernel))) (xB_l (fun h => absurd h (by decide +kernel)))) (xB_n (xB_l (fun h => absurd h (by decide +kernel))) (xB_l (fun h => absurd h (by decide +kernel))))) (xB_n (xB_n (xB_l (fun h => absurd h (by decide +kernel))) (xB_l (fun h => absurd h (by decide +kernel)))) (xB_n (xB_l (fun h => absurd h (by decide +kernel))) (xB_l (fun h => absurd h (by decide +kernel)))))))) (xB_n (xB_n (xB_n (xB_n (xB_l (fun h => absurd h (by decide +kernel))) (xB_n (xB_l (fun h => absurd h (by decide +kernel))) (xB_l (fun h => absurd h (by decide +kernel))))) (xB_n (xB_n (xB_l (fun h => absurd h (by decide +kernel))) (xB_l (fun h => absurd h (by decide +kernel)))) (xB_n (xB_l (fun h => absurd h (by decide +kernel))) (xB_l (fun h => absurd h (by decide +kernel)))))) (xB_n (xB_n (xB_n (xB_l (fun h => absurd h (by decide +kernel))) (xB_l (fun h => absurd h (by decide +kernel)))) (xB_n (xB_l (fun h => absurd h (by decide +kernel))) (xB_l (fun h => absurd h (by decide +kernel))))) (xB_n (xB_n (xB_l (fun h => absurd h (by decide +kernel))) (xB_l (fun h => absurd h (by decide +kernel)))) (xB_n (xB_l (fun h => absurd h (by decide +kernel))) (xB_l (fun h => absurd h (by decide +kernel))))))) (xB_n (xB_n (xB_n (xB_n (xB_l (fun h => absurd h (by decide +kernel))) (xB_l (fun h => absurd h (by decide +kernel)))) (xB_n (xB_l (fun h => absurd h (by decide +kernel))) (xB_l (fun h => absurd h (by decide +kernel))))) (xB_n (xB_n (xB_l (fun h => absurd h (by decide +kernel))) (xB_l (fun h => absurd h (by decide +kernel)))) (xB_n (xB_l (fun h => absurd h (by decide +kernel))) (xB_l (fun h => absurd h (by decide +kernel)))))) (xB_n (xB_n (xB_n (xB_l (fun h => absurd h (by decide +kernel))) (xB_l (fun h => absurd h (by decide +kernel)))) (xB_n (xB_l (fun h => absurd h (by decide +kernel))) (xB_l (fun h => absurd h (by decide +kernel))))) (xB_n (xB_n (xB_l (fun h => absurd h (by decide +kernel))) (xB_l (fun h => absurd h (by decide +kernel)))) (xB_n (xB_l (fun h => absurd h (by decide +kernel))) (xB_l (fun h => absurd h (by decide +kernel)))))))))) (xB_n (xB_n (xB_n (xB_n (xB_n (xB_n (xB_l (fun h => absurd h (by decide +kernel))) (xB_n (xB_l (fun h => absurd h (by decide +kernel))) (xB_l (fun h => absurd h (by decide +kernel))))) (xB_n (xB_n (xB_l (fun h => absurd h (by decide +kernel))) (xB_l (fun h => absurd h (by decide +kernel)))) (xB_n (xB_l (fun h => absurd h (by decide +kernel))) (xB_l (fun h => absurd h (by decide +kernel)))))) (xB_n (xB_n (xB_n (xB_l (fun h => absurd h (by decide +kernel))) (xB_l (fun h => absurd h (by decide +kernel)))) (xB_n (xB_l (fun h => absurd h (by decide +kernel))) (xB_l (fun h => absurd h (by decide +kernel))))) (xB_n (xB_n (xB_l (fun h => absurd h (by decide +kernel))) (xB_l (fun h => absurd h (by decide +kernel)))) (xB_n (xB_l (fun h => absurd h (by decide +kernel))) (xB_l (fun h => absurd h (by decide +kernel))))))) (xB_n (xB_n (xB_n (xB_l (fun h => absurd h (by decide +kernel))) (xB_n (xB_l (fun h => absurd h (by decide +kernel))) (xB_l (fun h => absurd h (by decide +kernel))))) (xB_n (xB_n (xB_l (fun h => absurd h (by decide +kernel))) (xB_l (fun h => absurd h (by decide +kernel)))) (xB_n (xB_l (fun h => absurd h (by decide +kernel))) (xB_l (fun h => absurd h (by decide +kernel)))))) (xB_n (xB_n (xB_n (xB_l (fun h => absurd h (by decide +kernel))) (xB_l (fun _ => Or.inl ⟨_, _, xo_12, fC1_145⟩))) (xB_n (xB_l (fun h => absurd h (by decide +kernel))) (xB_l (fun h => absurd h (by decide +kernel))))) (xB_n (xB_n (xB_l (fun _ => Or.inl ⟨_, _, xo_12, fC1_148⟩)) (xB_l (fun h => absurd h (by decide +kernel)))) (xB_n (xB_l (fun h => absurd h (by decide +kernel))) (xB_l (fun h => absurd h (by decide +kernel)))))))) (xB_n (xB_n (xB_n (xB_n (xB_l (fun h => absurd h (by decide +kernel))) (xB_n (xB_l (fun h => absurd h (by decide +kernel))) (xB_l (fun _ => Or.inl ⟨_, _, xo_12, fC1_154⟩)))) (xB_n (xB_n (xB_l (fun h => absurd h (by decide +kernel))) (xB_l (fun h => absurd h (by decide +kernel)))) (xB_n (xB_l (fun h => absurd h (by decide +kernel))) (xB_l (fun h => absurd h (by decide +kernel)))))) (xB_n (xB_n (xB_n (xB_l (fun h => absurd h (by decide +kernel))) (xB_l (fun h => absurd h (by decide +kernel)))) (xB_n (xB_l (fun h => absurd h (by decide +kernel))) (xB_l (fun h => absurd h (by decide +kernel))))) (xB_n (xB_n (xB_l (fun h => absurd h (by decide +kernel))) (xB_l (fun h => absurd h (by decide +kernel)))) (xB_n (xB_l (fun h => absurd h (by decide +kernel))) (xB_l (fun h => absurd h (by decide +kernel))))))) (xB_n (xB_n (xB_n (xB_n (xB_l (fun h => absurd h (by decide +kernel))) (xB_l (fun h => absurd h (by decide +kernel)))) (xB_n (xB_l (fun h => absurd h (by decide +kernel))) (xB_l (fun h => absurd h (by decide +kernel))))) (xB_n (xB_n (xB_l (fun h => absurd h (by decide +kernel))) (xB_l (fun h => absurd h (by decide +kernel)))) (xB_n (xB_l (fun h => absurd h (by decide +kernel))) (xB_l (fun h => absurd h (by decide +kernel)))))) (xB_n (xB_n (xB_n (xB_l (fun h => absurd h (by decide +kernel))) (xB_l (fun h => absurd h (by decide +kernel)))) (xB_n (xB_l (fun h => absurd h (by decide +kernel))) (xB_l (fun h => absurd h (by decide +kernel))))) (xB_n (xB_n (xB_l (fun h => absurd h (by decide +kernel))) (xB_l (fun h => absurd h (by decide +kernel)))) (xB_n (xB_l (fun h => absurd h (by decide +kernel))) (xB_l (fun h => absurd h (by decide +kernel))))))))) (xB_n (xB_n (xB_n (xB_n (xB_n (xB_l (fun h => absurd h (by decide +kernel))) (xB_n (xB_l (fun h => absurd h (by decide +kernel))) (xB_l (fun h => absurd h (by decide +kernel))))) (xB_n (xB_n (xB_l (fun h => absurd h (by decide +kernel))) (xB_l (fun h => absurd h (by decide +kernel)))) (xB_n (xB_l (fun h => absurd h (by decide +kernel))) (xB_l (fun h => absurd h (by decide +kernel)))))) (xB_n (xB_n (xB_n (xB_l (fun h => absurd h (by decide +kernel))) (xB_l (fun h => absurd h (by decide +kernel)))) (xB_n (xB_l (fun h => absurd h (by decide +kernel))) (xB_l (fun h => absurd h (by decide +kernel))))) (xB_n (xB_n (xB_l (fun h => absurd h (by decide +kernel))) (xB_l (fun h => absurd h (by decide +kernel)))) (xB_n (xB_l (fun h => absurd h (by decide +kernel))) (xB_l (fun h => absurd h (by decide +kernel))))))) (xB_n (xB_n (xB_n (xB_l (fun h => absurd h (by decide +kernel))) (xB_n (xB_l (fun h => absurd h (by decide +kernel))) (xB_l (fun h => absurd h (by decide +kernel))))) (xB_n (xB_n (xB_l (fun h => absurd h (by decide +kernel))) (xB_l (fun h => absurd h (by decide +kernel)))) (xB_n (xB_l (fun h => absurd h (by decide +kernel))) (xB_l (fun h => absurd h (by decide +kernel)))))) (xB_n (xB_n (xB_n (xB_l (fun h => absurd h (by decide +kernel))) (xB_l (fun h => absurd h (by decide +kernel)))) (xB_n (xB_l (fun _ => Or.inl ⟨_, _, xo_14, fC1_207⟩)) (xB_l (fun h => absurd h (by decide +kernel))))) (xB_n (xB_n (xB_l (fun h => absurd h (by decide +kernel))) (xB_l (fun h => absurd h (by decide +kernel)))) (xB_n (xB_l (fun h => absurd h (by decide +kernel))) (xB_l (fun h => absurd h (by decide +kernel)))))))) (xB_n (xB_n (xB_n (xB_n (xB_l (fun h => absurd h (by decide +kernel))) (xB_n (xB_l (fun h => absurd h (by decide +kernel))) (xB_l (fun h => absurd h (by decide +kernel))))) (xB_n (xB_n (xB_l (fun h => absurd h (by decide +kernel))) (xB_l (fun h => absurd h (by decide +kernel)))) (xB_n (xB_l (fun h => absurd h (by decide +kernel))) (xB_l (fun h => absurd h (by decide +kernel)))))) (xB_n (xB_n (xB_n (xB_l (fun h => absurd h (by decide +kernel))) (xB_l (fun h => absurd h (by decide +kernel)))) (xB_n (xB_l (fun h => absurd h (by decide +kernel))) (xB_l (fun h => absurd h (by decide +kernel))))) (xB_n (xB_n (xB_l (fun h => absurd h (by decide +kernel))) (xB_l (fun h => absurd h (by decide +kernel)))) (xB_n (xB_l (fun h => absurd h (by decide +kernel))) (xB_l (fun h => absurd h (by decide +kernel))))))) (xB_n (xB_n (xB_n (xB_n (xB_l (fun h => absurd h (by decide +kernel))) (xB_l (fun h => absurd h (by decide +kernel)))) (xB_n (xB_l (fun h => absurd h (by decide +kernel))) (xB_l (fun h => absurd h (by decide +kernel))))) (xB_n (xB_n (xB_l (fun h => absurd h (by decide +kernel))) (xB_l (fun h => absurd h (by decide +kernel)))) (xB_n (xB_l (fun h => absurd h (by decide +kernel))) (xB_l (fun h => absurd h (by decide +kernel)))))) (xB_n (xB_n (xB_n (xB_l (fun h => absurd h (by decide +kernel))) (xB_l (fun h => absurd h (by decide +kernel)))) (xB_n (xB_l (fun h => absurd h (by decide +kernel))) (xB_l (fun h => absurd h (by decide +kernel))))) (xB_n (xB_n (xB_l (fun h => absurd h (by decide +kernel))) (xB_l (fun h => absurd h (by decide +kernel)))) (xB_n (xB_l (fun h => absurd h (by decide +kernel))) (xB_l (fun h => absurd h (by decide +kernel)))))))))))
theorem fR1 {mn : Nat} {q : xP} (hm : xMB mn = some q) (hl : fL1 mn = true) {as : List zV} {r : Option zV} {μ μ' : xM} (h : Ex gx q as μ r μ') : fRm fA0 fF0 μ μ' := fAll fPF0 (fun mn q h1 h2 => fH1 mn q h2 h1) (fH1 mn q hm hl) h
abbrev xq_42 : xP := (⟨"CapitalCase$Prints", "note", "(IIZ)I"⟩, prog_7_method_2_code, 4, (some .int))
abbrev xq_74 : xP := (⟨"CapitalCase", "beginAnew", "()V"⟩, prog_1_method_6_code, 2, none)
abbrev xq_86 : xP := (⟨"CapitalCase", "hold", "(I)Z"⟩, prog_1_method_42_code, 2, (some .boolean))
abbrev xq_146 : xP := (⟨"CapitalCaseModel", "hold", "(I)Z"⟩, prog_14_method_111_code, 3, (some .boolean))
abbrev xq_188 : xP := (⟨"CapitalCaseModel", "tell", "(IIZ)I"⟩, prog_14_method_106_code, 4, (some .int))
abbrev xq_198 : xP := (⟨"CapitalCaseModel", "wears", "(I)V"⟩, prog_14_method_68_code, 2, none)
/-- a method that returns an int, read off its code -/
def fIn (cc : ByteArray) (pcs : List Nat) : Bool := pcs.contains 0 && pcs.all (fun pc => match decode cc pc with
  | .ok (.return_, _) => false
  | .ok (.lreturn, _) => false
  | .ok (.ireturn, _) => true
  | .ok (i, n) => (fSx i pc n).all (fun t => pcs.contains t)
  | .error _ => true)
theorem ex_int {q : xP} {as : List zV} {r : Option zV} {μ μ' : xM} (pcs : List Nat) (hk : fIn q.2.1 pcs = true) (h : Ex gx q as μ r μ') : ∃ v : Int32, r = some (.inl v) := by
  obtain ⟨n, pf, Lf, Sf, h1, h2⟩ := Ex_out h
  unfold fIn at hk
  rw [Bool.and_eq_true, List.all_eq_true] at hk
  obtain ⟨hk0, hk⟩ := hk
  have hst : ∀ (n : Nat) (a b : eS), eN gx (Ex gx) q.2.1 q.1.cls n a b → a.1 ∈ pcs → b.1 ∈ pcs := by
    intro n
    induction n with
    | zero => intro a b h ha; cases h; exact ha
    | succ n ih =>
      intro a b h ha
      obtain ⟨c, hs, h⟩ := h
      rcases hs with ⟨i, m, hd, hi⟩ | ⟨e1, e2, e3⟩
      · refine ih c b h ?_
        have hk2 := hk a.1 ha
        rw [hd] at hk2
        have hm := fSx_ok hi
        have hk3 : (fSx i a.1 m).all (fun t => pcs.contains t) = true := by
          cases i <;> first | exact hk2 | exact hi.elim
        have := List.all_eq_true.mp hk3 c.1 hm
        simpa using this
      · exact ih c b h (by rw [e1]; exact ha)
  have hz : (0 : Nat) ∈ pcs := by simpa using hk0
  have hp : pf ∈ pcs := hst n _ _ h1 hz
  have hkp := hk pf hp
  rcases h2 with ⟨-, x, -, e⟩ | ⟨e, -⟩ | ⟨e, -⟩
  · exact ⟨x, e⟩
  · rw [e] at hkp
    exact absurd (show false = true from hkp) (by decide)
  · rw [e] at hkp
    exact absurd (show false = true from hkp) (by decide)
abbrev xq_49 : xP := (⟨"CapitalCase$Town", "become", "(LCapitalCase$Town;)V"⟩, prog_10_method_3_code, 2, none)
abbrev xq_50 : xP := (⟨"CapitalCase$Town", "begin", "(LCapitalCase$Script;)V"⟩, prog_10_method_2_code, 2, none)
abbrev xq_145 : xP := (⟨"CapitalCaseModel", "held", "(III)I"⟩, prog_14_method_41_code, 3, (some .int))
theorem ex_int145 {as : List zV} {r : Option zV} {μ μ' : xM} (h : Ex gx xq_145 as μ r μ') : ∃ v : Int32, r = some (.inl v) := ex_int [0, 1, 2, 5, 6, 9, 10, 11, 14, 15, 18, 19, 20] (by decide +kernel) h
abbrev xq_148 : xP := (⟨"CapitalCaseModel", "in", "(III)Z"⟩, prog_14_method_40_code, 3, (some .boolean))
theorem ex_int148 {as : List zV} {r : Option zV} {μ μ' : xM} (h : Ex gx xq_148 as μ r μ') : ∃ v : Int32, r = some (.inl v) := ex_int [0, 1, 2, 5, 6, 7, 10, 11, 14, 15, 16] (by decide +kernel) h
abbrev xq_154 : xP := (⟨"CapitalCaseModel", "isSort", "(I)Z"⟩, prog_14_method_44_code, 1, (some .boolean))
theorem ex_int154 {as : List zV} {r : Option zV} {μ μ' : xM} (h : Ex gx xq_154 as μ r μ') : ∃ v : Int32, r = some (.inl v) := ex_int [0, 1, 2, 4, 7, 8] (by decide +kernel) h
set_option maxRecDepth 10000 in
set_option maxHeartbeats 4000000 in
theorem fB_42 {a b c : Int32} {μ0 μ' : xM} {r : Option zV} (h0 : Ex gx xq_42 [.inr (.inl (some 44)), .inl a, .inl b, .inl c] μ0 r μ') : fRm fA0 fF0 μ0 μ' := by
  obtain ⟨n, h⟩ := tx_in (L := [some (.inr (.inl (some 44))), some (.inl a), some (.inl b), some (.inl c)]) h0 rfl
  replace h := tx_aload_n (p' := 1) h em42_0 rfl rfl
  replace h := tx_getf (c := 5) (j := 3) (p' := 4) h em42_1 ((congrFun xo_6 22).trans rfl) rfl rfl (by decide) rfl
  replace h := tx_bipush (v := 20) (p' := 6) h em42_4 (by decide +kernel) rfl
  rcases tx_icmp (t := 11) (p' := 9) h em42_6 (by decide) rfl with ⟨c6, h⟩ | ⟨c6, h⟩
  · replace c6 : (μ0.1 44 3).toInt < 20 := c6
    replace h := tx_aload_n (p' := 12) h em42_11 rfl rfl
    replace h := tx_getc (c := 5) (j := 0) (p' := 15) h em42_12 ((congrFun xo_6 11).trans rfl) rfl rfl rfl
    replace h := tx_aload_n (p' := 16) h em42_15 rfl rfl
    replace h := tx_getf (c := 5) (j := 3) (p' := 19) h em42_16 ((congrFun xo_6 22).trans rfl) rfl rfl (by decide) rfl
    replace h := tx_iload_n (p' := 20) h em42_19 rfl rfl
    obtain ⟨hb20, h⟩ := tx_iast (len := 20) (p' := 21) h em42_20 rfl rfl
    replace hb20 : 0 ≤ (μ0.1 44 3).toInt ∧ (μ0.1 44 3).toInt < 20 := hb20
    replace h := tx_aload_n (p' := 22) h em42_21 rfl rfl
    replace h := tx_getc (c := 5) (j := 1) (p' := 25) h em42_22 ((congrFun xo_6 15).trans rfl) rfl rfl rfl
    replace h := tx_aload_n (p' := 26) h em42_25 rfl rfl
    replace h := tx_getf (c := 5) (j := 3) (p' := 29) h em42_26 ((congrFun xo_6 22).trans rfl) rfl rfl (by decide) rfl
    replace h : eT xq_42 _ 29 [some (.inr (.inl (some 44))), some (.inl a), some (.inl b), some (.inl c)] [.inl (μ0.1 44 3), .inr (.inl (some 46))] (xpi μ0 45 (μ0.1 44 3).toInt.toNat a) r μ' := h
    replace h := tx_iload_n (p' := 30) h em42_29 rfl rfl
    obtain ⟨hb30, h⟩ := tx_iast (len := 20) (p' := 31) h em42_30 rfl rfl
    replace hb30 : 0 ≤ (μ0.1 44 3).toInt ∧ (μ0.1 44 3).toInt < 20 := hb30
    replace h := tx_aload_n (p' := 32) h em42_31 rfl rfl
    replace h := tx_getc (c := 5) (j := 2) (p' := 35) h em42_32 ((congrFun xo_6 18).trans rfl) rfl rfl rfl
    replace h := tx_aload_n (p' := 36) h em42_35 rfl rfl
    replace h := tx_getf (c := 5) (j := 3) (p' := 39) h em42_36 ((congrFun xo_6 22).trans rfl) rfl rfl (by decide) rfl
    replace h : eT xq_42 _ 39 [some (.inr (.inl (some 44))), some (.inl a), some (.inl b), some (.inl c)] [.inl (μ0.1 44 3), .inr (.inl (some 47))] (xpi (xpi μ0 45 (μ0.1 44 3).toInt.toNat a) 46 (μ0.1 44 3).toInt.toNat b) r μ' := h
    replace h := tx_iload_n (p' := 40) h em42_39 rfl rfl
    obtain ⟨hb40, h⟩ := tx_bast (len := 20) (p' := 41) h em42_40 rfl rfl
    replace hb40 : 0 ≤ (μ0.1 44 3).toInt ∧ (μ0.1 44 3).toInt < 20 := hb40
    replace h := tx_aload_n (p' := 42) h em42_41 rfl rfl
    replace h := tx_dup (p' := 43) h em42_42 rfl
    replace h := tx_getf (c := 5) (j := 3) (p' := 46) h em42_43 ((congrFun xo_6 22).trans rfl) rfl rfl (by decide) rfl
    replace h : eT xq_42 _ 46 [some (.inr (.inl (some 44))), some (.inl a), some (.inl b), some (.inl c)] [.inl (μ0.1 44 3), .inr (.inl (some 44))] (xpi (xpi (xpi μ0 45 (μ0.1 44 3).toInt.toNat a) 46 (μ0.1 44 3).toInt.toNat b) 47 (μ0.1 44 3).toInt.toNat (c).toInt8.toInt32) r μ' := h
    replace h := tx_iconst (v := 1) (p' := 47) h em42_46 (by decide +kernel) rfl
    replace h := tx_iadd (p' := 48) h em42_47 rfl
    replace h := tx_putf (a := 44) (c := 5) (j := 3) (p' := 51) h em42_48 ((congrFun xo_6 22).trans rfl) rfl
    replace h := tx_aload_n (p' := 52) h em42_51 rfl rfl
    replace h := tx_getf (c := 5) (j := 3) (p' := 55) h em42_52 ((congrFun xo_6 22).trans rfl) rfl rfl (by decide) rfl
    replace h : eT xq_42 _ 55 [some (.inr (.inl (some 44))), some (.inl a), some (.inl b), some (.inl c)] [.inl ((μ0.1 44 3) + (1 : Int32))] (xpi (xpi (xpi (xpi μ0 45 (μ0.1 44 3).toInt.toNat a) 46 (μ0.1 44 3).toInt.toNat b) 47 (μ0.1 44 3).toInt.toNat (c).toInt8.toInt32) 44 3 ((μ0.1 44 3) + (1 : Int32))) r μ' := h
    replace h := tx_iconst (v := 1) (p' := 56) h em42_55 (by decide +kernel) rfl
    replace h := tx_isub (p' := 57) h em42_56 rfl
    obtain ⟨rfl, hμ⟩ := tx_ireturn h em42_57
    rw [hμ]
    exact (fR0_i (fR0_i (fR0_i (fR0_i fRm_rf (by decide)) (by decide)) (by decide)) (by decide))
  · replace c6 : ¬ (μ0.1 44 3).toInt < 20 := c6
    replace h := tx_iconst (v := (-1)) (p' := 10) h em42_9 (by decide +kernel) rfl
    obtain ⟨rfl, hμ⟩ := tx_ireturn h em42_10
    rw [hμ]
    exact fRm_rf
set_option maxRecDepth 10000 in
set_option maxHeartbeats 4000000 in
theorem fB_188 {a b c : Int32} {μ0 μ' : xM} {r : Option zV} (h0 : Ex gx xq_188 [.inr (.inl (some 75)), .inl a, .inl b, .inl c] μ0 r μ') : fRm fA0 fF0 μ0 μ' := by
  obtain ⟨n, h⟩ := tx_in (L := [some (.inr (.inl (some 75))), some (.inl a), some (.inl b), some (.inl c)]) h0 rfl
  replace h := tx_aload_n (p' := 1) h em188_0 rfl rfl
  replace h := tx_getf (c := 12) (j := 64) (p' := 4) h em188_1 ((congrFun xo_12 251).trans rfl) rfl rfl (by decide) rfl
  replace h := tx_bipush (v := 20) (p' := 6) h em188_4 (by decide +kernel) rfl
  rcases tx_icmp (t := 27) (p' := 9) h em188_6 (by decide) rfl with ⟨c6, h⟩ | ⟨c6, h⟩
  · replace c6 : (μ0.1 75 64).toInt = 20 := c6
    replace h := tx_iconst (v := (-1)) (p' := 28) h em188_27 (by decide +kernel) rfl
    obtain ⟨rfl, hμ⟩ := tx_ireturn h em188_28
    rw [hμ]
    exact fRm_rf
  · replace c6 : ¬ (μ0.1 75 64).toInt = 20 := c6
    replace h := tx_iload_n (p' := 10) h em188_9 rfl rfl
    obtain ⟨r10, μ10, hE10, h⟩ := tx_invS (na := 1) (mn := 154) (as := [.inl a]) (rest := []) (p' := 13) h em188_10 ((congrFun xo_12 408).trans rfl) xm_154 rfl rfl
    have hF10 : fRm fA0 fF0 μ0 μ10 := fRm_tr fRm_rf (fR1 xm_154 (by decide +kernel) hE10)
    obtain ⟨v10, rfl⟩ := ex_int154 hE10
    replace h : eT xq_188 _ 13 [some (.inr (.inl (some 75))), some (.inl a), some (.inl b), some (.inl c)] [.inl v10] μ10 r μ' := h
    rcases tx_if (t := 27) (p' := 16) h em188_13 (by decide) rfl with ⟨c13, h⟩ | ⟨c13, h⟩
    · replace c13 : v10.toInt = 0 := c13
      replace h := tx_iconst (v := (-1)) (p' := 28) h em188_27 (by decide +kernel) rfl
      obtain ⟨rfl, hμ⟩ := tx_ireturn h em188_28
      rw [hμ]
      exact hF10
    · replace c13 : ¬ v10.toInt = 0 := c13
      replace h := tx_iload_n (p' := 17) h em188_16 rfl rfl
      replace h := tx_iconst (v := 0) (p' := 18) h em188_17 (by decide +kernel) rfl
      replace h := tx_sipush (v := 999) (p' := 21) h em188_18 (by decide +kernel) rfl
      obtain ⟨r21, μ21, hE21, h⟩ := tx_invS (na := 3) (mn := 148) (as := [.inl b, .inl (0 : Int32), .inl (999 : Int32)]) (rest := []) (p' := 24) h em188_21 ((congrFun xo_12 324).trans rfl) xm_148 rfl rfl
      have hF21 : fRm fA0 fF0 μ0 μ21 := fRm_tr hF10 (fR1 xm_148 (by decide +kernel) hE21)
      obtain ⟨v21, rfl⟩ := ex_int148 hE21
      replace h : eT xq_188 _ 24 [some (.inr (.inl (some 75))), some (.inl a), some (.inl b), some (.inl c)] [.inl v21] μ21 r μ' := h
      rcases tx_if (t := 29) (p' := 27) h em188_24 (by decide) rfl with ⟨c24, h⟩ | ⟨c24, h⟩
      · replace c24 : ¬ v21.toInt = 0 := c24
        replace h := tx_aload_n (p' := 30) h em188_29 rfl rfl
        replace h := tx_getc (c := 12) (j := 65) (p' := 33) h em188_30 ((congrFun xo_12 134).trans rfl) rfl rfl rfl
        replace h := tx_aload_n (p' := 34) h em188_33 rfl rfl
        replace h := tx_getf (c := 12) (j := 64) (p' := 37) h em188_34 ((congrFun xo_12 251).trans rfl) rfl rfl (by decide) rfl
        replace h := tx_iload_n (p' := 38) h em188_37 rfl rfl
        obtain ⟨hb38, h⟩ := tx_iast (len := 20) (p' := 39) h em188_38 rfl rfl
        replace hb38 : 0 ≤ (μ21.1 75 64).toInt ∧ (μ21.1 75 64).toInt < 20 := hb38
        replace h := tx_aload_n (p' := 40) h em188_39 rfl rfl
        replace h := tx_getc (c := 12) (j := 66) (p' := 43) h em188_40 ((congrFun xo_12 137).trans rfl) rfl rfl rfl
        replace h := tx_aload_n (p' := 44) h em188_43 rfl rfl
        replace h := tx_getf (c := 12) (j := 64) (p' := 47) h em188_44 ((congrFun xo_12 251).trans rfl) rfl rfl (by decide) rfl
        replace h : eT xq_188 _ 47 [some (.inr (.inl (some 75))), some (.inl a), some (.inl b), some (.inl c)] [.inl (μ21.1 75 64), .inr (.inl (some 115))] (xpi μ21 114 (μ21.1 75 64).toInt.toNat a) r μ' := h
        replace h := tx_iload_n (p' := 48) h em188_47 rfl rfl
        obtain ⟨hb48, h⟩ := tx_iast (len := 20) (p' := 49) h em188_48 rfl rfl
        replace hb48 : 0 ≤ (μ21.1 75 64).toInt ∧ (μ21.1 75 64).toInt < 20 := hb48
        replace h := tx_aload_n (p' := 50) h em188_49 rfl rfl
        replace h := tx_getc (c := 12) (j := 67) (p' := 53) h em188_50 ((congrFun xo_12 140).trans rfl) rfl rfl rfl
        replace h := tx_aload_n (p' := 54) h em188_53 rfl rfl
        replace h := tx_getf (c := 12) (j := 64) (p' := 57) h em188_54 ((congrFun xo_12 251).trans rfl) rfl rfl (by decide) rfl
        replace h : eT xq_188 _ 57 [some (.inr (.inl (some 75))), some (.inl a), some (.inl b), some (.inl c)] [.inl (μ21.1 75 64), .inr (.inl (some 116))] (xpi (xpi μ21 114 (μ21.1 75 64).toInt.toNat a) 115 (μ21.1 75 64).toInt.toNat b) r μ' := h
        replace h := tx_iload_n (p' := 58) h em188_57 rfl rfl
        obtain ⟨hb58, h⟩ := tx_bast (len := 20) (p' := 59) h em188_58 rfl rfl
        replace hb58 : 0 ≤ (μ21.1 75 64).toInt ∧ (μ21.1 75 64).toInt < 20 := hb58
        replace h := tx_aload_n (p' := 60) h em188_59 rfl rfl
        replace h := tx_dup (p' := 61) h em188_60 rfl
        replace h := tx_getf (c := 12) (j := 64) (p' := 64) h em188_61 ((congrFun xo_12 251).trans rfl) rfl rfl (by decide) rfl
        replace h : eT xq_188 _ 64 [some (.inr (.inl (some 75))), some (.inl a), some (.inl b), some (.inl c)] [.inl (μ21.1 75 64), .inr (.inl (some 75))] (xpi (xpi (xpi μ21 114 (μ21.1 75 64).toInt.toNat a) 115 (μ21.1 75 64).toInt.toNat b) 116 (μ21.1 75 64).toInt.toNat (c).toInt8.toInt32) r μ' := h
        replace h := tx_iconst (v := 1) (p' := 65) h em188_64 (by decide +kernel) rfl
        replace h := tx_iadd (p' := 66) h em188_65 rfl
        replace h := tx_putf (a := 75) (c := 12) (j := 64) (p' := 69) h em188_66 ((congrFun xo_12 251).trans rfl) rfl
        replace h := tx_aload_n (p' := 70) h em188_69 rfl rfl
        replace h := tx_getf (c := 12) (j := 64) (p' := 73) h em188_70 ((congrFun xo_12 251).trans rfl) rfl rfl (by decide) rfl
        replace h : eT xq_188 _ 73 [some (.inr (.inl (some 75))), some (.inl a), some (.inl b), some (.inl c)] [.inl ((μ21.1 75 64) + (1 : Int32))] (xpi (xpi (xpi (xpi μ21 114 (μ21.1 75 64).toInt.toNat a) 115 (μ21.1 75 64).toInt.toNat b) 116 (μ21.1 75 64).toInt.toNat (c).toInt8.toInt32) 75 64 ((μ21.1 75 64) + (1 : Int32))) r μ' := h
        replace h := tx_iconst (v := 1) (p' := 74) h em188_73 (by decide +kernel) rfl
        replace h := tx_isub (p' := 75) h em188_74 rfl
        obtain ⟨rfl, hμ⟩ := tx_ireturn h em188_75
        rw [hμ]
        exact (fR0_i (fR0_i (fR0_i (fR0_i hF21 (by decide)) (by decide)) (by decide)) (by decide))
      · replace c24 : ¬ ¬ v21.toInt = 0 := c24
        replace h := tx_iconst (v := (-1)) (p' := 28) h em188_27 (by decide +kernel) rfl
        obtain ⟨rfl, hμ⟩ := tx_ireturn h em188_28
        rw [hμ]
        exact hF21
set_option maxRecDepth 10000 in
set_option maxHeartbeats 4000000 in
theorem fB_198 {a : Int32} {μ0 μ' : xM} {r : Option zV} (h0 : Ex gx xq_198 [.inr (.inl (some 75)), .inl a] μ0 r μ') : fRm fA0 fF0 μ0 μ' := by
  obtain ⟨n, h⟩ := tx_in (L := [some (.inr (.inl (some 75))), some (.inl a)]) h0 rfl
  replace h := tx_aload_n (p' := 1) h em198_0 rfl rfl
  replace h := tx_getc (c := 12) (j := 60) (p' := 4) h em198_1 ((congrFun xo_12 119).trans rfl) rfl rfl rfl
  replace h := tx_iload_n (p' := 5) h em198_4 rfl rfl
  replace h := tx_iconst (v := 0) (p' := 6) h em198_5 (by decide +kernel) rfl
  obtain ⟨hb6, h⟩ := tx_bast (len := 40) (p' := 7) h em198_6 rfl rfl
  replace hb6 : 0 ≤ a.toInt ∧ a.toInt < 40 := hb6
  replace h := tx_aload_n (p' := 8) h em198_7 rfl rfl
  replace h := tx_getc (c := 12) (j := 0) (p' := 11) h em198_8 ((congrFun xo_12 116).trans rfl) rfl rfl rfl
  replace h := tx_bipush (v := 40) (p' := 13) h em198_11 (by decide +kernel) rfl
  replace h := tx_iload_n (p' := 14) h em198_13 rfl rfl
  replace h := tx_iadd (p' := 15) h em198_14 rfl
  obtain ⟨hb15, h⟩ := tx_iald (len := 390) (p' := 16) h em198_15 rfl rfl
  replace hb15 : 0 ≤ ((40 : Int32) + a).toInt ∧ ((40 : Int32) + a).toInt < 390 := hb15
  replace h : eT xq_198 _ 16 [some (.inr (.inl (some 75))), some (.inl a)] [.inl (μ0.1 108 ((40 : Int32) + a).toInt.toNat)] (xpi μ0 109 a.toInt.toNat ((0 : Int32)).toInt8.toInt32) r μ' := h
  rcases tx_if (t := 20) (p' := 19) h em198_16 (by decide) rfl with ⟨c16, h⟩ | ⟨c16, h⟩
  · replace c16 : ¬ (μ0.1 108 ((40 : Int32) + a).toInt.toNat).toInt = 0 := c16
    replace h := tx_aload_n (p' := 21) h em198_20 rfl rfl
    replace h := tx_getc (c := 12) (j := 0) (p' := 24) h em198_21 ((congrFun xo_12 116).trans rfl) rfl rfl rfl
    replace h := tx_bipush (v := 80) (p' := 26) h em198_24 (by decide +kernel) rfl
    replace h := tx_iload_n (p' := 27) h em198_26 rfl rfl
    replace h := tx_iadd (p' := 28) h em198_27 rfl
    replace h := tx_aload_n (p' := 29) h em198_28 rfl rfl
    replace h := tx_getc (c := 12) (j := 0) (p' := 32) h em198_29 ((congrFun xo_12 116).trans rfl) rfl rfl rfl
    replace h := tx_bipush (v := 80) (p' := 34) h em198_32 (by decide +kernel) rfl
    replace h := tx_iload_n (p' := 35) h em198_34 rfl rfl
    replace h := tx_iadd (p' := 36) h em198_35 rfl
    obtain ⟨hb36, h⟩ := tx_iald (len := 390) (p' := 37) h em198_36 rfl rfl
    replace hb36 : 0 ≤ ((80 : Int32) + a).toInt ∧ ((80 : Int32) + a).toInt < 390 := hb36
    replace h : eT xq_198 _ 37 [some (.inr (.inl (some 75))), some (.inl a)] [.inl (μ0.1 108 ((80 : Int32) + a).toInt.toNat), .inl ((80 : Int32) + a), .inr (.inl (some 108))] (xpi μ0 109 a.toInt.toNat ((0 : Int32)).toInt8.toInt32) r μ' := h
    replace h := tx_aload_n (p' := 38) h em198_37 rfl rfl
    replace h := tx_getc (c := 12) (j := 0) (p' := 41) h em198_38 ((congrFun xo_12 116).trans rfl) rfl rfl rfl
    replace h := tx_bipush (v := 40) (p' := 43) h em198_41 (by decide +kernel) rfl
    replace h := tx_iload_n (p' := 44) h em198_43 rfl rfl
    replace h := tx_iadd (p' := 45) h em198_44 rfl
    obtain ⟨hb45, h⟩ := tx_iald (len := 390) (p' := 46) h em198_45 rfl rfl
    replace hb45 : 0 ≤ ((40 : Int32) + a).toInt ∧ ((40 : Int32) + a).toInt < 390 := hb45
    replace h : eT xq_198 _ 46 [some (.inr (.inl (some 75))), some (.inl a)] [.inl (μ0.1 108 ((40 : Int32) + a).toInt.toNat), .inl (μ0.1 108 ((80 : Int32) + a).toInt.toNat), .inl ((80 : Int32) + a), .inr (.inl (some 108))] (xpi μ0 109 a.toInt.toNat ((0 : Int32)).toInt8.toInt32) r μ' := h
    replace h := tx_aload_n (p' := 47) h em198_46 rfl rfl
    replace h := tx_getc (c := 12) (j := 15) (p' := 50) h em198_47 ((congrFun xo_12 122).trans rfl) rfl rfl rfl
    replace h := tx_iload_n (p' := 51) h em198_50 rfl rfl
    obtain ⟨hb51, h⟩ := tx_iald (len := 40) (p' := 52) h em198_51 rfl rfl
    replace hb51 : 0 ≤ a.toInt ∧ a.toInt < 40 := hb51
    replace h : eT xq_198 _ 52 [some (.inr (.inl (some 75))), some (.inl a)] [.inl (μ0.1 110 a.toInt.toNat), .inl (μ0.1 108 ((40 : Int32) + a).toInt.toNat), .inl (μ0.1 108 ((80 : Int32) + a).toInt.toNat), .inl ((80 : Int32) + a), .inr (.inl (some 108))] (xpi μ0 109 a.toInt.toNat ((0 : Int32)).toInt8.toInt32) r μ' := h
    replace h := tx_imul (p' := 53) h em198_52 rfl
    replace h := tx_iadd (p' := 54) h em198_53 rfl
    replace h := tx_iconst (v := 0) (p' := 55) h em198_54 (by decide +kernel) rfl
    replace h := tx_sipush (v := 999) (p' := 58) h em198_55 (by decide +kernel) rfl
    obtain ⟨r58, μ58, hE58, h⟩ := tx_invS (na := 3) (mn := 145) (as := [.inl ((μ0.1 108 ((80 : Int32) + a).toInt.toNat) + ((μ0.1 108 ((40 : Int32) + a).toInt.toNat) * (μ0.1 110 a.toInt.toNat))), .inl (0 : Int32), .inl (999 : Int32)]) (rest := [.inl ((80 : Int32) + a), .inr (.inl (some 108))]) (p' := 61) h em198_58 ((congrFun xo_12 362).trans rfl) xm_145 rfl rfl
    have hF58 : fRm fA0 fF0 μ0 μ58 := fRm_tr (fR0_i fRm_rf (by decide)) (fR1 xm_145 (by decide +kernel) hE58)
    obtain ⟨v58, rfl⟩ := ex_int145 hE58
    replace h : eT xq_198 _ 61 [some (.inr (.inl (some 75))), some (.inl a)] [.inl v58, .inl ((80 : Int32) + a), .inr (.inl (some 108))] μ58 r μ' := h
    obtain ⟨hb61, h⟩ := tx_iast (len := 390) (p' := 62) h em198_61 rfl rfl
    replace hb61 : 0 ≤ ((80 : Int32) + a).toInt ∧ ((80 : Int32) + a).toInt < 390 := hb61
    replace h := tx_aload_n (p' := 63) h em198_62 rfl rfl
    replace h := tx_getc (c := 12) (j := 0) (p' := 66) h em198_63 ((congrFun xo_12 116).trans rfl) rfl rfl rfl
    replace h := tx_bipush (v := 80) (p' := 68) h em198_66 (by decide +kernel) rfl
    replace h := tx_iload_n (p' := 69) h em198_68 rfl rfl
    replace h := tx_iadd (p' := 70) h em198_69 rfl
    obtain ⟨hb70, h⟩ := tx_iald (len := 390) (p' := 71) h em198_70 rfl rfl
    replace hb70 : 0 ≤ ((80 : Int32) + a).toInt ∧ ((80 : Int32) + a).toInt < 390 := hb70
    replace h := tx_aload_n (p' := 72) h em198_71 rfl rfl
    replace h := tx_getc (c := 12) (j := 40) (p' := 75) h em198_72 ((congrFun xo_12 64).trans rfl) rfl rfl rfl
    replace h := tx_aload_n (p' := 76) h em198_75 rfl rfl
    replace h := tx_getf (c := 12) (j := 2) (p' := 79) h em198_76 ((congrFun xo_12 230).trans rfl) rfl rfl (by decide) rfl
    replace h : eT xq_198 _ 79 [some (.inr (.inl (some 75))), some (.inl a)] [.inl (μ58.1 75 2), .inr (.inl (some 91)), .inl ((xpi μ58 108 ((80 : Int32) + a).toInt.toNat v58).1 108 ((80 : Int32) + a).toInt.toNat)] (xpi μ58 108 ((80 : Int32) + a).toInt.toNat v58) r μ' := h
    obtain ⟨hb79, h⟩ := tx_iald (len := 2) (p' := 80) h em198_79 rfl rfl
    replace hb79 : 0 ≤ (μ58.1 75 2).toInt ∧ (μ58.1 75 2).toInt < 2 := hb79
    replace h : eT xq_198 _ 80 [some (.inr (.inl (some 75))), some (.inl a)] [.inl (μ58.1 91 (μ58.1 75 2).toInt.toNat), .inl ((xpi μ58 108 ((80 : Int32) + a).toInt.toNat v58).1 108 ((80 : Int32) + a).toInt.toNat)] (xpi μ58 108 ((80 : Int32) + a).toInt.toNat v58) r μ' := h
    rcases tx_icmp (t := 84) (p' := 83) h em198_80 (by decide) rfl with ⟨c80, h⟩ | ⟨c80, h⟩
    · replace c80 : (μ58.1 91 (μ58.1 75 2).toInt.toNat).toInt ≤ ((xpi μ58 108 ((80 : Int32) + a).toInt.toNat v58).1 108 ((80 : Int32) + a).toInt.toNat).toInt := c80
      replace h := tx_aload_n (p' := 85) h em198_84 rfl rfl
      replace h := tx_getc (c := 12) (j := 0) (p' := 88) h em198_85 ((congrFun xo_12 116).trans rfl) rfl rfl rfl
      replace h := tx_bipush (v := 80) (p' := 90) h em198_88 (by decide +kernel) rfl
      replace h := tx_iload_n (p' := 91) h em198_90 rfl rfl
      replace h := tx_iadd (p' := 92) h em198_91 rfl
      replace h := tx_iconst (v := 0) (p' := 93) h em198_92 (by decide +kernel) rfl
      obtain ⟨hb93, h⟩ := tx_iast (len := 390) (p' := 94) h em198_93 rfl rfl
      replace hb93 : 0 ≤ ((80 : Int32) + a).toInt ∧ ((80 : Int32) + a).toInt < 390 := hb93
      replace h := tx_aload_n (p' := 95) h em198_94 rfl rfl
      replace h := tx_getc (c := 12) (j := 0) (p' := 98) h em198_95 ((congrFun xo_12 116).trans rfl) rfl rfl rfl
      replace h := tx_iload_n (p' := 99) h em198_98 rfl rfl
      obtain ⟨hb99, h⟩ := tx_iald (len := 390) (p' := 100) h em198_99 rfl rfl
      replace hb99 : 0 ≤ a.toInt ∧ a.toInt < 390 := hb99
      rcases tx_if (t := 104) (p' := 103) h em198_100 (by decide) rfl with ⟨c100, h⟩ | ⟨c100, h⟩
      · replace c100 : ¬ ((xpi (xpi μ58 108 ((80 : Int32) + a).toInt.toNat v58) 108 ((80 : Int32) + a).toInt.toNat (0 : Int32)).1 108 a.toInt.toNat).toInt = 0 := c100
        replace h := tx_aload_n (p' := 105) h em198_104 rfl rfl
        replace h := tx_getc (c := 12) (j := 0) (p' := 108) h em198_105 ((congrFun xo_12 116).trans rfl) rfl rfl rfl
        replace h := tx_iload_n (p' := 109) h em198_108 rfl rfl
        replace h := tx_dup2 (p' := 110) h em198_109 rfl
        obtain ⟨hb110, h⟩ := tx_iald (len := 390) (p' := 111) h em198_110 rfl rfl
        replace hb110 : 0 ≤ a.toInt ∧ a.toInt < 390 := hb110
        replace h := tx_iconst (v := 1) (p' := 112) h em198_111 (by decide +kernel) rfl
        replace h := tx_isub (p' := 113) h em198_112 rfl
        obtain ⟨hb113, h⟩ := tx_iast (len := 390) (p' := 114) h em198_113 rfl rfl
        replace hb113 : 0 ≤ a.toInt ∧ a.toInt < 390 := hb113
        replace h := tx_aload_n (p' := 115) h em198_114 rfl rfl
        replace h := tx_getc (c := 12) (j := 0) (p' := 118) h em198_115 ((congrFun xo_12 116).trans rfl) rfl rfl rfl
        replace h := tx_sipush (v := 388) (p' := 121) h em198_118 (by decide +kernel) rfl
        replace h := tx_dup2 (p' := 122) h em198_121 rfl
        obtain ⟨hb122, h⟩ := tx_iald (len := 390) (p' := 123) h em198_122 rfl rfl
        replace hb122 : 0 ≤ 388 ∧ 388 < 390 := hb122
        replace h := tx_iconst (v := 1) (p' := 124) h em198_123 (by decide +kernel) rfl
        replace h := tx_iadd (p' := 125) h em198_124 rfl
        obtain ⟨hb125, h⟩ := tx_iast (len := 390) (p' := 126) h em198_125 rfl rfl
        replace hb125 : 0 ≤ 388 ∧ 388 < 390 := hb125
        replace h := tx_aload_n (p' := 127) h em198_126 rfl rfl
        replace h := tx_getc (c := 12) (j := 60) (p' := 130) h em198_127 ((congrFun xo_12 119).trans rfl) rfl rfl rfl
        replace h := tx_iload_n (p' := 131) h em198_130 rfl rfl
        replace h := tx_iconst (v := 1) (p' := 132) h em198_131 (by decide +kernel) rfl
        obtain ⟨hb132, h⟩ := tx_bast (len := 40) (p' := 133) h em198_132 rfl rfl
        replace hb132 : 0 ≤ a.toInt ∧ a.toInt < 40 := hb132
        obtain ⟨rfl, hμ⟩ := tx_return h em198_133
        rw [hμ]
        exact (fR0_i (fR0_i (fR0_i (fR0_i (fR0_i hF58 (by decide)) (by decide)) (by decide)) (by decide)) (by decide))
      · replace c100 : ¬ ¬ ((xpi (xpi μ58 108 ((80 : Int32) + a).toInt.toNat v58) 108 ((80 : Int32) + a).toInt.toNat (0 : Int32)).1 108 a.toInt.toNat).toInt = 0 := c100
        obtain ⟨rfl, hμ⟩ := tx_return h em198_103
        rw [hμ]
        exact (fR0_i (fR0_i hF58 (by decide)) (by decide))
    · replace c80 : ¬ (μ58.1 91 (μ58.1 75 2).toInt.toNat).toInt ≤ ((xpi μ58 108 ((80 : Int32) + a).toInt.toNat v58).1 108 ((80 : Int32) + a).toInt.toNat).toInt := c80
      obtain ⟨rfl, hμ⟩ := tx_return h em198_83
      rw [hμ]
      exact (fR0_i hF58 (by decide))
  · replace c16 : ¬ ¬ (μ0.1 108 ((40 : Int32) + a).toInt.toNat).toInt = 0 := c16
    obtain ⟨rfl, hμ⟩ := tx_return h em198_19
    rw [hμ]
    exact (fR0_i fRm_rf (by decide))
set_option maxRecDepth 10000 in
set_option maxHeartbeats 4000000 in
theorem fB_146 {a : Int32} {μ0 μ' : xM} {r : Option zV} (h0 : Ex gx xq_146 [.inr (.inl (some 75)), .inl a] μ0 r μ') : fRm fA0 fF0 μ0 μ' := by
  obtain ⟨n, h⟩ := tx_in (L := [some (.inr (.inl (some 75))), some (.inl a), none]) h0 rfl
  have loop : ∀ (n : Nat) (i : Int32) (ω : xM), eT xq_146 n 20 [some (.inr (.inl (some 75))), some (.inl a), some (.inl i)] [] ω r μ' → fRm fA0 fF0 μ0 ω → fRm fA0 fF0 μ0 μ' := by
    intro n
    induction n using Nat.strongRecOn with
    | ind n ih =>
    intro i ω h hω
    replace h := tx_iload_n (p' := 21) h em146_20 rfl rfl
    replace h := tx_sipush (v := 390) (p' := 24) h em146_21 (by decide +kernel) rfl
    rcases tx_icmp (t := 51) (p' := 27) h em146_24 (by decide) rfl with ⟨c24, h⟩ | ⟨c24, h⟩
    · replace c24 : 390 ≤ i.toInt := c24
      replace h := tx_iconst (v := 1) (p' := 52) h em146_51 (by decide +kernel) rfl
      obtain ⟨rfl, hμ⟩ := tx_ireturn h em146_52
      rw [hμ]
      exact fRm_tr hω fRm_rf
    · replace c24 : ¬ 390 ≤ i.toInt := c24
      replace h := tx_aload_n (p' := 28) h em146_27 rfl rfl
      replace h := tx_getc (c := 12) (j := 69) (p' := 31) h em146_28 ((congrFun xo_12 146).trans rfl) rfl rfl rfl
      replace h := tx_sipush (v := 390) (p' := 34) h em146_31 (by decide +kernel) rfl
      replace h := tx_iload_n (p' := 35) h em146_34 rfl rfl
      replace h := tx_imul (p' := 36) h em146_35 rfl
      replace h := tx_iload_n (p' := 37) h em146_36 rfl rfl
      replace h := tx_iadd (p' := 38) h em146_37 rfl
      replace h := tx_aload_n (p' := 39) h em146_38 rfl rfl
      replace h := tx_getc (c := 12) (j := 1) (p' := 42) h em146_39 ((congrFun xo_12 113).trans rfl) rfl rfl rfl
      replace h := tx_iload_n (p' := 43) h em146_42 rfl rfl
      obtain ⟨hb43, h⟩ := tx_iald (len := 390) (p' := 44) h em146_43 rfl rfl
      replace hb43 : 0 ≤ i.toInt ∧ i.toInt < 390 := hb43
      obtain ⟨hb44, h⟩ := tx_iast (len := 1170) (p' := 45) h em146_44 rfl rfl
      replace hb44 : 0 ≤ (((390 : Int32) * a) + i).toInt ∧ (((390 : Int32) * a) + i).toInt < 1170 := hb44
      replace h := tx_iinc (v := 1) (p' := 48) h em146_45 (by decide +kernel) rfl rfl
      replace h : eT xq_146 _ 48 [some (.inr (.inl (some 75))), some (.inl a), some (.inl (i + 1))] [] (xpi ω 118 (((390 : Int32) * a) + i).toInt.toNat (ω.1 107 i.toInt.toNat)) r μ' := h
      obtain ⟨n2, hn2, h⟩ := tx_gotoS (t := 20) h em146_48 (by decide)
      exact ih n2 hn2 _ _ h (fRm_tr hω (fR0_i fRm_rf (by decide)))
  replace h := tx_iload_n (p' := 1) h em146_0 rfl rfl
  replace h := tx_iconst (v := 0) (p' := 2) h em146_1 (by decide +kernel) rfl
  replace h := tx_iconst (v := 2) (p' := 3) h em146_2 (by decide +kernel) rfl
  obtain ⟨r3, μ3, hE3, h⟩ := tx_invS (na := 3) (mn := 148) (as := [.inl a, .inl (0 : Int32), .inl (2 : Int32)]) (rest := []) (p' := 6) h em146_3 ((congrFun xo_12 324).trans rfl) xm_148 rfl rfl
  have hF3 : fRm fA0 fF0 μ0 μ3 := fRm_tr fRm_rf (fR1 xm_148 (by decide +kernel) hE3)
  obtain ⟨v3, rfl⟩ := ex_int148 hE3
  replace h : eT xq_146 _ 6 [some (.inr (.inl (some 75))), some (.inl a), none] [.inl v3] μ3 r μ' := h
  rcases tx_if (t := 11) (p' := 9) h em146_6 (by decide) rfl with ⟨c6, h⟩ | ⟨c6, h⟩
  · replace c6 : ¬ v3.toInt = 0 := c6
    replace h := tx_aload_n (p' := 12) h em146_11 rfl rfl
    replace h := tx_getc (c := 12) (j := 68) (p' := 15) h em146_12 ((congrFun xo_12 143).trans rfl) rfl rfl rfl
    replace h := tx_iload_n (p' := 16) h em146_15 rfl rfl
    replace h := tx_iconst (v := 1) (p' := 17) h em146_16 (by decide +kernel) rfl
    obtain ⟨hb17, h⟩ := tx_bast (len := 3) (p' := 18) h em146_17 rfl rfl
    replace hb17 : 0 ≤ a.toInt ∧ a.toInt < 3 := hb17
    replace h := tx_iconst (v := 0) (p' := 19) h em146_18 (by decide +kernel) rfl
    replace h := tx_istore_n (p' := 20) h em146_19 rfl
    replace h : eT xq_146 _ 20 [some (.inr (.inl (some 75))), some (.inl a), some (.inl (0 : Int32))] [] (xpi μ3 117 a.toInt.toNat ((1 : Int32)).toInt8.toInt32) r μ' := h
    exact loop _ _ _ h (fR0_i hF3 (by decide))
  · replace c6 : ¬ ¬ v3.toInt = 0 := c6
    replace h := tx_iconst (v := 0) (p' := 10) h em146_9 (by decide +kernel) rfl
    obtain ⟨rfl, hμ⟩ := tx_ireturn h em146_10
    rw [hμ]
    exact hF3
set_option maxRecDepth 10000 in
set_option maxHeartbeats 4000000 in
theorem fB_74 {μ0 μ' : xM} {r : Option zV} (h0 : Ex gx xq_74 [.inr (.inl (some 0))] μ0 r μ') : fRm fA0 fF0 μ0 μ' := by
  obtain ⟨n, h⟩ := tx_in (L := [some (.inr (.inl (some 0))), none]) h0 rfl
  have loop : ∀ (n : Nat) (i : Int32) (ω : xM), eT xq_74 n 29 [some (.inr (.inl (some 0))), some (.inl i)] [] ω r μ' → fRm fA0 fF0 μ0 ω → fRm fA0 fF0 μ0 μ' := by
    intro n
    induction n using Nat.strongRecOn with
    | ind n ih =>
    intro i ω h hω
    replace h := tx_iload_n (p' := 30) h em74_29 rfl rfl
    replace h := tx_iconst (v := 3) (p' := 31) h em74_30 (by decide +kernel) rfl
    rcases tx_icmp (t := 47) (p' := 34) h em74_31 (by decide) rfl with ⟨c31, h⟩ | ⟨c31, h⟩
    · replace c31 : 3 ≤ i.toInt := c31
      obtain ⟨rfl, hμ⟩ := tx_return h em74_47
      rw [hμ]
      exact fRm_tr hω fRm_rf
    · replace c31 : ¬ 3 ≤ i.toInt := c31
      replace h := tx_aload_n (p' := 35) h em74_34 rfl rfl
      replace h := tx_getc (c := 11) (j := 12) (p' := 38) h em74_35 ((congrFun xo_0 57).trans rfl) rfl rfl rfl
      replace h := tx_iload_n (p' := 39) h em74_38 rfl rfl
      replace h := tx_iconst (v := 0) (p' := 40) h em74_39 (by decide +kernel) rfl
      obtain ⟨hb40, h⟩ := tx_bast (len := 3) (p' := 41) h em74_40 rfl rfl
      replace hb40 : 0 ≤ i.toInt ∧ i.toInt < 3 := hb40
      replace h := tx_iinc (v := 1) (p' := 44) h em74_41 (by decide +kernel) rfl rfl
      replace h : eT xq_74 _ 44 [some (.inr (.inl (some 0))), some (.inl (i + 1))] [] (xpi ω 43 i.toInt.toNat ((0 : Int32)).toInt8.toInt32) r μ' := h
      obtain ⟨n2, hn2, h⟩ := tx_gotoS (t := 29) h em74_44 (by decide)
      exact ih n2 hn2 _ _ h (fRm_tr hω (fR0_i fRm_rf (by decide)))
  replace h := tx_aload_n (p' := 1) h em74_0 rfl rfl
  replace h := tx_getc (c := 11) (j := 1) (p' := 4) h em74_1 ((congrFun xo_0 39).trans rfl) rfl rfl rfl
  replace h := tx_aload_n (p' := 5) h em74_4 rfl rfl
  replace h := tx_getc (c := 11) (j := 0) (p' := 8) h em74_5 ((congrFun xo_0 23).trans rfl) rfl rfl rfl
  obtain ⟨r8, μ8, hE8, h⟩ := tx_invV (na := 2) (mn := 50) (as := [.inr (.inl (some 28)), .inr (.inl (some 2))]) (rest := []) (p' := 11) h em74_8 ((congrFun xo_0 127).trans rfl) xm_50 rfl rfl
  have hF8 : fRm fA0 fF0 μ0 μ8 := fRm_tr fRm_rf (fR1 xm_50 (by decide +kernel) hE8)
  have er8 : r8 = none := ex_void [0, 1, 4, 5, 6, 9, 10, 12, 15, 16, 19, 20, 23, 24, 27, 28, 31, 32, 35, 36, 39, 40, 41, 44, 45, 46, 49, 50, 51, 54, 55, 56, 59, 60, 61, 64, 65] (by decide +kernel) hE8
  subst er8
  replace h : eT xq_74 _ 11 [some (.inr (.inl (some 0))), none] [] μ8 r μ' := h
  replace h := tx_aload_n (p' := 12) h em74_11 rfl rfl
  replace h := tx_getc (c := 11) (j := 8) (p' := 15) h em74_12 ((congrFun xo_0 49).trans rfl) rfl rfl rfl
  replace h := tx_iconst (v := 0) (p' := 16) h em74_15 (by decide +kernel) rfl
  replace h := tx_putf (a := 40) (c := 0) (j := 2) (p' := 19) h em74_16 ((congrFun xo_0 130).trans rfl) rfl
  replace h := tx_aload_n (p' := 20) h em74_19 rfl rfl
  replace h := tx_getc (c := 11) (j := 13) (p' := 23) h em74_20 ((congrFun xo_0 64).trans rfl) rfl rfl rfl
  replace h := tx_iconst (v := 0) (p' := 24) h em74_23 (by decide +kernel) rfl
  replace h := tx_putf (a := 44) (c := 5) (j := 3) (p' := 27) h em74_24 ((congrFun xo_0 133).trans rfl) rfl
  replace h := tx_iconst (v := 0) (p' := 28) h em74_27 (by decide +kernel) rfl
  replace h := tx_istore_n (p' := 29) h em74_28 rfl
  replace h : eT xq_74 _ 29 [some (.inr (.inl (some 0))), some (.inl (0 : Int32))] [] (xpi (xpi μ8 40 2 (0 : Int32)) 44 3 (0 : Int32)) r μ' := h
  exact loop _ _ _ h (fR0_i (fR0_i hF8 (by decide)) (by decide))
set_option maxRecDepth 10000 in
set_option maxHeartbeats 4000000 in
theorem fB_86 {a : Int32} {μ0 μ' : xM} {r : Option zV} (h0 : Ex gx xq_86 [.inr (.inl (some 0)), .inl a] μ0 r μ') : fRm fA0 fF0 μ0 μ' := by
  obtain ⟨n, h⟩ := tx_in (L := [some (.inr (.inl (some 0))), some (.inl a)]) h0 rfl
  replace h := tx_iload_n (p' := 1) h em86_0 rfl rfl
  rcases tx_if (t := 9) (p' := 4) h em86_1 (by decide) rfl with ⟨c1, h⟩ | ⟨c1, h⟩
  · replace c1 : a.toInt < 0 := c1
    replace h := tx_iconst (v := 0) (p' := 10) h em86_9 (by decide +kernel) rfl
    obtain ⟨rfl, hμ⟩ := tx_ireturn h em86_10
    rw [hμ]
    exact fRm_rf
  · replace c1 : ¬ a.toInt < 0 := c1
    replace h := tx_iload_n (p' := 5) h em86_4 rfl rfl
    replace h := tx_iconst (v := 3) (p' := 6) h em86_5 (by decide +kernel) rfl
    rcases tx_icmp (t := 11) (p' := 9) h em86_6 (by decide) rfl with ⟨c6, h⟩ | ⟨c6, h⟩
    · replace c6 : a.toInt < 3 := c6
      replace h := tx_aload_n (p' := 12) h em86_11 rfl rfl
      replace h := tx_getc (c := 11) (j := 11) (p' := 15) h em86_12 ((congrFun xo_0 53).trans rfl) rfl rfl rfl
      replace h := tx_iload_n (p' := 16) h em86_15 rfl rfl
      obtain ⟨hb16, h⟩ := tx_aald (len := 3) (p' := 17) h em86_16 rfl rfl
      replace hb16 : 0 ≤ a.toInt ∧ a.toInt < 3 := hb16
      rcases tx_ifnonnull (t := 33) (p' := 20) h em86_17 (by decide) rfl with ⟨c17, h⟩ | ⟨c17, h⟩
      · replace h := tx_aload_n (p' := 21) h em86_20 rfl rfl
        replace h := tx_getc (c := 11) (j := 11) (p' := 24) h em86_21 ((congrFun xo_0 53).trans rfl) rfl rfl rfl
        replace h := tx_iload_n (p' := 25) h em86_24 rfl rfl
        replace h := tx_new h em86_25
        replace h : eT xq_86 _ 32 [some (.inr (.inl (some 0))), some (.inl a)] [.inr (.inl (some μ0.2.2.2)), .inl a, .inr (.inl (some 42))] (xnew μ0) r μ' := h
        obtain ⟨hb32, h⟩ := tx_aast (len := 3) (p' := 33) h em86_32 rfl rfl
        replace hb32 : 0 ≤ a.toInt ∧ a.toInt < 3 := hb32
        replace h := tx_aload_n (p' := 34) h em86_33 rfl rfl
        replace h := tx_getc (c := 11) (j := 11) (p' := 37) h em86_34 ((congrFun xo_0 53).trans rfl) rfl rfl rfl
        replace h := tx_iload_n (p' := 38) h em86_37 rfl rfl
        obtain ⟨hb38, h⟩ := tx_aald (len := 3) (p' := 39) h em86_38 rfl rfl
        replace hb38 : 0 ≤ a.toInt ∧ a.toInt < 3 := hb38
        replace h := tx_aload_n (p' := 40) h em86_39 rfl rfl
        replace h := tx_getc (c := 11) (j := 1) (p' := 43) h em86_40 ((congrFun xo_0 39).trans rfl) rfl rfl rfl
        obtain ⟨r43, μ43, hE43, h⟩ := tx_invV (na := 2) (mn := 49) (as := [.inr (.inl ((xpr (xnew μ0) 42 a.toInt.toNat (some μ0.2.2.2)).2.2.1 42 a.toInt.toNat)), .inr (.inl (some 28))]) (rest := []) (p' := 46) h em86_43 ((congrFun xo_0 275).trans rfl) xm_49 rfl rfl
        have hF43 : fRm fA0 fF0 μ0 μ43 := fRm_tr (fR0_r (fR0_n fRm_rf)) (fR1 xm_49 (by decide +kernel) hE43)
        have er43 : r43 = none := ex_void [0, 1, 4, 5, 6, 9, 10, 12, 15, 16, 19, 20, 21, 24, 25, 27, 30, 31, 34, 35, 36, 39, 40, 42, 45, 46, 49, 50, 51, 54, 55, 58, 61, 62, 65, 66, 67, 70, 71, 73, 76, 77, 78, 81, 84, 85, 86, 89, 92, 93, 94, 97, 100, 101, 102, 105, 108, 109, 110, 113, 116, 117] (by decide +kernel) hE43
        subst er43
        replace h : eT xq_86 _ 46 [some (.inr (.inl (some 0))), some (.inl a)] [] μ43 r μ' := h
        replace h := tx_aload_n (p' := 47) h em86_46 rfl rfl
        replace h := tx_getc (c := 11) (j := 12) (p' := 50) h em86_47 ((congrFun xo_0 57).trans rfl) rfl rfl rfl
        replace h := tx_iload_n (p' := 51) h em86_50 rfl rfl
        replace h := tx_iconst (v := 1) (p' := 52) h em86_51 (by decide +kernel) rfl
        obtain ⟨hb52, h⟩ := tx_bast (len := 3) (p' := 53) h em86_52 rfl rfl
        replace hb52 : 0 ≤ a.toInt ∧ a.toInt < 3 := hb52
        replace h := tx_iconst (v := 1) (p' := 54) h em86_53 (by decide +kernel) rfl
        obtain ⟨rfl, hμ⟩ := tx_ireturn h em86_54
        rw [hμ]
        exact (fR0_i hF43 (by decide))
      · replace h := tx_aload_n (p' := 34) h em86_33 rfl rfl
        replace h := tx_getc (c := 11) (j := 11) (p' := 37) h em86_34 ((congrFun xo_0 53).trans rfl) rfl rfl rfl
        replace h := tx_iload_n (p' := 38) h em86_37 rfl rfl
        obtain ⟨hb38_1, h⟩ := tx_aald (len := 3) (p' := 39) h em86_38 rfl rfl
        replace hb38_1 : 0 ≤ a.toInt ∧ a.toInt < 3 := hb38_1
        replace h := tx_aload_n (p' := 40) h em86_39 rfl rfl
        replace h := tx_getc (c := 11) (j := 1) (p' := 43) h em86_40 ((congrFun xo_0 39).trans rfl) rfl rfl rfl
        obtain ⟨r43_1, μ43_1, hE43_1, h⟩ := tx_invV (na := 2) (mn := 49) (as := [.inr (.inl (μ0.2.2.1 42 a.toInt.toNat)), .inr (.inl (some 28))]) (rest := []) (p' := 46) h em86_43 ((congrFun xo_0 275).trans rfl) xm_49 rfl rfl
        have hF43_1 : fRm fA0 fF0 μ0 μ43_1 := fRm_tr fRm_rf (fR1 xm_49 (by decide +kernel) hE43_1)
        have er43_1 : r43_1 = none := ex_void [0, 1, 4, 5, 6, 9, 10, 12, 15, 16, 19, 20, 21, 24, 25, 27, 30, 31, 34, 35, 36, 39, 40, 42, 45, 46, 49, 50, 51, 54, 55, 58, 61, 62, 65, 66, 67, 70, 71, 73, 76, 77, 78, 81, 84, 85, 86, 89, 92, 93, 94, 97, 100, 101, 102, 105, 108, 109, 110, 113, 116, 117] (by decide +kernel) hE43_1
        subst er43_1
        replace h : eT xq_86 _ 46 [some (.inr (.inl (some 0))), some (.inl a)] [] μ43_1 r μ' := h
        replace h := tx_aload_n (p' := 47) h em86_46 rfl rfl
        replace h := tx_getc (c := 11) (j := 12) (p' := 50) h em86_47 ((congrFun xo_0 57).trans rfl) rfl rfl rfl
        replace h := tx_iload_n (p' := 51) h em86_50 rfl rfl
        replace h := tx_iconst (v := 1) (p' := 52) h em86_51 (by decide +kernel) rfl
        obtain ⟨hb52_1, h⟩ := tx_bast (len := 3) (p' := 53) h em86_52 rfl rfl
        replace hb52_1 : 0 ≤ a.toInt ∧ a.toInt < 3 := hb52_1
        replace h := tx_iconst (v := 1) (p' := 54) h em86_53 (by decide +kernel) rfl
        obtain ⟨rfl, hμ⟩ := tx_ireturn h em86_54
        rw [hμ]
        exact (fR0_i hF43_1 (by decide))
    · replace c6 : ¬ a.toInt < 3 := c6
      replace h := tx_iconst (v := 0) (p' := 10) h em86_9 (by decide +kernel) rfl
      obtain ⟨rfl, hμ⟩ := tx_ireturn h em86_10
      rw [hμ]
      exact fRm_rf
