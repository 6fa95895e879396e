/-! the first contract by this way: CapitalCaseModel.in -/
theorem e40_0 : decode prog_14_method_40_code 0 = .ok (.iload_n 0, 1) := by decide +kernel
theorem e40_1 : decode prog_14_method_40_code 1 = .ok (.iload_n 1, 1) := by decide +kernel
theorem e40_2 : decode prog_14_method_40_code 2 = .ok (.if_icmp .lt 12, 3) := by decide +kernel
theorem e40_5 : decode prog_14_method_40_code 5 = .ok (.iload_n 0, 1) := by decide +kernel
theorem e40_6 : decode prog_14_method_40_code 6 = .ok (.iload_n 2, 1) := by decide +kernel
theorem e40_7 : decode prog_14_method_40_code 7 = .ok (.if_icmp .gt 7, 3) := by decide +kernel
theorem e40_10 : decode prog_14_method_40_code 10 = .ok (.iconst 1, 1) := by decide +kernel
theorem e40_11 : decode prog_14_method_40_code 11 = .ok (.goto 4, 3) := by decide +kernel
theorem e40_14 : decode prog_14_method_40_code 14 = .ok (.iconst 0, 1) := by decide +kernel
theorem e40_15 : decode prog_14_method_40_code 15 = .ok (.ireturn, 1) := by decide +kernel
def zT_in (pc : Nat) : Option zF := match pc with
  | 0 => some (z_iload 0 1)
  | 1 => some (z_iload 1 2)
  | 2 => some (z_icmp 2 14 5)
  | 5 => some (z_iload 0 6)
  | 6 => some (z_iload 2 7)
  | 7 => some (z_icmp 4 14 10)
  | 10 => some (z_const 1 11)
  | 11 => some (z_goto 15)
  | 14 => some (z_const 0 15)
  | _ => none
theorem zT_in_ok {g : zG} {PX : xPX} {bd : Nat → Nat × Nat} {pre : zPre} {post : zPost} {d : Nat × Nat × Nat} : ∀ (pc : Nat) (f : zF), zT_in pc = some f → zSound g PX bd pre post d prog_14_method_40_code "CapitalCaseModel" pc f := by
  intro pc f h
  unfold zT_in at h
  split at h <;> cases h
  · exact zs_iload_n e40_0
  · exact zs_iload_n e40_1
  · exact zs_icmplt e40_2 (by decide)
  · exact zs_iload_n e40_5
  · exact zs_iload_n e40_6
  · exact zs_icmpgt e40_7 (by decide)
  · exact zs_iconst e40_10 (by decide +kernel)
  · exact zs_goto e40_11 (by decide)
  · exact zs_iconst e40_14 (by decide +kernel)
/-- in(v, a, b): whether a ≤ v and v ≤ b; nothing changes -/
theorem zc_in {g : zG} {PX : xPX} {bd : Nat → Nat × Nat} {pre : zPre} {post : zPost} {d : Nat} (I : zI) (v a b : Int32) (hc : zCalls g PX bd pre post d) : zMet g (⟨"CapitalCaseModel", "in", "(III)Z"⟩, prog_14_method_40_code, 3, some .boolean) (d + 1) (0, 0) [.inl v, .inl a, .inl b] I (fun r I' => I' = I ∧ ((r = some (.inl 1) ∧ a ≤ v ∧ v ≤ b) ∨ (r = some (.inl 0) ∧ ¬ (a ≤ v ∧ v ≤ b)))) := by
  refine zmet_ok (by decide) (Nat.le_refl 3) ?_ hc
  refine zReach_weak ?_ (zrun_ok zT_in_ok 12)
  intro pc L S I' B h
  obtain ⟨rfl, rfl, rfl, rfl, rfl⟩ := h
  simp only [zrun, zT_in, z_iload, z_icmp, z_const, z_goto, zloc, zla, xcmpP, List.length_cons, List.length_nil, List.cons_append, List.nil_append, List.getElem?_cons_zero, List.getElem?_cons_succ]
  have le_iff : ∀ x y : Int32, ¬ x < y ↔ y ≤ x := fun x y => Int32.not_lt
  refine ⟨fun h1 => ?_, fun h1 => ⟨fun h2 => ?_, fun h2 => ?_⟩⟩
  · exact ⟨⟨Nat.le_refl _, Nat.le_refl _⟩, Or.inr (Or.inl ⟨rfl, e40_15, 0, Or.inl rfl, rfl, rfl, Or.inr ⟨rfl, fun q => (Int32.not_le.mpr h1) q.1⟩⟩)⟩
  · exact ⟨⟨Nat.le_refl _, Nat.le_refl _⟩, Or.inr (Or.inl ⟨rfl, e40_15, 0, Or.inl rfl, rfl, rfl, Or.inr ⟨rfl, fun q => (Int32.not_le.mpr h2) q.2⟩⟩)⟩
  · exact ⟨⟨Nat.le_refl _, Nat.le_refl _⟩, Or.inr (Or.inl ⟨rfl, e40_15, 1, Or.inr rfl, rfl, rfl, Or.inl ⟨rfl, (le_iff v a).mp h1, (le_iff b v).mp h2⟩⟩)⟩
