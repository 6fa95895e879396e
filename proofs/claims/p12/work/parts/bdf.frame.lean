/-! ===== WHAT A METHOD CAN NOT CHANGE, READ OFF ITS CODE ===== -/
/-- where an instruction goes on -/
def fSx (i : Instr) (pc n : Nat) : List Nat := match i with
  | .goto off => [((pc : Int) + off).toNat]
  | .ifCond _ off => [pc + n, ((pc : Int) + off).toNat]
  | .if_icmp _ off => [pc + n, ((pc : Int) + off).toNat]
  | .ifnonnull off => [pc + n, ((pc : Int) + off).toNat]
  | .tableswitch d _ _ offs => ((pc : Int) + d).toNat :: offs.toList.map (fun o => ((pc : Int) + o).toNat)
  | .lookupswitch d ps => ((pc : Int) + d).toNat :: ps.toList.map (fun o => ((pc : Int) + o.2).toNat)
  | .ldc x => if x = 39 then [pc + n, pc + 7] else if x = 51 then [pc + n, pc + 12] else [pc + n]
  | .new _ => [pc + 7]
  | _ => [pc + n]
/-- what it may be: T: the class's constants, PF: fields (class, place) that stand, AL: methods that may be called -/
def fOk (T : Nat → Nat × Nat × Int) (PF : List (Nat × Nat × Int)) (AL : Nat → Bool) (i : Instr) : Bool := match i with
  | .bastore => false
  | .lastore => false
  | .putfield x => PF.all (fun p => !(p.2.1 == (T x).2.1 && p.2.2 == (T x).2.2))
  | .invokevirtual x => AL (T x).2.2.toNat
  | .invokestatic x => !((T x).1 == 4) || AL (T x).2.2.toNat
  | _ => true
/-- what stands: arrays of bytes, of truths, the longs of 82, fields PF of cells -/
def fRm (PA : List Nat) (PF : List (Nat × Nat × Int)) (μ μ' : xM) : Prop := 119 ≤ μ.2.2.2 → 119 ≤ μ'.2.2.2 ∧ (∀ k, k ∈ PA → k = 1 ∨ k = 76 ∨ k = 43 ∨ k = 117 → ∀ j, μ'.1 k j = μ.1 k j) ∧ (∀ j, μ'.2.1 82 j = μ.2.1 82 j) ∧ ∀ p, p ∈ PF → μ'.1 p.1 p.2.2.toNat = μ.1 p.1 p.2.2.toNat
theorem fRm_rf {PA : List Nat} {PF : List (Nat × Nat × Int)} {μ : xM} : fRm PA PF μ μ := fun h => ⟨h, fun _ _ _ _ => rfl, fun _ => rfl, fun _ _ => rfl⟩
theorem fRm_tr {PA : List Nat} {PF : List (Nat × Nat × Int)} {μ ν μ' : xM} (h1 : fRm PA PF μ ν) (h2 : fRm PA PF ν μ') : fRm PA PF μ μ' := fun h => by
  obtain ⟨a1, a2, a3, a4⟩ := h1 h
  obtain ⟨b1, b2, b3, b4⟩ := h2 a1
  exact ⟨b1, fun k ha hk j => (b2 k ha hk j).trans (a2 k ha hk j), fun j => (b3 j).trans (a3 j), fun p hp => (b4 p hp).trans (a4 p hp)⟩
/-- the fields that stand are fields of cells below 119 -/
def fPF (PF : List (Nat × Nat × Int)) : Prop := ∀ p, p ∈ PF → p.1 < 119 ∧ 0 ≤ p.2.2 ∧ ∃ fts, gx.2 (gx.1 p.1) = .inl (p.2.1, fts)
theorem fArr {k t len : Nat} (h : xar gx k t len) (ht : t = 0 ∨ t = 3 ∨ t = 4) : ¬ (k = 1 ∨ k = 76 ∨ k = 43 ∨ k = 117) := by
  intro hk
  have e : t = 1 ∨ t = 2 := by
    rcases hk with rfl | rfl | rfl | rfl
    · have h2 : (Sum.inr (1, 2000) : zD) = .inr (t, len) := h
      cases h2; exact Or.inl rfl
    · have h2 : (Sum.inr (1, 2000) : zD) = .inr (t, len) := h
      cases h2; exact Or.inl rfl
    · have h2 : (Sum.inr (2, 3) : zD) = .inr (t, len) := h
      cases h2; exact Or.inr rfl
    · have h2 : (Sum.inr (2, 3) : zD) = .inr (t, len) := h
      cases h2; exact Or.inr rfl
  omega
theorem fArr2 {k t len : Nat} {PF : List (Nat × Nat × Int)} (hPF : fPF PF) (h : xar gx k t len) : ∀ p, p ∈ PF → ¬ p.1 = k := by
  intro p hp e
  obtain ⟨-, -, fts, h2⟩ := hPF p hp
  rw [e] at h2
  cases (h.symm.trans h2 : (Sum.inr (t, len) : zD) = .inl (p.2.1, fts))
theorem fSx_ok {X : xX} {own : String} {i : Instr} {pc n : Nat} {L : zL} {S : List zV} {μ : xM} {b : eS} (hx : xIns gx X own i pc n L S μ b) : b.1 ∈ fSx i pc n := by
  cases i with
  | iconst x0 =>
    obtain ⟨v, _, rfl⟩ := hx
    exact List.mem_singleton.mpr rfl
  | bipush x0 =>
    obtain ⟨v, _, rfl⟩ := hx
    exact List.mem_singleton.mpr rfl
  | sipush x0 =>
    obtain ⟨v, _, rfl⟩ := hx
    exact List.mem_singleton.mpr rfl
  | lconst x0 =>
    obtain ⟨v, _, rfl⟩ := hx
    exact List.mem_singleton.mpr rfl
  | ldc_w x0 =>
    obtain ⟨v, _, rfl⟩ := hx
    exact List.mem_singleton.mpr rfl
  | ldc2_w x0 =>
    obtain ⟨v, _, rfl⟩ := hx
    exact List.mem_singleton.mpr rfl
  | iload x0 =>
    obtain ⟨v, _, rfl⟩ := hx
    exact List.mem_singleton.mpr rfl
  | iload_n x0 =>
    obtain ⟨v, _, rfl⟩ := hx
    exact List.mem_singleton.mpr rfl
  | aload x0 =>
    obtain ⟨v, _, rfl⟩ := hx
    exact List.mem_singleton.mpr rfl
  | aload_n x0 =>
    obtain ⟨v, _, rfl⟩ := hx
    exact List.mem_singleton.mpr rfl
  | lload x0 =>
    obtain ⟨v, _, rfl⟩ := hx
    exact List.mem_singleton.mpr rfl
  | lload_n x0 =>
    obtain ⟨v, _, rfl⟩ := hx
    exact List.mem_singleton.mpr rfl
  | istore x0 =>
    obtain ⟨v, S0, _, rfl⟩ := hx
    exact List.mem_singleton.mpr rfl
  | istore_n x0 =>
    obtain ⟨v, S0, _, rfl⟩ := hx
    exact List.mem_singleton.mpr rfl
  | astore x0 =>
    obtain ⟨v, S0, _, rfl⟩ := hx
    exact List.mem_singleton.mpr rfl
  | astore_n x0 =>
    obtain ⟨v, S0, _, rfl⟩ := hx
    exact List.mem_singleton.mpr rfl
  | lstore x0 =>
    obtain ⟨v, S0, _, rfl⟩ := hx
    exact List.mem_singleton.mpr rfl
  | lstore_n x0 =>
    obtain ⟨v, S0, _, rfl⟩ := hx
    exact List.mem_singleton.mpr rfl
  | iinc _ _ =>
    obtain ⟨x, v, _, _, rfl⟩ := hx
    exact List.mem_singleton.mpr rfl
  | iadd =>
    obtain ⟨x, y, S0, _, rfl⟩ := hx
    exact List.mem_singleton.mpr rfl
  | isub =>
    obtain ⟨x, y, S0, _, rfl⟩ := hx
    exact List.mem_singleton.mpr rfl
  | imul =>
    obtain ⟨x, y, S0, _, rfl⟩ := hx
    exact List.mem_singleton.mpr rfl
  | iand =>
    obtain ⟨x, y, S0, _, rfl⟩ := hx
    exact List.mem_singleton.mpr rfl
  | ior =>
    obtain ⟨x, y, S0, _, rfl⟩ := hx
    exact List.mem_singleton.mpr rfl
  | ixor =>
    obtain ⟨x, y, S0, _, rfl⟩ := hx
    exact List.mem_singleton.mpr rfl
  | ishl =>
    obtain ⟨x, y, S0, _, rfl⟩ := hx
    exact List.mem_singleton.mpr rfl
  | ishr =>
    obtain ⟨x, y, S0, _, rfl⟩ := hx
    exact List.mem_singleton.mpr rfl
  | iushr =>
    obtain ⟨x, y, S0, _, rfl⟩ := hx
    exact List.mem_singleton.mpr rfl
  | ladd =>
    obtain ⟨x, y, S0, _, rfl⟩ := hx
    exact List.mem_singleton.mpr rfl
  | lmul =>
    obtain ⟨x, y, S0, _, rfl⟩ := hx
    exact List.mem_singleton.mpr rfl
  | ldiv =>
    obtain ⟨x, y, S0, _, rfl⟩ := hx
    exact List.mem_singleton.mpr rfl
  | lrem =>
    obtain ⟨x, y, S0, _, rfl⟩ := hx
    exact List.mem_singleton.mpr rfl
  | lcmp =>
    obtain ⟨x, y, S0, _, rfl⟩ := hx
    exact List.mem_singleton.mpr rfl
  | idiv =>
    obtain ⟨x, y, S0, _, _, rfl⟩ := hx
    exact List.mem_singleton.mpr rfl
  | irem =>
    obtain ⟨x, y, S0, _, _, rfl⟩ := hx
    exact List.mem_singleton.mpr rfl
  | i2b =>
    obtain ⟨x, S0, _, rfl⟩ := hx
    exact List.mem_singleton.mpr rfl
  | i2c =>
    obtain ⟨x, S0, _, rfl⟩ := hx
    exact List.mem_singleton.mpr rfl
  | i2l =>
    obtain ⟨x, S0, _, rfl⟩ := hx
    exact List.mem_singleton.mpr rfl
  | l2i =>
    obtain ⟨x, S0, _, rfl⟩ := hx
    exact List.mem_singleton.mpr rfl
  | dup =>
    obtain ⟨x, S0, _, rfl⟩ := hx
    exact List.mem_singleton.mpr rfl
  | pop =>
    obtain ⟨x, S0, _, rfl⟩ := hx
    exact List.mem_singleton.mpr rfl
  | dup2 =>
    obtain ⟨x, y, S0, _, rfl⟩ := hx
    exact List.mem_singleton.mpr rfl
  | getfield x0 =>
    obtain ⟨a, c, j, S0, fts, ft, v, _, _, _, _, rfl, _⟩ := hx
    exact List.mem_singleton.mpr rfl
  | iaload =>
    obtain ⟨k, a, len, S0, v, _, _, _, _, rfl⟩ := hx
    exact List.mem_singleton.mpr rfl
  | laload =>
    obtain ⟨k, a, len, S0, v, _, _, _, _, rfl⟩ := hx
    exact List.mem_singleton.mpr rfl
  | aaload =>
    obtain ⟨k, a, len, S0, v, _, _, _, _, rfl⟩ := hx
    exact List.mem_singleton.mpr rfl
  | baload =>
    obtain ⟨k, a, t, len, S0, v, _, _, _, _, _, rfl⟩ := hx
    exact List.mem_singleton.mpr rfl
  | arraylength =>
    obtain ⟨a, t, len, S0, _, _, rfl⟩ := hx
    exact List.mem_singleton.mpr rfl
  | putfield x0 =>
    obtain ⟨a, c, j, S0, fts, v, _, _, _, rfl⟩ := hx
    exact List.mem_singleton.mpr rfl
  | iastore =>
    obtain ⟨v, k, a, len, S0, _, _, _, rfl⟩ := hx
    exact List.mem_singleton.mpr rfl
  | lastore =>
    obtain ⟨v, k, a, len, S0, _, _, _, rfl⟩ := hx
    exact List.mem_singleton.mpr rfl
  | aastore =>
    obtain ⟨v, k, a, len, S0, _, _, _, rfl⟩ := hx
    exact List.mem_singleton.mpr rfl
  | bastore =>
    obtain ⟨v, k, a, t, len, S0, _, _, _, _, rfl⟩ := hx
    exact List.mem_singleton.mpr rfl
  | goto off =>
    obtain ⟨t, ht, rfl⟩ := hx
    exact List.mem_singleton.mpr (by show t = _; omega)
  | ifCond c off =>
    obtain ⟨x, S0, t, _, ht, hx⟩ := hx
    rcases hx with ⟨_, rfl⟩ | ⟨_, rfl⟩
    · exact List.mem_cons_of_mem _ (List.mem_singleton.mpr (by show t = _; omega))
    · exact List.mem_cons_self
  | if_icmp c off =>
    obtain ⟨x, y, S0, t, _, ht, hx⟩ := hx
    rcases hx with ⟨_, rfl⟩ | ⟨_, rfl⟩
    · exact List.mem_cons_of_mem _ (List.mem_singleton.mpr (by show t = _; omega))
    · exact List.mem_cons_self
  | ifnonnull off =>
    obtain ⟨r, S0, t, _, ht, hx⟩ := hx
    rcases hx with ⟨_, rfl⟩ | ⟨_, rfl⟩
    · exact List.mem_cons_self
    · exact List.mem_cons_of_mem _ (List.mem_singleton.mpr (by show t = _; omega))
  | tableswitch d lo hi offs =>
    obtain ⟨x, S0, t, _, rfl, hx⟩ := hx
    rcases hx with ⟨k, off, h1, _, h2⟩ | ⟨_, h2⟩
    · refine List.mem_cons_of_mem _ (List.mem_map.mpr ⟨off, ?_, by show _ = t; omega⟩)
      rw [← Array.getElem?_toList] at h1
      exact List.mem_of_getElem? h1
    · have e : t = ((pc : Int) + d).toNat := by omega
      subst e
      exact List.mem_cons_self
  | lookupswitch d ps =>
    obtain ⟨x, S0, t, _, rfl, h2⟩ := hx
    have key : ∀ l : List (Int × Int), Op.lookupswitch.offset l d x.toInt = d ∨ ∃ p, p ∈ l ∧ Op.lookupswitch.offset l d x.toInt = p.2 := by
      intro l
      induction l with
      | nil => exact Or.inl rfl
      | cons p l ih =>
        unfold Op.lookupswitch.offset
        split
        · exact Or.inr ⟨p, List.mem_cons_self, rfl⟩
        · rcases ih with ih | ⟨p2, h3, h4⟩
          · exact Or.inl ih
          · exact Or.inr ⟨p2, List.mem_cons_of_mem _ h3, h4⟩
    rcases key ps.toList with h | ⟨p, hp, h⟩
    · rw [h] at h2
      have e : t = ((pc : Int) + d).toNat := by omega
      subst e
      exact List.mem_cons_self
    · rw [h] at h2
      exact List.mem_cons_of_mem _ (List.mem_map.mpr ⟨p, hp, by show _ = t; omega⟩)
  | ldc x =>
    rcases hx with ⟨v, _, rfl⟩ | ⟨rfl, c, z, _, _, _, rfl⟩ | ⟨rfl, w, i, z, _, _, _, _, rfl⟩
    · show pc + n ∈ (if x = 39 then [pc + n, pc + 7] else if x = 51 then [pc + n, pc + 12] else [pc + n])
      split
      · exact List.mem_cons_self
      · split
        · exact List.mem_cons_self
        · exact List.mem_cons_self
    · show pc + 7 ∈ (if 39 = 39 then [pc + n, pc + 7] else if 39 = 51 then [pc + n, pc + 12] else [pc + n])
      rw [if_pos rfl]
      exact List.mem_cons_of_mem _ (List.mem_singleton.mpr rfl)
    · show pc + 12 ∈ (if 51 = 39 then [pc + n, pc + 7] else if 51 = 51 then [pc + n, pc + 12] else [pc + n])
      rw [if_neg (by decide), if_pos rfl]
      exact List.mem_cons_of_mem _ (List.mem_singleton.mpr rfl)
  | new x0 =>
    subst hx
    exact List.mem_singleton.mpr rfl
  | invokevirtual x0 =>
    obtain ⟨na, mn, _, q, as, rest, r, μ', _, _, _, rfl⟩ := hx
    exact List.mem_singleton.mpr rfl
  | invokestatic x0 =>
    rcases hx with ⟨na, mn, _, q, as, rest, r, μ', _, _, _, rfl⟩ | ⟨_, a, a0, t0, n0, t, len, S0, _, _, _, _, _, _, rfl⟩ | ⟨_, x, y, S0, _, rfl⟩ | ⟨_, x, y, S0, _, rfl⟩
    · exact List.mem_singleton.mpr rfl
    · exact List.mem_singleton.mpr rfl
    · exact List.mem_singleton.mpr rfl
    · exact List.mem_singleton.mpr rfl
  | _ => exact hx.elim
theorem fIns_ok {PA : List Nat} {X : xX} {own : String} {T : Nat → Nat × Nat × Int} (hT : xTb own = T) {PF : List (Nat × Nat × Int)} (hPF : fPF PF) {AL : Nat → Bool} {i : Instr} {pc n : Nat} {L : zL} {S : List zV} {μ : xM} {b : eS} (hx : xIns gx X own i pc n L S μ b) (ho : fOk T PF AL i = true) (hc : ∀ (mn : Nat) (q : xP) (as : List zV) (r : Option zV) (ν ν' : xM), AL mn = true → xMB mn = some q → X q as ν r ν' → fRm PA PF ν ν') : fRm PA PF μ b.2.2.2 := by
  subst hT
  cases i with
  | iconst x0 =>
    obtain ⟨v, _, rfl⟩ := hx
    exact fRm_rf
  | bipush x0 =>
    obtain ⟨v, _, rfl⟩ := hx
    exact fRm_rf
  | sipush x0 =>
    obtain ⟨v, _, rfl⟩ := hx
    exact fRm_rf
  | lconst x0 =>
    obtain ⟨v, _, rfl⟩ := hx
    exact fRm_rf
  | ldc_w x0 =>
    obtain ⟨v, _, rfl⟩ := hx
    exact fRm_rf
  | ldc2_w x0 =>
    obtain ⟨v, _, rfl⟩ := hx
    exact fRm_rf
  | iload x0 =>
    obtain ⟨v, _, rfl⟩ := hx
    exact fRm_rf
  | iload_n x0 =>
    obtain ⟨v, _, rfl⟩ := hx
    exact fRm_rf
  | aload x0 =>
    obtain ⟨v, _, rfl⟩ := hx
    exact fRm_rf
  | aload_n x0 =>
    obtain ⟨v, _, rfl⟩ := hx
    exact fRm_rf
  | lload x0 =>
    obtain ⟨v, _, rfl⟩ := hx
    exact fRm_rf
  | lload_n x0 =>
    obtain ⟨v, _, rfl⟩ := hx
    exact fRm_rf
  | istore x0 =>
    obtain ⟨v, S0, _, rfl⟩ := hx
    exact fRm_rf
  | istore_n x0 =>
    obtain ⟨v, S0, _, rfl⟩ := hx
    exact fRm_rf
  | astore x0 =>
    obtain ⟨v, S0, _, rfl⟩ := hx
    exact fRm_rf
  | astore_n x0 =>
    obtain ⟨v, S0, _, rfl⟩ := hx
    exact fRm_rf
  | lstore x0 =>
    obtain ⟨v, S0, _, rfl⟩ := hx
    exact fRm_rf
  | lstore_n x0 =>
    obtain ⟨v, S0, _, rfl⟩ := hx
    exact fRm_rf
  | iinc _ _ =>
    obtain ⟨x, v, _, _, rfl⟩ := hx
    exact fRm_rf
  | iadd =>
    obtain ⟨x, y, S0, _, rfl⟩ := hx
    exact fRm_rf
  | isub =>
    obtain ⟨x, y, S0, _, rfl⟩ := hx
    exact fRm_rf
  | imul =>
    obtain ⟨x, y, S0, _, rfl⟩ := hx
    exact fRm_rf
  | iand =>
    obtain ⟨x, y, S0, _, rfl⟩ := hx
    exact fRm_rf
  | ior =>
    obtain ⟨x, y, S0, _, rfl⟩ := hx
    exact fRm_rf
  | ixor =>
    obtain ⟨x, y, S0, _, rfl⟩ := hx
    exact fRm_rf
  | ishl =>
    obtain ⟨x, y, S0, _, rfl⟩ := hx
    exact fRm_rf
  | ishr =>
    obtain ⟨x, y, S0, _, rfl⟩ := hx
    exact fRm_rf
  | iushr =>
    obtain ⟨x, y, S0, _, rfl⟩ := hx
    exact fRm_rf
  | ladd =>
    obtain ⟨x, y, S0, _, rfl⟩ := hx
    exact fRm_rf
  | lmul =>
    obtain ⟨x, y, S0, _, rfl⟩ := hx
    exact fRm_rf
  | ldiv =>
    obtain ⟨x, y, S0, _, rfl⟩ := hx
    exact fRm_rf
  | lrem =>
    obtain ⟨x, y, S0, _, rfl⟩ := hx
    exact fRm_rf
  | lcmp =>
    obtain ⟨x, y, S0, _, rfl⟩ := hx
    exact fRm_rf
  | idiv =>
    obtain ⟨x, y, S0, _, _, rfl⟩ := hx
    exact fRm_rf
  | irem =>
    obtain ⟨x, y, S0, _, _, rfl⟩ := hx
    exact fRm_rf
  | i2b =>
    obtain ⟨x, S0, _, rfl⟩ := hx
    exact fRm_rf
  | i2c =>
    obtain ⟨x, S0, _, rfl⟩ := hx
    exact fRm_rf
  | i2l =>
    obtain ⟨x, S0, _, rfl⟩ := hx
    exact fRm_rf
  | l2i =>
    obtain ⟨x, S0, _, rfl⟩ := hx
    exact fRm_rf
  | dup =>
    obtain ⟨x, S0, _, rfl⟩ := hx
    exact fRm_rf
  | pop =>
    obtain ⟨x, S0, _, rfl⟩ := hx
    exact fRm_rf
  | dup2 =>
    obtain ⟨x, y, S0, _, rfl⟩ := hx
    exact fRm_rf
  | getfield x0 =>
    obtain ⟨a, c, j, S0, fts, ft, v, _, _, _, _, rfl, _⟩ := hx
    exact fRm_rf
  | iaload =>
    obtain ⟨k, a, len, S0, v, _, _, _, _, rfl⟩ := hx
    exact fRm_rf
  | laload =>
    obtain ⟨k, a, len, S0, v, _, _, _, _, rfl⟩ := hx
    exact fRm_rf
  | aaload =>
    obtain ⟨k, a, len, S0, v, _, _, _, _, rfl⟩ := hx
    exact fRm_rf
  | baload =>
    obtain ⟨k, a, t, len, S0, v, _, _, _, _, _, rfl⟩ := hx
    exact fRm_rf
  | arraylength =>
    obtain ⟨a, t, len, S0, _, _, rfl⟩ := hx
    exact fRm_rf
  | iastore =>
    obtain ⟨v, k, a, len, S0, _, hg, _, rfl⟩ := hx
    have h1 := fArr hg (Or.inl rfl)
    have h2 := fArr2 hPF hg
    exact fun h => ⟨h, fun k2 _ hk j => xpi_ne (fun q => h1 (q.1 ▸ hk)), fun _ => rfl, fun p hp => xpi_ne (fun q => h2 p hp q.1)⟩
  | aastore =>
    obtain ⟨v, k, a, len, S0, _, hg, _, rfl⟩ := hx
    exact fun h => ⟨h, fun _ _ _ _ => rfl, fun _ => rfl, fun _ _ => rfl⟩
  | bastore => exact absurd ho (by show ¬ false = true; decide)
  | lastore => exact absurd ho (by show ¬ false = true; decide)
  | putfield x0 =>
    obtain ⟨a, c, j, S0, fts, v, _, hx0, hg, rfl⟩ := hx
    have ho : PF.all (fun p => !(p.2.1 == (xTb own x0).2.1 && p.2.2 == (xTb own x0).2.2)) = true := ho
    rw [hx0] at ho
    refine fun h => ⟨h, fun k _ hk i => xpi_ne (fun q => ?_), fun _ => rfl, fun p hp => xpi_ne (fun q => ?_)⟩
    · have hg2 : gx.2 (gx.1 k) = .inl (c, fts) := by rw [q.1]; exact hg
      rcases hk with rfl | rfl | rfl | rfl
      · cases (hg2 : (Sum.inr (1, 2000) : zD) = .inl (c, fts))
      · cases (hg2 : (Sum.inr (1, 2000) : zD) = .inl (c, fts))
      · cases (hg2 : (Sum.inr (2, 3) : zD) = .inl (c, fts))
      · cases (hg2 : (Sum.inr (2, 3) : zD) = .inl (c, fts))
    · obtain ⟨-, h0, fts2, h2⟩ := hPF p hp
      rw [q.1] at h2
      have e1 : c = p.2.1 := by cases (hg.symm.trans h2 : (Sum.inl (c, fts) : zD) = .inl (p.2.1, fts2)); rfl
      have e2 : p.2.2 = (j : Int) := by omega
      have h3 := List.all_eq_true.mp ho p hp
      rw [e2, ← e1] at h3
      simp at h3
  | goto off =>
    obtain ⟨t, ht, rfl⟩ := hx
    exact fRm_rf
  | ifCond c off =>
    obtain ⟨x, S0, t, _, ht, hx⟩ := hx
    rcases hx with ⟨_, rfl⟩ | ⟨_, rfl⟩
    · exact fRm_rf
    · exact fRm_rf
  | if_icmp c off =>
    obtain ⟨x, y, S0, t, _, ht, hx⟩ := hx
    rcases hx with ⟨_, rfl⟩ | ⟨_, rfl⟩
    · exact fRm_rf
    · exact fRm_rf
  | ifnonnull off =>
    obtain ⟨r, S0, t, _, ht, hx⟩ := hx
    rcases hx with ⟨_, rfl⟩ | ⟨_, rfl⟩
    · exact fRm_rf
    · exact fRm_rf
  | tableswitch d lo hi offs =>
    obtain ⟨x, S0, t, _, rfl, hx⟩ := hx
    exact fRm_rf
  | lookupswitch d ps =>
    obtain ⟨x, S0, t, _, rfl, h2⟩ := hx
    exact fRm_rf
  | ldc x =>
    rcases hx with ⟨v, _, rfl⟩ | ⟨rfl, c, z, _, _, _, rfl⟩ | ⟨rfl, w, i, z, _, _, _, _, rfl⟩
    · exact fRm_rf
    · exact fRm_rf
    · exact fRm_rf
  | new x0 =>
    subst hx
    have e : ∀ k j, k < μ.2.2.2 → (xnew μ).1 k j = μ.1 k j := fun k j hk => by show (if μ.2.2.2 ≤ k then 0 else μ.1 k j) = _; rw [if_neg (by omega)]
    exact fun h => ⟨by show 119 ≤ μ.2.2.2 + 6; omega, fun k _ hk j => e k j (by omega), fun _ => rfl, fun p hp => e _ _ (by have := (hPF p hp).1; omega)⟩
  | invokevirtual x0 =>
    obtain ⟨na, mn, h0, q, as, rest, r, μ', _, h2, h3, rfl⟩ := hx
    have ho : AL (xTb own x0).2.2.toNat = true := ho
    rw [h0] at ho
    exact hc mn q as r μ μ' ho h2 h3
  | invokestatic x0 =>
    rcases hx with ⟨na, mn, h0, q, as, rest, r, μ', _, h2, h3, rfl⟩ | ⟨_, a, a0, t0, n0, t, len, S0, _, hg0, hg, ht0, ht, _, rfl⟩ | ⟨_, x, y, S0, _, rfl⟩ | ⟨_, x, y, S0, _, rfl⟩
    · have ho : (!((xTb own x0).1 == 4) || AL (xTb own x0).2.2.toNat) = true := ho
      rw [h0] at ho
      exact hc mn q as r μ μ' (by simpa using ho) h2 h3
    · subst ht
      have h1 := fArr hg (Or.inl rfl)
      have h2 := fArr2 hPF hg
      have e : ∀ k j, ¬ k = a → (xcp μ a0 a len).1 k j = μ.1 k j := fun k j hk => by show (if k = a ∧ j < len then μ.1 a0 j else μ.1 k j) = _; rw [if_neg (fun q => hk q.1)]
      exact fun h => ⟨h, fun k2 _ hk j => e _ _ (fun q => h1 (q ▸ hk)), fun _ => rfl, fun p hp => e _ _ (h2 p hp)⟩
    · exact fRm_rf
    · exact fRm_rf
  | _ => exact hx.elim
/-- a method's code, read through: pcs: where its instructions stand -/
def fChk (T : Nat → Nat × Nat × Int) (PF : List (Nat × Nat × Int)) (AL : Nat → Bool) (cc : ByteArray) (pcs : List Nat) : Bool := pcs.contains 0 && pcs.all (fun pc => match decode cc pc with
  | .ok (i, n) => fOk T PF AL i && (fSx i pc n).all (fun t => pcs.contains t)
  | .error _ => true)
def fGd (PA : List Nat) (PF : List (Nat × Nat × Int)) (AL : Nat → Bool) (q : xP) : Prop := (∃ (pcs : List Nat) (T : Nat → Nat × Nat × Int), xTb q.1.cls = T ∧ fChk T PF AL q.2.1 pcs = true) ∨ ∀ (as : List zV) (r : Option zV) (μ μ' : xM), Ex gx q as μ r μ' → fRm PA PF μ μ'
theorem fAll {PA : List Nat} {PF : List (Nat × Nat × Int)} (hPF : fPF PF) {AL : Nat → Bool} (hA : ∀ (mn : Nat) (q : xP), AL mn = true → xMB mn = some q → fGd PA PF AL q) {q : xP} {as : List zV} {r : Option zV} {μ μ' : xM} (hq : fGd PA PF AL q) (h : Ex gx q as μ r μ') : fRm PA PF μ μ' := by
  have key := h (fun q as μ r μ' => Ex gx q as μ r μ' ∧ (fGd PA PF AL q → fRm PA PF μ μ')) (fun q as μ r μ' hb => ?_)
  · exact key.2 hq
  · have hE : Ex gx q as μ r μ' := Ex_in (xBig_mono (fun _ _ _ _ _ h => h.1) hb)
    refine ⟨hE, fun hg => ?_⟩
    rcases hg with ⟨pcs, T, hT, hk⟩ | hg
    · obtain ⟨n, pf, Lf, Sf, h1, h2⟩ := hb
      unfold fChk at hk
      rw [Bool.and_eq_true, List.all_eq_true] at hk
      obtain ⟨hk0, hk⟩ := hk
      have hst : ∀ (n : Nat) (a : eS) (b : eS), eN gx (fun q as μ r μ' => Ex gx q as μ r μ' ∧ (fGd PA PF AL q → fRm PA PF μ μ')) q.2.1 q.1.cls n a b → a.1 ∈ pcs → fRm PA PF a.2.2.2 b.2.2.2 := by
        intro n
        induction n with
        | zero => intro a b h _; cases h; exact fRm_rf
        | succ n ih =>
          intro a b h ha
          obtain ⟨c, hs, h⟩ := h
          rcases hs with ⟨i, m, hd, hi⟩ | ⟨e1, e2, e3⟩
          · have hk2 := hk a.1 ha
            rw [hd] at hk2
            replace hk2 : (fOk T PF AL i && (fSx i a.1 m).all (fun t => pcs.contains t)) = true := hk2
            rw [Bool.and_eq_true, List.all_eq_true] at hk2
            have hm := hk2.2 c.1 (fSx_ok hi)
            refine fRm_tr (fIns_ok hT hPF hi hk2.1 (fun mn q as r ν ν' hal hq hX => hX.2 (hA mn q hal hq))) (ih c b h ?_)
            simpa using hm
          · have e4 : c.2.2.2 = a.2.2.2 := by rw [e3]
            rw [← e4]
            exact ih c b h (by rw [e1]; exact ha)
      have hz : (0 : Nat) ∈ pcs := by simpa using hk0
      exact hst n _ _ h1 hz
    · exact hg as r μ μ' hE
