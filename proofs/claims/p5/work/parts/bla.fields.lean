/-! ===== FIELDS THAT STAND, READ OFF THE CODE ===== -/
/-- what an instruction may be: T: the class's constants, PF: fields (class, place) that stand, AL: methods that may be called -/
def gOk (T : Nat → Nat × Nat × Int) (PF : List (Nat × Nat × Int)) (AL : Nat → Bool) (i : Instr) : Bool := match i with
  | .putfield x => PF.all (fun p => !(p.2.1 == (T x).2.1 && p.2.2 == (T x).2.2))
  | .invokevirtual x => AL (T x).2.2.toNat
  | .invokestatic x => !((T x).1 == 4) || AL (T x).2.2.toNat
  | _ => true
def gRm (PF : List (Nat × Nat × Int)) (μ μ' : xM) : Prop := 119 ≤ μ.2.2.2 → 119 ≤ μ'.2.2.2 ∧ ∀ p, p ∈ PF → μ'.1 p.1 p.2.2.toNat = μ.1 p.1 p.2.2.toNat
theorem gRm_rf {PF : List (Nat × Nat × Int)} {μ : xM} : gRm PF μ μ := fun h => ⟨h, fun _ _ => rfl⟩
theorem gRm_tr {PF : List (Nat × Nat × Int)} {μ ν μ' : xM} (h1 : gRm PF μ ν) (h2 : gRm PF ν μ') : gRm PF μ μ' := fun h => by
  obtain ⟨a1, a4⟩ := h1 h
  obtain ⟨b1, b4⟩ := h2 a1
  exact ⟨b1, fun p hp => (b4 p hp).trans (a4 p hp)⟩
theorem gIns_ok {X : xX} {own : String} {T : Nat → Nat × Nat × Int} (hT : xTb own = T) {PF : List (Nat × Nat × Int)} (hPF : fPF PF) {AL : Nat → Bool} {i : Instr} {pc n : Nat} {L : zL} {S : List zV} {μ : xM} {b : eS} (hx : xIns gx X own i pc n L S μ b) (ho : gOk T PF AL i = true) (hc : ∀ (mn : Nat) (q : xP) (as : List zV) (r : Option zV) (ν ν' : xM), AL mn = true → xMB mn = some q → X q as ν r ν' → gRm PF ν ν') : gRm PF μ b.2.2.2 := by
  subst hT
  cases i with
  | iconst x0 =>
    obtain ⟨v, _, rfl⟩ := hx
    exact gRm_rf
  | bipush x0 =>
    obtain ⟨v, _, rfl⟩ := hx
    exact gRm_rf
  | sipush x0 =>
    obtain ⟨v, _, rfl⟩ := hx
    exact gRm_rf
  | lconst x0 =>
    obtain ⟨v, _, rfl⟩ := hx
    exact gRm_rf
  | ldc_w x0 =>
    obtain ⟨v, _, rfl⟩ := hx
    exact gRm_rf
  | ldc2_w x0 =>
    obtain ⟨v, _, rfl⟩ := hx
    exact gRm_rf
  | iload x0 =>
    obtain ⟨v, _, rfl⟩ := hx
    exact gRm_rf
  | iload_n x0 =>
    obtain ⟨v, _, rfl⟩ := hx
    exact gRm_rf
  | aload x0 =>
    obtain ⟨v, _, rfl⟩ := hx
    exact gRm_rf
  | aload_n x0 =>
    obtain ⟨v, _, rfl⟩ := hx
    exact gRm_rf
  | lload x0 =>
    obtain ⟨v, _, rfl⟩ := hx
    exact gRm_rf
  | lload_n x0 =>
    obtain ⟨v, _, rfl⟩ := hx
    exact gRm_rf
  | istore x0 =>
    obtain ⟨v, S0, _, rfl⟩ := hx
    exact gRm_rf
  | istore_n x0 =>
    obtain ⟨v, S0, _, rfl⟩ := hx
    exact gRm_rf
  | astore x0 =>
    obtain ⟨v, S0, _, rfl⟩ := hx
    exact gRm_rf
  | astore_n x0 =>
    obtain ⟨v, S0, _, rfl⟩ := hx
    exact gRm_rf
  | lstore x0 =>
    obtain ⟨v, S0, _, rfl⟩ := hx
    exact gRm_rf
  | lstore_n x0 =>
    obtain ⟨v, S0, _, rfl⟩ := hx
    exact gRm_rf
  | iinc _ _ =>
    obtain ⟨x, v, _, _, rfl⟩ := hx
    exact gRm_rf
  | iadd =>
    obtain ⟨x, y, S0, _, rfl⟩ := hx
    exact gRm_rf
  | isub =>
    obtain ⟨x, y, S0, _, rfl⟩ := hx
    exact gRm_rf
  | imul =>
    obtain ⟨x, y, S0, _, rfl⟩ := hx
    exact gRm_rf
  | iand =>
    obtain ⟨x, y, S0, _, rfl⟩ := hx
    exact gRm_rf
  | ior =>
    obtain ⟨x, y, S0, _, rfl⟩ := hx
    exact gRm_rf
  | ixor =>
    obtain ⟨x, y, S0, _, rfl⟩ := hx
    exact gRm_rf
  | ishl =>
    obtain ⟨x, y, S0, _, rfl⟩ := hx
    exact gRm_rf
  | ishr =>
    obtain ⟨x, y, S0, _, rfl⟩ := hx
    exact gRm_rf
  | iushr =>
    obtain ⟨x, y, S0, _, rfl⟩ := hx
    exact gRm_rf
  | ladd =>
    obtain ⟨x, y, S0, _, rfl⟩ := hx
    exact gRm_rf
  | lmul =>
    obtain ⟨x, y, S0, _, rfl⟩ := hx
    exact gRm_rf
  | ldiv =>
    obtain ⟨x, y, S0, _, rfl⟩ := hx
    exact gRm_rf
  | lrem =>
    obtain ⟨x, y, S0, _, rfl⟩ := hx
    exact gRm_rf
  | lcmp =>
    obtain ⟨x, y, S0, _, rfl⟩ := hx
    exact gRm_rf
  | idiv =>
    obtain ⟨x, y, S0, _, _, rfl⟩ := hx
    exact gRm_rf
  | irem =>
    obtain ⟨x, y, S0, _, _, rfl⟩ := hx
    exact gRm_rf
  | i2b =>
    obtain ⟨x, S0, _, rfl⟩ := hx
    exact gRm_rf
  | i2c =>
    obtain ⟨x, S0, _, rfl⟩ := hx
    exact gRm_rf
  | i2l =>
    obtain ⟨x, S0, _, rfl⟩ := hx
    exact gRm_rf
  | l2i =>
    obtain ⟨x, S0, _, rfl⟩ := hx
    exact gRm_rf
  | dup =>
    obtain ⟨x, S0, _, rfl⟩ := hx
    exact gRm_rf
  | pop =>
    obtain ⟨x, S0, _, rfl⟩ := hx
    exact gRm_rf
  | dup2 =>
    obtain ⟨x, y, S0, _, rfl⟩ := hx
    exact gRm_rf
  | getfield x0 =>
    obtain ⟨a, c, j, S0, fts, ft, v, _, _, _, _, rfl, _⟩ := hx
    exact gRm_rf
  | iaload =>
    obtain ⟨k, a, len, S0, v, _, _, _, _, rfl⟩ := hx
    exact gRm_rf
  | laload =>
    obtain ⟨k, a, len, S0, v, _, _, _, _, rfl⟩ := hx
    exact gRm_rf
  | aaload =>
    obtain ⟨k, a, len, S0, v, _, _, _, _, rfl⟩ := hx
    exact gRm_rf
  | baload =>
    obtain ⟨k, a, t, len, S0, v, _, _, _, _, _, rfl⟩ := hx
    exact gRm_rf
  | arraylength =>
    obtain ⟨a, t, len, S0, _, _, rfl⟩ := hx
    exact gRm_rf
  | iastore =>
    obtain ⟨v, k, a, len, S0, _, hg, _, rfl⟩ := hx
    have h2 := fArr2 hPF hg
    exact fun h => ⟨h, fun p hp => xpi_ne (fun q => h2 p hp q.1)⟩
  | aastore =>
    obtain ⟨v, k, a, len, S0, _, hg, _, rfl⟩ := hx
    exact fun h => ⟨h, fun _ _ => rfl⟩
  | bastore =>
    obtain ⟨v, k, a, t, len, S0, _, _, hg, _, rfl⟩ := hx
    have h2 := fArr2 hPF hg
    exact fun h => ⟨h, fun p hp => xpi_ne (fun q => h2 p hp q.1)⟩
  | lastore =>
    obtain ⟨v, k, a, len, S0, _, hg, _, rfl⟩ := hx
    exact fun h => ⟨h, fun _ _ => rfl⟩
  | putfield x0 =>
    obtain ⟨a, c, j, S0, fts, v, _, hx0, hg, rfl⟩ := hx
    have ho : PF.all (fun p => !(p.2.1 == (xTb own x0).2.1 && p.2.2 == (xTb own x0).2.2)) = true := ho
    rw [hx0] at ho
    refine fun h => ⟨h, fun p hp => xpi_ne (fun q => ?_)⟩
    · obtain ⟨-, h0, fts2, h2⟩ := hPF p hp
      rw [q.1] at h2
      have e1 : c = p.2.1 := by cases (hg.symm.trans h2 : (Sum.inl (c, fts) : zD) = .inl (p.2.1, fts2)); rfl
      have e2 : p.2.2 = (j : Int) := by omega
      have h3 := List.all_eq_true.mp ho p hp
      rw [e2, ← e1] at h3
      simp at h3
  | goto off =>
    obtain ⟨t, ht, rfl⟩ := hx
    exact gRm_rf
  | ifCond c off =>
    obtain ⟨x, S0, t, _, ht, hx⟩ := hx
    rcases hx with ⟨_, rfl⟩ | ⟨_, rfl⟩
    · exact gRm_rf
    · exact gRm_rf
  | if_icmp c off =>
    obtain ⟨x, y, S0, t, _, ht, hx⟩ := hx
    rcases hx with ⟨_, rfl⟩ | ⟨_, rfl⟩
    · exact gRm_rf
    · exact gRm_rf
  | ifnonnull off =>
    obtain ⟨r, S0, t, _, ht, hx⟩ := hx
    rcases hx with ⟨_, rfl⟩ | ⟨_, rfl⟩
    · exact gRm_rf
    · exact gRm_rf
  | tableswitch d lo hi offs =>
    obtain ⟨x, S0, t, _, rfl, hx⟩ := hx
    exact gRm_rf
  | lookupswitch d ps =>
    obtain ⟨x, S0, t, _, rfl, h2⟩ := hx
    exact gRm_rf
  | ldc x =>
    rcases hx with ⟨v, _, rfl⟩ | ⟨rfl, c, z, _, _, _, rfl⟩ | ⟨rfl, w, i, z, _, _, _, _, rfl⟩
    · exact gRm_rf
    · exact gRm_rf
    · exact gRm_rf
  | new x0 =>
    subst hx
    have e : ∀ k j, k < μ.2.2.2 → (xnew μ).1 k j = μ.1 k j := fun k j hk => by show (if μ.2.2.2 ≤ k then 0 else μ.1 k j) = _; rw [if_neg (by omega)]
    exact fun h => ⟨by show 119 ≤ μ.2.2.2 + 6; omega, fun p hp => e _ _ (by have := (hPF p hp).1; omega)⟩
  | invokevirtual x0 =>
    obtain ⟨na, mn, h0, q, as, rest, r, μ', _, h2, h3, rfl⟩ := hx
    have ho : AL (xTb own x0).2.2.toNat = true := ho
    rw [h0] at ho
    exact hc mn q as r μ μ' ho h2 h3
  | invokestatic x0 =>
    rcases hx with ⟨na, mn, h0, q, as, rest, r, μ', _, h2, h3, rfl⟩ | ⟨_, a, a0, t0, n0, t, len, S0, _, hg0, hg, ht0, ht, _, rfl⟩ | ⟨_, x, y, S0, _, rfl⟩ | ⟨_, x, y, S0, _, rfl⟩
    · have ho : (!((xTb own x0).1 == 4) || AL (xTb own x0).2.2.toNat) = true := ho
      rw [h0] at ho
      exact hc mn q as r μ μ' (by simpa using ho) h2 h3
    · subst ht
      have h2 := fArr2 hPF hg
      have e : ∀ k j, ¬ k = a → (xcp μ a0 a len).1 k j = μ.1 k j := fun k j hk => by show (if k = a ∧ j < len then μ.1 a0 j else μ.1 k j) = _; rw [if_neg (fun q => hk q.1)]
      exact fun h => ⟨h, fun p hp => e _ _ (h2 p hp)⟩
    · exact gRm_rf
    · exact gRm_rf
  | _ => exact hx.elim
/-- a method's code, read through: pcs: where its instructions stand -/
def gChk (T : Nat → Nat × Nat × Int) (PF : List (Nat × Nat × Int)) (AL : Nat → Bool) (cc : ByteArray) (pcs : List Nat) : Bool := pcs.contains 0 && pcs.all (fun pc => match decode cc pc with
  | .ok (i, n) => gOk T PF AL i && (fSx i pc n).all (fun t => pcs.contains t)
  | .error _ => true)
def gGd (PF : List (Nat × Nat × Int)) (AL : Nat → Bool) (q : xP) : Prop := (∃ (pcs : List Nat) (T : Nat → Nat × Nat × Int), xTb q.1.cls = T ∧ gChk T PF AL q.2.1 pcs = true) ∨ ∀ (as : List zV) (r : Option zV) (μ μ' : xM), Ex gx q as μ r μ' → gRm PF μ μ'
theorem gAll {PF : List (Nat × Nat × Int)} (hPF : fPF PF) {AL : Nat → Bool} (hA : ∀ (mn : Nat) (q : xP), AL mn = true → xMB mn = some q → gGd PF AL q) {q : xP} {as : List zV} {r : Option zV} {μ μ' : xM} (hq : gGd PF AL q) (h : Ex gx q as μ r μ') : gRm PF μ μ' := by
  have key := h (fun q as μ r μ' => Ex gx q as μ r μ' ∧ (gGd PF AL q → gRm PF μ μ')) (fun q as μ r μ' hb => ?_)
  · exact key.2 hq
  · have hE : Ex gx q as μ r μ' := Ex_in (xBig_mono (fun _ _ _ _ _ h => h.1) hb)
    refine ⟨hE, fun hg => ?_⟩
    rcases hg with ⟨pcs, T, hT, hk⟩ | hg
    · obtain ⟨n, pf, Lf, Sf, h1, h2⟩ := hb
      unfold gChk at hk
      rw [Bool.and_eq_true, List.all_eq_true] at hk
      obtain ⟨hk0, hk⟩ := hk
      have hst : ∀ (n : Nat) (a : eS) (b : eS), eN gx (fun q as μ r μ' => Ex gx q as μ r μ' ∧ (gGd PF AL q → gRm PF μ μ')) q.2.1 q.1.cls n a b → a.1 ∈ pcs → gRm PF a.2.2.2 b.2.2.2 := by
        intro n
        induction n with
        | zero => intro a b h _; cases h; exact gRm_rf
        | succ n ih =>
          intro a b h ha
          obtain ⟨c, hs, h⟩ := h
          rcases hs with ⟨i, m, hd, hi⟩ | ⟨e1, e2, e3⟩
          · have hk2 := hk a.1 ha
            rw [hd] at hk2
            replace hk2 : (gOk T PF AL i && (fSx i a.1 m).all (fun t => pcs.contains t)) = true := hk2
            rw [Bool.and_eq_true, List.all_eq_true] at hk2
            have hm := hk2.2 c.1 (fSx_ok hi)
            refine gRm_tr (gIns_ok hT hPF hi hk2.1 (fun mn q as r ν ν' hal hq hX => hX.2 (hA mn q hal hq))) (ih c b h ?_)
            simpa using hm
          · have e4 : c.2.2.2 = a.2.2.2 := by rw [e3]
            rw [← e4]
            exact ih c b h (by rw [e1]; exact ha)
      have hz : (0 : Nat) ∈ pcs := by simpa using hk0
      exact hst n _ _ h1 hz
    · exact hg as r μ μ' hE
/-! ===== the fields of this claim ===== -/
def gF : List (Nat × Nat × Int) := [(0, 11, 9), (75, 12, 31)]
theorem gPF : fPF gF := by
  intro p hp
  rcases List.mem_cons.mp hp with rfl | hp
  · exact ⟨by decide, by decide, _, rfl⟩
  · rcases List.mem_cons.mp hp with rfl | hp
    · exact ⟨by decide, by decide, _, rfl⟩
    · cases hp
def gL (mn : Nat) : Bool := Nat.testBit 28269553036454149271800264471020807394881395005946944089269609724322512895 mn
theorem gC_0 : gChk xTf_1 gF gL prog_2_method_2_code [0, 1, 4, 5, 8, 9, 10, 11, 14, 17, 18, 21, 22, 23, 26, 27, 30, 31, 32, 33, 34, 37, 38, 39, 42, 43, 44, 46, 47, 50, 51, 53, 54, 57, 58, 59, 62, 65, 66] = true := by decide +kernel
theorem gC_1 : gChk xTf_1 gF gL prog_2_method_3_code [0, 1, 4, 6, 7, 8, 9, 11, 12, 13, 14, 17, 18, 19, 20, 21, 24, 27, 28, 31, 32, 33, 34, 35, 38, 39, 40, 43, 44, 45, 48, 49, 50, 53, 54, 55] = true := by decide +kernel
theorem gC_2 : gChk xTf_2 gF gL prog_3_method_2_code [0, 1, 3, 6, 7, 8, 9, 10, 13, 14, 15, 18, 21, 22, 25, 26, 27] = true := by decide +kernel
theorem gC_3 : gChk xTf_2 gF gL prog_3_method_8_code [0, 1, 4, 7, 8, 9, 10, 11, 12, 13, 14, 17, 20, 23, 24, 27, 30, 31, 32, 34, 35, 38, 41, 42, 43, 45, 48, 50, 53, 55, 56, 59, 60, 62, 65, 66, 67, 68, 71, 72, 74, 77, 79, 82, 83, 86, 88, 89, 90, 93, 96, 98, 100, 103, 104, 107, 108, 111, 112, 113, 114, 115, 118, 119, 120, 121, 122, 125, 127, 128, 131, 132, 135, 136, 137, 138, 139, 142, 143, 144, 146, 148, 151, 154, 155, 158, 159, 160, 161, 164, 165, 166, 167, 168, 171, 172, 175, 176, 178, 181, 182, 185, 188, 189, 192, 193, 194, 195, 197, 198, 201, 202, 203, 204, 205, 206, 209, 210, 211, 214, 215, 218, 219, 220] = true := by decide +kernel
theorem gC_4 : gChk xTf_2 gF gL prog_3_method_7_code [0, 1, 3, 4, 5, 6, 8, 9, 12, 13, 14, 17, 18, 19, 22, 23, 24, 27, 29, 30, 31, 32, 35, 36, 37, 40, 42, 43, 44, 45, 48, 49, 50, 51, 52, 55, 57, 58, 59, 60, 63, 65, 66, 67, 68, 71, 72, 73] = true := by decide +kernel
theorem gC_5 : gChk xTf_2 gF gL prog_3_method_6_code [0, 1, 4, 5, 6, 9, 12, 13, 14, 15, 16, 19, 20, 21, 24, 27, 28, 29, 30, 31, 34, 36, 37, 40, 43, 44, 45, 46, 47] = true := by decide +kernel
theorem gC_6 : gChk xTf_2 gF gL prog_3_method_5_code [0, 1, 4, 5, 8, 9, 10, 13, 14, 17, 18, 19, 20, 21, 23, 24, 25, 28, 31, 34, 35] = true := by decide +kernel
theorem gC_7 : gChk xTf_2 gF gL prog_3_method_3_code [0, 1, 3, 6, 7, 8, 9, 10, 13, 14, 15, 18, 19] = true := by decide +kernel
theorem gC_8 : gChk xTf_2 gF gL prog_3_method_4_code [0, 1, 4, 5, 8, 9, 10, 11, 12, 15, 16, 18, 19, 20, 23, 26, 29, 30] = true := by decide +kernel
theorem gC_9 : gChk xTf_3 gF gL prog_4_method_5_code [0, 1, 4, 5, 8, 9, 10, 13, 14, 15, 18, 21, 24, 25, 26, 29, 30, 31, 32, 35, 36, 37, 40, 41, 42] = true := by decide +kernel
theorem gC_10 : gChk xTf_3 gF gL prog_4_method_4_code [0, 1, 2, 5, 6, 7, 10, 13, 16, 17, 20, 23, 24, 27, 28, 31, 32, 35, 36, 37] = true := by decide +kernel
theorem gC_11 : gChk xTf_3 gF gL prog_4_method_14_code [0, 1, 3, 4, 6, 8, 9, 12, 15, 16, 17, 20, 22, 24, 25, 26, 29, 30, 33, 36, 37, 38, 40, 41, 42, 43, 45, 46, 48, 51, 54, 55, 57, 58, 61, 63, 64, 67, 68, 71, 72, 73, 74, 77, 79, 80] = true := by decide +kernel
theorem gC_12 : gChk xTf_3 gF gL prog_4_method_11_code [0, 1, 4, 7, 8, 9, 10, 13, 16, 17, 18, 21, 22, 23, 24, 25, 26, 27, 30, 33, 34, 35, 38, 39, 42, 43, 46, 49, 50, 51, 52, 53, 54, 55, 58, 59, 62, 65, 66, 67, 68, 69, 70, 73, 74, 75, 78, 81, 82, 83] = true := by decide +kernel
theorem gC_13 : gChk xTf_3 gF gL prog_4_method_3_code [0, 1, 4, 7, 10, 11, 14, 17, 18, 21, 22, 25, 26, 27] = true := by decide +kernel
theorem gC_14 : gChk xTf_3 gF gL prog_4_method_6_code [0, 1, 4, 5, 8, 11, 12, 13, 16, 17, 18, 21, 24, 25, 26, 29, 30] = true := by decide +kernel
theorem gC_15 : gChk xTf_3 gF gL prog_4_method_10_code [0, 1, 2, 3, 4, 7, 10, 11, 12, 13, 16, 17, 18, 19, 22, 23, 24, 27, 30, 33, 34, 37, 38, 41, 42, 45, 46, 49, 50, 53, 54, 55, 56, 57, 60, 61, 62, 65, 66] = true := by decide +kernel
theorem gC_16 : gChk xTf_3 gF gL prog_4_method_2_code [0, 1, 4, 7, 8, 11, 12, 15, 16, 19, 20, 21, 24, 25, 26, 29, 30, 31, 34, 35, 36, 39, 40, 41, 42, 45, 48, 49, 52, 55, 56, 59, 62, 63, 66, 116, 117, 120, 123, 124, 127, 130, 131, 132, 135, 138, 139, 140, 143, 146, 147, 148, 151, 154, 155, 156, 159, 162, 163, 164, 167, 170, 173, 174, 175, 178, 179, 182, 185, 186, 189, 192, 193, 194, 197, 200, 201, 202, 205, 208, 209, 212, 213] = true := by decide +kernel
theorem gC_17 : gChk xTf_3 gF gL prog_4_method_7_code [0, 1, 4, 7, 8, 11, 12, 13, 16, 17, 18, 19, 22, 23, 24, 27, 30, 33, 34, 35, 38, 41, 42, 43, 46, 49, 50, 52, 55, 58, 59, 60, 61, 62, 63, 66, 67, 68, 69, 70, 71, 74, 77, 78, 81, 82, 84, 85, 86, 87, 90, 91, 92, 93, 94, 97, 100, 101, 102, 103, 104, 107, 108, 109, 110, 111, 112, 115, 116, 117, 120, 121, 123, 126, 127, 130, 133, 134, 137, 140, 142, 143, 144, 145, 146, 147, 148, 149, 150, 153, 156, 157, 160, 161, 164, 165, 166, 169, 170] = true := by decide +kernel
theorem gC_18 : gChk xTf_3 gF gL prog_4_method_15_code [0, 1, 4, 7, 8, 9, 10, 13, 16, 19, 20, 22, 25, 28, 29, 30, 31, 32, 35, 38, 41, 42, 43, 46, 47, 48, 51, 52, 53, 54, 57, 60, 63, 64, 65, 68, 71, 72, 74, 77, 80, 81, 82, 85, 88, 89, 90, 93, 96, 98, 99, 102, 104, 105, 108, 109, 112, 115, 118, 119, 120, 123, 126, 127, 130, 133, 136, 137, 138, 141, 143, 144, 147, 148, 151, 153, 156, 159, 162, 163, 164, 167, 170, 171, 173, 176, 179, 180, 181, 184, 186, 187, 190, 191, 194, 197, 198, 199, 200, 201] = true := by decide +kernel
theorem gC_19 : gChk xTf_3 gF gL prog_4_method_9_code [0, 1, 4, 5, 6, 7, 10, 13, 14, 15, 18, 21, 22, 24, 27, 30, 31, 32, 35, 38, 39, 42, 43, 44, 45, 46, 47, 49, 52, 55, 58, 59, 62, 65, 66, 69, 70, 71, 72, 73, 74, 76, 79, 82, 85, 86, 89, 90, 91, 92, 93, 94, 97, 100, 103, 104] = true := by decide +kernel
theorem gC_20 : gChk xTf_3 gF gL prog_4_method_8_code [0, 1, 4, 7, 9, 12, 13, 14, 17, 18, 19, 20, 23, 24, 25, 28, 31, 34, 35, 36, 39, 42, 43, 44, 47, 50, 51, 52, 55, 58, 59, 60, 63, 66, 67, 69, 72, 75, 76, 77, 78, 79, 80, 83, 84, 85, 86, 87, 88, 91, 94, 95, 98, 99, 101, 102, 103, 104, 107, 108, 111, 114, 115, 116, 119, 122, 123, 124, 125, 126, 127, 128, 130, 133, 134, 135, 138, 141, 142, 143, 144, 145, 146, 147, 149, 152, 153, 154, 157, 160, 161, 162, 165, 168, 169, 170, 171, 172, 173, 174, 175, 176, 178, 181, 182, 183, 186, 189, 190, 191, 194, 195, 196, 197, 198, 199, 202, 204, 206, 209, 211, 213, 216, 217, 220, 223, 224, 226, 227, 228, 229, 231, 232, 233, 236, 239, 240, 242, 243, 245, 246, 247, 248, 249, 250, 251, 254, 257, 258, 261, 262, 265, 266, 267, 270, 271] = true := by decide +kernel
theorem gC_21 : gChk xTf_4 gF gL prog_5_method_6_code [0, 1, 2, 3, 4, 7, 8, 10, 11, 12, 13, 15, 16, 19, 20, 23, 25, 26, 28, 29, 30, 33, 36, 38, 39, 40, 41, 42, 43, 44, 45, 48, 51, 52] = true := by decide +kernel
theorem gC_22 : gChk xTf_4 gF gL prog_5_method_10_code [0, 1, 2, 5, 8, 9, 10, 13, 16, 17, 18, 21, 24, 25, 26, 29, 30, 31, 34, 35] = true := by decide +kernel
theorem gC_23 : gChk xTf_4 gF gL prog_5_method_11_code [0, 2, 3, 4, 7, 8, 9, 10, 13, 16, 19, 20, 21] = true := by decide +kernel
theorem gC_24 : gChk xTf_4 gF gL prog_5_method_3_code [0, 1, 3, 4, 5, 6, 7, 8, 10, 11, 13, 14, 16, 18, 19, 22, 25, 28, 29, 32, 34, 36, 37, 38, 39, 40, 43, 44, 47, 48, 50, 51, 52, 55, 58, 61, 62, 65, 66, 68, 69, 70, 73, 75, 77, 79, 80, 82, 84, 86, 89, 90, 93, 95, 96, 97, 98, 100, 103, 104, 107, 109, 110, 113, 115, 116, 117, 118, 119, 120, 123, 125, 126, 129, 131, 132, 133, 134, 135, 138, 141, 142, 145, 147, 149, 150, 151, 154, 156, 158, 159, 162, 165, 168, 169, 172, 173, 175, 176, 177, 178, 180, 181, 182] = true := by decide +kernel
theorem gC_25 : gChk xTf_4 gF gL prog_5_method_5_code [0, 1, 3, 4, 5, 6, 7, 8, 9, 10, 11, 14, 15, 17, 18, 19, 20, 21, 22, 24, 25, 27, 28, 30, 32, 34, 37, 38, 41, 42, 45, 47, 48, 50, 51, 52, 53, 54, 57, 60, 62, 63, 66, 67, 68, 71, 72, 75, 77, 78, 79, 82, 84, 85, 88, 89, 92, 93, 94, 97, 100, 102, 104, 107, 110, 112, 113, 116, 117, 120, 121, 124, 126, 127, 128] = true := by decide +kernel
theorem gC_26 : gChk xTf_4 gF gL prog_5_method_2_code [0, 1, 2, 5, 6, 7, 10, 11, 12, 15, 16, 17, 18, 20, 23, 24, 27, 28, 29, 30, 33, 34, 37, 40, 41, 42, 43, 44, 47, 50, 53, 54, 55, 56, 57, 58, 61, 64, 65, 68, 69, 70, 73, 74, 75, 78, 81, 82, 83, 85, 87, 89, 92, 93, 96, 99, 100, 102, 103, 105, 106, 107, 110, 111, 112, 113, 115, 118, 121, 124, 127, 130, 131] = true := by decide +kernel
theorem gC_27 : gChk xTf_4 gF gL prog_5_method_9_code [0, 1, 2, 3, 4, 5, 6, 7, 9, 11, 14, 17, 18, 19, 22, 25, 28, 29, 32, 33, 34, 35, 36, 37, 40, 41, 42, 45, 48, 49, 50, 51, 52, 53, 54, 55, 56, 59, 60, 61, 62, 63, 66, 69, 70, 71, 72, 75, 76, 79, 80, 81, 84, 86, 87, 89, 90, 93, 96, 98, 99, 102, 103, 104, 106, 107, 108, 109, 110, 111, 112, 113, 116, 118, 119, 120, 121, 123, 124, 125, 126, 129, 132, 133] = true := by decide +kernel
theorem gC_28 : gChk xTf_4 gF gL prog_5_method_7_code [0, 1, 2, 3, 4, 7, 10, 13, 16, 17, 20, 21] = true := by decide +kernel
theorem gC_29 : gChk xTf_4 gF gL prog_5_method_8_code [0, 1, 2, 3, 4, 7, 10, 13, 16, 17, 18, 19, 21, 24, 25, 28, 29, 31, 32, 33, 34, 35, 36, 39, 42, 43, 46, 47] = true := by decide +kernel
theorem gC_30 : gChk xTf_4 gF gL prog_5_method_4_code [0, 1, 2, 5, 6, 7, 8, 9, 12, 15, 16, 17, 20, 21, 24, 27, 28, 30, 31, 32, 33, 34, 35, 36, 37, 38, 41, 43, 45, 46, 49, 50, 51, 52, 55, 56, 57, 58, 61, 62, 64, 65, 66, 67, 69, 70, 71, 74, 76, 78, 79, 80, 81, 82, 83, 84, 85, 86, 89, 92, 93, 94] = true := by decide +kernel
theorem gC_31 : gChk xTf_5 gF gL prog_6_method_10_code [0, 1, 3, 5, 8, 11, 12, 13, 14, 15, 18, 21, 23, 24, 25, 26, 29, 30, 31, 34, 37, 40, 42, 43] = true := by decide +kernel
theorem gC_32 : gChk xTf_5 gF gL prog_6_method_8_code [0, 1, 3, 6, 7, 10, 11, 12, 13, 14, 17, 18, 19, 20, 23, 24, 25] = true := by decide +kernel
theorem gC_33 : gChk xTf_5 gF gL prog_6_method_9_code [0, 1, 2, 3, 5, 6, 9, 10, 11, 12, 13, 15, 16, 17, 18] = true := by decide +kernel
theorem gC_34 : gChk xTf_5 gF gL prog_6_method_3_code [0, 1, 2, 3, 4, 5, 6, 9, 12, 15, 16, 19, 20, 23, 24, 25, 26, 27, 28, 29, 30, 33, 34, 35, 38, 39, 40, 43, 46, 47, 48, 51, 54, 55, 56] = true := by decide +kernel
theorem gC_35 : gChk xTf_5 gF gL prog_6_method_2_code [0, 1, 3, 5, 6, 9, 10, 11, 14, 15, 16, 17, 20, 21, 22, 25, 26, 27, 30, 33, 36, 37] = true := by decide +kernel
theorem gC_36 : gChk xTf_5 gF gL prog_6_method_7_code [0, 1, 2, 3, 6, 9, 12, 13, 15, 16, 17, 18, 21, 22, 23, 24, 27, 28, 29, 31, 32, 34, 36, 37, 40, 43, 46, 47, 50, 52, 54, 55, 56, 57, 58, 59, 62, 64, 66, 67, 68, 69, 70, 73, 75, 77, 80, 83, 84, 86, 88, 89, 90, 91, 94, 95, 96] = true := by decide +kernel
theorem gC_37 : gChk xTf_5 gF gL prog_6_method_6_code [0, 2, 3, 4, 5, 6, 9, 10, 13, 16, 19, 20, 23, 24, 25] = true := by decide +kernel
theorem gC_38 : gChk xTf_5 gF gL prog_6_method_5_code [0, 1, 3, 4, 5, 6, 8, 9, 12, 14, 15, 18, 19, 20, 21, 24, 26, 27, 28, 31, 33, 34, 35, 38, 39, 40, 41, 44, 45, 46, 48, 49, 52, 54, 57, 59, 62, 63, 64, 67, 69, 70, 71, 74, 77, 80, 81, 82, 83, 86, 88, 89, 90, 91, 93, 96, 97] = true := by decide +kernel
theorem gC_39 : gChk xTf_5 gF gL prog_6_method_4_code [0, 1, 2, 5, 6, 7, 10, 11, 14, 15, 16, 19, 20, 23, 24, 27, 28, 29, 30, 31, 34, 37, 40, 41, 42, 43, 45, 48, 49, 50, 51, 52, 55, 56, 59, 62, 65, 68, 69] = true := by decide +kernel
theorem gC_40 : gChk xTf_6 gF gL prog_7_method_3_code [0, 1, 3, 4, 6, 8, 9, 12, 13, 15, 16, 18, 20, 21, 24, 26, 29, 30, 33, 35, 37, 38, 39, 42, 44, 45, 46, 47, 48, 51, 53, 54, 57, 58, 61, 62, 63, 66, 68, 69, 72, 73, 76, 77, 79, 82, 85, 87, 89, 92, 93, 95, 96, 99, 100, 101, 103, 106, 109, 111, 112] = true := by decide +kernel
theorem gC_41 : gChk xTf_6 gF gL prog_7_method_4_code [0, 2, 4, 6, 8, 9, 11, 13, 15, 18, 19, 22, 23, 25, 26, 28, 30, 31, 34, 36, 37, 39, 40, 41, 42, 43, 46, 47, 50, 52, 54, 55, 57, 58, 59, 60, 63, 64, 67, 68, 69, 71, 74, 77, 79, 80, 83, 85, 86, 89, 91, 93, 95, 98, 100, 102, 104, 106, 109, 112, 114, 115] = true := by decide +kernel
theorem gC_42 : gChk xTf_6 gF gL prog_7_method_2_code [0, 1, 4, 6, 9, 10, 11, 12, 15, 16, 19, 20, 21, 22, 25, 26, 29, 30, 31, 32, 35, 36, 39, 40, 41, 42, 43, 46, 47, 48, 51, 52, 55, 56, 57, 58] = true := by decide +kernel
theorem gC_43 : gChk xTf_7 gF gL prog_8_method_4_code [0, 1, 4, 7, 10, 11, 14, 15, 18, 19, 20, 21, 24, 25, 28, 29, 30, 31, 32, 35, 36, 37, 40, 41] = true := by decide +kernel
theorem gC_44 : gChk xTf_7 gF gL prog_8_method_6_code [0, 1, 2, 5, 8, 9, 10, 13, 16, 17, 18, 21, 24, 25, 26, 29, 32, 33, 34, 37, 40, 41, 42, 45, 48, 49, 52, 53, 54, 57, 58, 60, 63, 64, 67, 68, 69, 72, 73, 75, 78, 79, 82, 83, 84, 87, 88, 90, 93, 94, 97, 98, 99, 102, 103, 105, 108, 109, 112, 113, 114, 117, 118, 120, 123, 124, 127, 128, 129, 132, 133, 135, 138, 139, 142, 143, 144, 147, 148, 149, 152, 153, 156, 157, 158, 161, 162, 165, 168, 169, 172, 173, 174, 177, 178, 181, 184, 185] = true := by decide +kernel
theorem gC_45 : gChk xTf_7 gF gL prog_8_method_3_code [0, 1, 4, 5, 6, 9, 10, 11, 12, 13, 16, 17, 19, 20, 23, 24] = true := by decide +kernel
theorem gC_46 : gChk xTf_7 gF gL prog_8_method_7_code [0, 1, 2, 3, 4, 5, 7, 10, 11, 14, 15, 17, 18, 19, 20, 21, 24, 25, 26, 27, 28, 29, 30, 33, 36, 37, 38] = true := by decide +kernel
theorem gC_47 : gChk xTf_7 gF gL prog_8_method_2_code [0, 1, 2, 5, 6, 7, 10, 11, 13, 16, 17, 18, 21, 22, 23, 26, 27, 30, 31, 34, 35, 38, 39, 42, 43, 44, 47, 48, 49, 50, 51, 54, 55, 56, 57, 58, 61, 62, 63, 64, 65, 68, 69, 70, 71, 72, 75, 76] = true := by decide +kernel
theorem gC_48 : gChk xTf_8 gF gL prog_9_method_2_code [0, 1, 2, 3, 5, 7, 10, 13, 14, 15, 18, 19, 20, 21, 24, 27, 30, 33, 34, 37, 39, 40, 41, 42, 45, 47, 48, 49, 52, 53, 54, 55, 58, 61, 62, 63, 64, 67, 69, 70, 71, 74, 75, 76, 77, 80, 82, 83, 86, 89, 90, 91, 92, 95, 97, 98, 101, 102, 105, 107, 108, 109, 112, 113, 114, 115, 118, 120, 121, 122, 123, 126, 129, 130] = true := by decide +kernel
theorem gC_49 : gChk xTf_9 gF gL prog_10_method_3_code [0, 1, 4, 5, 6, 9, 10, 12, 15, 16, 19, 20, 21, 24, 25, 27, 30, 31, 34, 35, 36, 39, 40, 42, 45, 46, 49, 50, 51, 54, 55, 58, 61, 62, 65, 66, 67, 70, 71, 73, 76, 77, 78, 81, 84, 85, 86, 89, 92, 93, 94, 97, 100, 101, 102, 105, 108, 109, 110, 113, 116, 117] = true := by decide +kernel
theorem gC_50 : gChk xTf_9 gF gL prog_10_method_2_code [0, 1, 4, 5, 6, 9, 10, 12, 15, 16, 19, 20, 23, 24, 27, 28, 31, 32, 35, 36, 39, 40, 41, 44, 45, 46, 49, 50, 51, 54, 55, 56, 59, 60, 61, 64, 65] = true := by decide +kernel
theorem gC_51 : gChk xTf_9 gF gL prog_10_method_4_code [0, 1, 2, 5, 6, 7, 8, 11, 12, 13, 14, 17, 18] = true := by decide +kernel
theorem gC_52 : gChk xTf_9 gF gL prog_10_method_8_code [0, 1, 3, 5, 6, 9, 10, 11, 14, 15, 17, 18, 20, 21, 23, 24, 27, 29, 30, 32, 33, 34, 35, 38, 39, 41, 42, 44, 45, 46, 49, 51, 52, 53, 54, 55, 56, 57, 58, 61, 64, 65, 66, 69, 70, 71, 72, 73, 76, 77] = true := by decide +kernel
theorem gC_53 : gChk xTf_9 gF gL prog_10_method_5_code [0, 1, 2, 3, 5, 7, 8, 11, 12, 13, 16, 17, 18, 19, 21, 22, 24, 25, 26, 27, 28, 29, 30, 33, 36, 37, 38] = true := by decide +kernel
theorem gC_54 : gChk xTf_9 gF gL prog_10_method_6_code [0, 1, 2, 3, 5, 7, 8, 11, 12, 13, 16, 18, 19, 20, 21, 22, 24, 25, 26, 27, 28, 29, 30, 33, 36, 37, 38] = true := by decide +kernel
theorem gC_55 : gChk xTf_9 gF gL prog_10_method_9_code [0, 1, 2, 3, 4, 7, 8, 9, 12, 13, 15, 16, 17, 18, 20, 21, 24, 25, 28, 30, 31, 33, 34, 35, 38, 40, 41, 42, 43, 44, 45, 46, 47, 50, 53, 54, 55, 58, 59, 60, 61, 62, 63, 64, 67, 68] = true := by decide +kernel
theorem gC_56 : gChk xTf_9 gF gL prog_10_method_11_code [0, 1, 4, 5, 6, 9, 10, 11, 12, 15, 16, 17, 18, 19, 20, 21, 22, 23, 26, 27, 28, 31, 32, 33] = true := by decide +kernel
theorem gC_57 : gChk xTf_9 gF gL prog_10_method_10_code [0, 1, 4, 5, 7, 8, 9, 10, 11, 12, 13, 14, 15, 16, 19, 20, 22, 23, 24, 25, 26, 27, 28, 29, 30, 31] = true := by decide +kernel
theorem gC_58 : gChk xTf_9 gF gL prog_10_method_7_code [0, 1, 2, 3, 4, 5, 6, 9, 10, 13, 14, 15, 16, 17, 18] = true := by decide +kernel
theorem gC_59 : gChk xTf_10 gF gL prog_11_method_3_code [0, 1, 3, 4, 6, 8, 9, 12, 15, 18, 20, 22, 23, 26, 27, 30, 31, 33, 35, 36, 37, 38, 41, 42, 44, 47, 50, 52, 53] = true := by decide +kernel
theorem gC_60 : gChk xTf_10 gF gL prog_11_method_6_code [0, 1, 2, 3, 4, 6, 9, 10, 11, 12, 13, 14, 17, 20, 21, 24, 25, 26] = true := by decide +kernel
theorem gC_61 : gChk xTf_10 gF gL prog_11_method_2_code [0, 1, 3, 4, 6, 8, 10, 13, 14, 17, 20, 21, 23, 24, 26, 27, 28, 30, 31, 33, 34, 36, 37, 39, 41, 42, 45, 47, 48, 49, 52, 54, 55, 56, 57, 59, 61, 64, 66, 69, 72, 73, 74, 75, 77, 80, 82, 85, 87, 88, 90, 92, 93, 95, 98, 101, 103, 104] = true := by decide +kernel
theorem gC_62 : gChk xTf_10 gF gL prog_11_method_4_code [0, 1, 2, 5, 6, 8, 11, 12, 13, 14, 15, 18, 21, 24, 25, 26, 27, 28, 29, 30, 33, 36, 39, 40, 41, 42, 43, 46, 49, 52, 55, 58, 59] = true := by decide +kernel
theorem gC_63 : gChk xTf_10 gF gL prog_11_method_5_code [0, 1, 3, 5, 7, 10, 11, 13, 15, 17, 20, 22, 24, 27, 28, 29, 31, 32, 34, 35, 38, 41, 42, 43, 45, 46, 48, 49, 52, 55, 56, 57, 58, 60, 62, 65, 68, 69, 70, 71, 73, 75, 78, 81, 82, 83, 86, 89, 92, 93, 94, 96, 97, 98, 99, 101, 103, 104, 105, 107, 108, 111, 112, 115, 118, 119, 120, 123, 124, 125, 128, 131, 134, 137, 140, 141] = true := by decide +kernel
theorem gC_64 : gChk xTf_10 gF gL prog_11_method_7_code [0, 1, 2, 5, 8, 11, 13, 14, 16, 17, 19, 21, 22, 25, 28, 31, 33, 35, 36, 37, 38, 39, 42, 43, 46, 47, 49, 50, 52, 54, 56, 59, 61, 64, 65, 67, 68, 70, 71, 73, 74, 77, 79, 80, 81, 84, 86, 87, 88, 90, 92, 95, 96, 99, 100, 101, 103, 104, 107, 108, 111, 112, 113, 115, 116, 119, 122, 124, 126, 127, 129, 130, 131, 132, 134, 137, 140, 141, 144, 145, 147, 150, 153, 155, 157, 160, 161, 164, 165, 166, 168, 171, 174, 176, 177] = true := by decide +kernel
theorem gC_65 : gChk xTf_11 gF gL prog_12_method_5_code [0, 1, 2, 3, 4, 7, 10, 13, 14, 15, 16, 17, 18, 19, 22, 23, 26, 27, 28, 31, 34, 35, 36, 39, 42, 45, 46] = true := by decide +kernel
theorem gC_66 : gChk xTf_11 gF gL prog_12_method_6_code [0, 1, 4, 5, 8, 9, 10, 11, 12, 15, 18, 21, 22, 23, 24, 25, 26, 27, 30, 31, 34, 35, 38, 39, 40, 43, 46, 49, 52, 55, 56, 59, 60, 63, 66, 67, 70, 71, 74, 75, 76, 79, 80, 81, 82, 83, 86, 89, 92, 93, 94, 95, 96, 97, 98, 101, 102, 105, 106, 109, 110, 113, 116, 119, 120] = true := by decide +kernel
theorem gC_67 : gChk xTf_11 gF gL prog_12_method_2_code [0, 1, 2, 5, 8, 11, 12, 13, 16, 17, 18, 21, 22, 23, 24, 25, 28, 31, 34, 35, 38, 39, 40, 43, 44, 45, 48, 49, 50, 53, 54, 57, 60, 61, 64, 65, 68, 69, 70, 71, 74, 75, 76, 79, 80, 82, 84, 85, 86, 89, 92, 93, 96, 98, 99, 100, 101, 102, 105, 108, 109, 110, 111, 114, 117, 119, 122, 123, 125, 127, 128, 129, 132, 133, 135, 136, 137, 138, 141, 142, 143, 146, 149, 150, 152, 155, 158, 161, 162, 163, 165, 168, 169, 171, 174, 175, 178, 179, 182, 185, 187, 188, 191, 194, 195, 196, 199, 202, 203, 205, 206, 209, 212, 213, 216, 217, 219, 222, 225, 228, 229] = true := by decide +kernel
theorem gC_68 : gChk xTf_11 gF gL prog_12_method_4_code [0, 1, 2, 3, 4, 7, 10, 13, 14, 15, 16, 17, 18, 19, 22, 23, 26, 27, 30, 33, 34, 35, 36, 37, 38, 39, 40, 41, 44, 45, 46, 49, 52, 53, 54] = true := by decide +kernel
theorem gC_69 : gChk xTf_11 gF gL prog_12_method_3_code [0, 1, 2, 3, 5, 7, 8, 11, 14, 17, 18, 19, 21, 22, 23, 24, 25, 28, 29, 31, 32, 35, 36, 37, 38, 41, 44, 45, 46] = true := by decide +kernel
theorem gC_70 : gChk xTf_0 gF gL prog_1_method_3_code [0, 2, 3, 4, 7, 8, 11, 14, 17, 18, 21, 22, 25, 26, 27, 28, 29, 30, 31, 32, 35, 36, 37, 40, 43, 46, 47] = true := by decide +kernel
theorem gC_71 : gChk xTf_0 gF gL prog_1_method_41_code [0, 1, 4, 5, 6, 9, 12, 15, 16, 19, 20, 23, 26, 27, 28, 29, 32, 33, 36, 37, 40, 41, 44, 45, 48, 51, 52, 55, 56, 59, 60] = true := by decide +kernel
theorem gC_72 : gChk xTf_0 gF gL prog_1_method_4_code [0, 1, 4, 5, 6, 9, 12, 13, 14, 15, 16, 19, 20, 21, 24, 25, 28, 29] = true := by decide +kernel
theorem gC_73 : gChk xTf_0 gF gL prog_1_method_30_code [0, 1, 4, 5, 6, 9, 10, 11, 12, 15, 16, 19, 22, 23, 26, 27, 30, 33, 36, 37, 40, 43, 44] = true := by decide +kernel
theorem gC_74 : gChk xTf_0 gF gL prog_1_method_6_code [0, 1, 4, 5, 8, 11, 12, 15, 16, 19, 20, 23, 24, 27, 28, 29, 30, 31, 34, 35, 38, 39, 40, 41, 44, 47, 48] = true := by decide +kernel
theorem gC_75 : gChk xTf_0 gF gL prog_1_method_25_code [0, 1, 4, 5, 6, 9, 10, 11, 12, 15, 16, 19, 22, 23, 26, 27, 30, 33, 36, 37, 40, 43, 44] = true := by decide +kernel
theorem gC_76 : gChk xTf_0 gF gL prog_1_method_32_code [0, 1, 2, 5, 8, 9, 10, 11, 12, 15, 18, 19, 20, 23, 26, 27, 30, 33, 36, 38, 39] = true := by decide +kernel
theorem gC_77 : gChk xTf_0 gF gL prog_1_method_19_code [0, 1, 2, 5, 8, 9, 12, 15, 16, 17, 18, 19, 22, 23, 24, 25, 28, 29, 32, 35, 36, 39, 40, 43, 44, 47, 48, 49] = true := by decide +kernel
theorem gC_78 : gChk xTf_0 gF gL prog_1_method_18_code [0, 1, 4, 5, 8, 9, 10, 11, 14, 15, 18, 19, 22, 23] = true := by decide +kernel
theorem gC_79 : gChk xTf_0 gF gL prog_1_method_44_code [0, 1, 80, 81, 84, 87, 88, 89, 92, 95, 96, 97, 100, 103, 104, 105, 108, 111, 112, 113, 116, 119, 120, 121, 124, 127, 128, 129, 132, 135, 138, 139, 140, 143, 146, 149, 150, 151, 154, 157, 158, 159, 162, 163, 164, 167, 170, 171, 172, 175, 178, 179, 180, 183, 184, 185, 188, 189, 192, 195, 196, 199, 202, 205, 208, 209, 212, 213, 214, 215, 218, 219, 220, 223, 226, 229, 230, 231, 232] = true := by decide +kernel
theorem gC_80 : gChk xTf_0 gF gL prog_1_method_22_code [0, 1, 4, 5, 7, 10, 11, 12, 13, 16, 17, 20, 21, 24, 27, 28, 31, 32, 35, 36, 37, 40, 43, 46, 47, 50, 53, 54] = true := by decide +kernel
theorem gC_81 : gChk xTf_0 gF gL prog_1_method_2_code [0, 1, 4, 6, 7, 10, 13, 14, 15, 16, 17, 20, 21, 22, 25, 26, 27, 30, 31, 33, 36, 37, 39, 42, 43, 46, 47] = true := by decide +kernel
theorem gC_82 : gChk xTf_0 gF gL prog_1_method_39_code [0, 1, 4, 7, 8, 9, 12, 13, 16, 17, 18] = true := by decide +kernel
theorem gC_83 : gChk xTf_0 gF gL prog_1_method_24_code [0, 1, 2, 3, 6, 7, 10, 11, 12, 13, 14, 17, 44, 45, 46, 49, 52, 53, 56, 59, 60, 62, 63, 64, 65, 66, 69, 71, 72, 74, 75, 76, 79, 82, 83, 85, 86, 87, 88, 89, 90] = true := by decide +kernel
theorem gC_84 : gChk xTf_0 gF gL prog_1_method_21_code [0, 1, 2, 3, 6, 9, 10, 11, 12, 15, 18, 19, 20, 23, 24, 25, 26, 27, 28, 29, 30, 32, 33, 34, 35, 37, 38, 41, 44, 46, 47, 50, 51, 54, 55, 57, 58, 59, 60, 63, 66, 67, 68, 69, 72, 73, 76, 79, 80, 83, 84, 85, 86, 89, 90, 93, 96, 98, 99, 100, 101, 102, 103, 104, 105] = true := by decide +kernel
theorem gC_85 : gChk xTf_0 gF gL prog_1_method_46_code [0, 1, 2, 3, 4, 5, 6, 9, 10, 13, 14, 15, 18, 21, 24, 27, 28, 29] = true := by decide +kernel
theorem gC_86 : gChk xTf_0 gF gL prog_1_method_42_code [0, 1, 4, 5, 6, 9, 10, 11, 12, 15, 16, 17, 20, 21, 24, 25, 28, 29, 32, 33, 34, 37, 38, 39, 40, 43, 46, 47, 50, 51, 52, 53, 54, 55] = true := by decide +kernel
theorem gC_87 : gChk xTf_0 gF gL prog_1_method_12_code [0, 1, 2, 3, 6, 9, 10, 11, 12, 14, 15, 16, 17, 19, 20, 64, 65, 68, 71, 73, 74, 75, 76, 79, 82, 84, 85, 86, 87, 90, 92, 95, 96, 97, 100, 103, 105, 106, 107, 108, 111, 112, 113, 116, 117, 118, 121, 122, 123, 126, 127, 128, 131, 132, 135, 136, 137, 140, 141, 142, 143] = true := by decide +kernel
theorem gC_88 : gChk xTf_0 gF gL prog_1_method_9_code [0, 1, 2, 5, 8, 9, 12, 13, 15, 18, 19, 22, 23, 24] = true := by decide +kernel
theorem gC_89 : gChk xTf_0 gF gL prog_1_method_8_code [0, 1, 4, 5, 6, 9, 12, 15, 16, 19, 20, 21] = true := by decide +kernel
theorem gC_90 : gChk xTf_0 gF gL prog_1_method_11_code [0, 1, 4, 5, 8, 11, 14, 15, 16, 17, 18, 19, 22, 23, 26, 27, 28] = true := by decide +kernel
theorem gC_91 : gChk xTf_0 gF gL prog_1_method_10_code [0, 1, 4, 5, 6, 9, 12, 15, 16, 19, 20, 21] = true := by decide +kernel
theorem gC_92 : gChk xTf_0 gF gL prog_1_method_33_code [0, 1, 4, 5, 8, 11, 14, 15, 16, 17, 18, 19, 22, 25, 28, 29, 32, 35, 36, 37, 38, 41, 44, 47, 48, 49, 50, 51, 52, 53, 54, 55, 58, 61, 62, 63] = true := by decide +kernel
theorem gC_93 : gChk xTf_0 gF gL prog_1_method_20_code [0, 1, 2, 3, 6, 9, 10, 11, 12, 15, 18, 19, 20, 23, 24, 27, 28, 30, 31, 32, 33, 36, 39, 40, 41, 42, 45, 46, 49, 52, 53, 56, 57, 58, 59, 62, 63, 66, 69, 70, 71, 72, 73, 74, 76, 77, 78, 79, 80, 81, 82, 83, 84, 85, 86] = true := by decide +kernel
theorem gC_94 : gChk xTf_0 gF gL prog_1_method_29_code [0, 1, 2, 5, 8, 9, 10, 13, 16, 17, 18, 19, 22, 23, 26, 27, 28, 31, 32] = true := by decide +kernel
theorem gC_95 : gChk xTf_0 gF gL prog_1_method_36_code [0, 1, 4, 5, 7, 10, 11, 12, 13, 16, 17, 20, 23, 24, 27, 28, 31, 32, 33, 36, 39, 42, 43, 46, 49, 50, 53, 56, 57, 58] = true := by decide +kernel
theorem gC_96 : gChk xTf_0 gF gL prog_1_method_27_code [0, 1, 4, 5, 6, 9, 10, 11, 13, 14, 16, 17, 18, 20, 22, 23, 26, 29, 32, 33, 36, 37, 40, 42, 45, 47, 50, 51, 54, 57, 58, 61, 63, 64, 65, 68, 71, 72, 75, 78, 79, 82, 83, 86, 87, 88] = true := by decide +kernel
theorem gC_97 : gChk xTf_0 gF gL prog_1_method_7_code [0, 1, 4, 5] = true := by decide +kernel
theorem gC_99 : gChk xTf_0 gF gL prog_1_method_43_code [0, 1, 4, 5, 6, 9, 10, 13, 14, 15, 18, 19, 22, 23, 24, 27, 28, 29, 30, 33, 34, 37, 38, 39, 42, 43, 46, 47, 50, 51, 52] = true := by decide +kernel
theorem gC_100 : gChk xTf_0 gF gL prog_1_method_17_code [0, 1, 2, 5, 8, 9, 10, 13, 16, 17, 18, 21, 24, 25, 26, 27, 30, 31, 34, 37, 38, 41, 42, 45, 46, 47, 50, 53, 56, 57, 58] = true := by decide +kernel
theorem gC_101 : gChk xTf_0 gF gL prog_1_method_47_code [0, 1, 2, 3, 4, 5, 6, 9, 12, 15, 16, 17, 20, 23, 24, 25, 28, 31, 32, 33, 34, 35, 36, 37, 40, 43, 44, 45] = true := by decide +kernel
theorem gC_102 : gChk xTf_0 gF gL prog_1_method_14_code [0, 1, 4, 7, 8, 9, 10, 11, 12, 15, 16, 19, 20, 21, 22, 25, 28, 29, 30, 31, 32, 33, 36, 37, 40, 41, 42, 43, 46, 47, 50, 51, 54, 55, 56, 57, 60, 61, 64, 65, 66] = true := by decide +kernel
theorem gC_103 : gChk xTf_0 gF gL prog_1_method_31_code [0, 1, 4, 5, 8, 11, 12, 13, 14, 17, 18, 21, 24, 27, 28, 29, 30, 31, 32, 35, 38, 41, 42, 45, 46, 49, 50, 51, 54, 55, 56, 57, 58, 59, 60, 61, 62, 65, 68, 69, 70] = true := by decide +kernel
theorem gC_104 : gChk xTf_0 gF gL prog_1_method_45_code [0, 1, 2, 3, 4, 5, 6, 7, 8, 10, 12, 13, 16, 17, 19, 20, 22, 23, 25, 26, 27, 30, 33, 34, 35] = true := by decide +kernel
theorem gC_105 : gChk xTf_0 gF gL prog_1_method_38_code [0, 1, 4, 5, 7, 10, 11, 14, 15, 18, 21, 22, 23, 24, 27, 28, 29, 30, 33, 34] = true := by decide +kernel
theorem gC_106 : gChk xTf_0 gF gL prog_1_method_16_code [0, 1, 2, 3, 6, 9, 10, 11, 14, 17, 19, 20, 22, 48, 49, 52, 53, 56, 57, 58, 59, 62, 65, 66, 69, 70, 71, 72, 75, 76, 79, 80, 81, 82, 85, 86, 88, 89] = true := by decide +kernel
theorem gC_107 : gChk xTf_0 gF gL prog_1_method_35_code [0, 1, 2, 3, 6, 9, 10, 13, 14, 16, 19, 21, 24, 26, 27, 30, 31, 32, 33, 36, 37, 40, 43, 44, 47, 48, 51, 52, 53, 56, 59, 62, 63, 65, 66, 67, 68, 70, 72, 75, 76, 79, 82, 84, 85, 88, 89, 92, 95, 97, 98, 99] = true := by decide +kernel
theorem gC_108 : gChk xTf_0 gF gL prog_1_method_28_code [0, 1, 4, 5, 6, 9, 10, 11, 12, 15, 16, 19, 22, 23, 26, 27, 30, 33, 36, 37, 40, 43, 44] = true := by decide +kernel
theorem gC_109 : gChk xTf_0 gF gL prog_1_method_23_code [0, 1, 4, 5, 8, 11, 12] = true := by decide +kernel
theorem gC_110 : gChk xTf_0 gF gL prog_1_method_13_code [0, 1, 2, 5, 8, 9, 10, 11, 44, 45, 48, 51, 52, 53, 54, 55, 58, 61, 62, 63, 64, 65, 68, 71, 72, 73, 74, 75, 76, 79, 80, 81, 84, 85, 86, 89, 92, 95, 96, 97, 98] = true := by decide +kernel
theorem gC_111 : gChk xTf_0 gF gL prog_1_method_15_code [0, 1, 2, 5, 8, 9, 12, 13, 14, 17, 20, 21, 22, 25, 26, 27, 28, 31, 34, 35, 37, 38, 39, 40, 41, 42] = true := by decide +kernel
theorem gC_112 : gChk xTf_0 gF gL prog_1_method_40_code [0, 1, 4, 5, 6, 9, 12, 15, 16, 19, 20, 21, 24, 25, 26, 27, 30, 31, 34, 35, 38, 41, 42, 45, 46, 47, 50, 51, 54, 57, 58, 59] = true := by decide +kernel
theorem gC_113 : gChk xTf_0 gF gL prog_1_method_34_code [0, 1, 2, 3, 6, 9, 10, 11, 12, 15, 16, 19, 22, 23, 26, 27, 30, 31, 32, 35, 36] = true := by decide +kernel
theorem gC_114 : gChk xTf_0 gF gL prog_1_method_26_code [0, 1, 2, 3, 6, 9, 10, 11, 12, 15, 16, 19, 22, 23, 26, 29, 30, 32, 33, 34, 35, 36, 37, 38, 39, 40, 41, 44, 45, 48, 51, 52, 55, 58, 59, 60, 63, 64, 67, 70, 71, 72, 75, 78, 79, 80] = true := by decide +kernel
theorem gC_115 : gChk xTf_0 gF gL prog_1_method_37_code [0, 1, 2, 3, 6, 9, 10, 13, 14, 16, 19, 21, 22, 25, 27, 29, 32, 33, 34, 35, 37, 38, 40, 42, 44, 47, 48, 51, 52, 55, 58, 59, 62, 63, 66, 67, 68, 71, 74, 76, 77, 80, 81, 84, 87, 88, 90, 91, 92, 93, 94, 97, 100, 103, 106, 108, 109] = true := by decide +kernel
theorem gC_116 : gChk xTf_12 gF gL prog_14_method_51_code [0, 1, 2, 3, 6, 9, 10, 11, 13, 16, 17, 20, 21, 24, 25, 28, 29, 32, 33, 34] = true := by decide +kernel
theorem gC_117 : gChk xTf_12 gF gL prog_14_method_79_code [0, 1, 2, 5, 8, 9, 10, 13, 16, 17, 18, 21, 22, 25, 28, 29, 32, 33, 34] = true := by decide +kernel
theorem gC_118 : gChk xTf_12 gF gL prog_14_method_110_code [0, 1, 2, 3, 6, 9, 12, 13, 14, 17, 20, 23, 24, 25, 26, 27, 30, 31, 33, 35, 36, 38, 39, 41, 43, 45, 48, 49, 52, 53, 55, 56, 58, 60, 61, 64, 65, 68, 69, 72, 73, 75, 76, 77, 78, 79, 82, 83, 86, 88, 90, 92, 93, 94, 96, 97, 98, 99, 102, 105, 108, 111, 113, 114, 117, 119, 120, 123, 125, 128, 129, 132, 134, 135, 137, 139, 142, 144, 146, 149, 152, 154, 156, 158, 160, 163, 166, 168, 169] = true := by decide +kernel
theorem gC_119 : gChk xTf_12 gF gL prog_14_method_5_code [0, 1, 4, 5, 6, 9, 12, 13, 14, 15, 16, 19, 20, 21, 24, 25, 28, 29] = true := by decide +kernel
theorem gC_120 : gChk xTf_12 gF gL prog_14_method_97_code [0, 1, 2, 3, 6, 9, 10, 11, 12, 15, 16, 17, 19, 20, 21, 23, 25, 26, 29, 30, 33, 34, 37, 39, 40, 41, 43, 45, 46, 49, 50, 53, 54, 57, 58, 60, 62, 64, 67, 68, 70, 72, 74, 76, 77, 79, 81, 82, 85, 88, 91, 94, 95, 98, 101, 103, 104, 106, 108, 109, 110, 112, 114, 116, 117, 118, 119, 121, 123, 124, 125, 126, 129, 132, 135, 138, 141, 144, 145, 148, 149, 152, 153, 154] = true := by decide +kernel
theorem gC_121 : gChk xTf_12 gF gL prog_14_method_46_code [0, 1, 2, 3, 6, 9, 10, 13, 14, 15, 16, 19, 22, 23, 24, 25, 27, 28, 31, 32, 35, 36, 37, 40, 41, 44, 45, 46, 49, 51, 52, 55, 56, 57, 58, 59, 60, 63, 66, 67, 68, 71, 72, 75, 76, 79, 80, 81, 84, 85, 86, 89, 90] = true := by decide +kernel
theorem gC_122 : gChk xTf_12 gF gL prog_14_method_88_code [0, 1, 2, 3, 6, 9, 10, 11, 12, 15, 16, 19, 20, 23, 24, 27, 30, 31, 34, 35] = true := by decide +kernel
theorem gC_123 : gChk xTf_12 gF gL prog_14_method_42_code [0, 1, 2, 3, 4, 5, 7, 10, 11, 12, 13, 14, 15, 16, 17, 18, 21, 24, 25, 26] = true := by decide +kernel
theorem gC_124 : gChk xTf_12 gF gL prog_14_method_27_code [0, 1, 4, 7, 8, 9, 12, 15, 16, 17, 20, 21, 22, 23, 26, 27, 30, 31, 32, 33, 34, 37, 38, 39, 42, 43, 44, 45, 48, 51, 52, 55, 56, 57] = true := by decide +kernel
theorem gC_125 : gChk xTf_12 gF gL prog_14_method_86_code [0, 1, 2, 3, 6, 9, 10, 13, 14, 15, 18, 19, 20, 21, 24, 27, 28, 29, 30, 31, 34, 35, 38, 39, 42, 43, 44, 45, 46, 47, 48, 51, 52, 53, 56, 59, 60, 61, 64, 67, 68, 69] = true := by decide +kernel
theorem gC_126 : gChk xTf_12 gF gL prog_14_method_99_code [0, 1, 2, 5, 8, 9, 10, 11, 14, 15, 16, 19, 22, 24, 25, 26, 27, 28, 29, 30, 31, 34, 36, 37, 40, 41, 42, 43, 44, 47, 48, 51, 53, 55, 56, 59, 60, 61, 62, 63, 64, 65, 66, 68, 69, 71, 72, 75, 77, 79, 82, 84, 85, 86, 89, 90, 93, 96, 97, 100, 102, 104, 106, 107, 108, 110, 111, 112, 113, 114, 115, 116, 119, 122, 123, 124] = true := by decide +kernel
theorem gC_127 : gChk xTf_12 gF gL prog_14_method_78_code [0, 1, 2, 5, 8, 9, 12, 15, 16, 17, 18, 19, 22, 23, 26, 29, 30, 31, 32, 33, 36, 37, 38, 39, 42, 43, 44, 47, 48, 51, 54, 55, 56, 57, 60, 63, 64, 65, 66, 67, 70, 71, 74, 75, 76, 77, 80, 81, 82] = true := by decide +kernel
theorem gC_128 : gChk xTf_12 gF gL prog_14_method_64_code [0, 1, 2, 3, 4, 7, 9, 10, 13, 14, 15, 16, 17, 20, 21, 24, 27, 29, 30, 31, 32, 33, 34, 35, 38, 39, 42, 44, 46, 47, 50, 53, 55, 56, 57, 58, 59, 60, 61, 62, 63, 64, 67, 69, 71, 72, 75, 76, 77, 78, 79, 80, 81, 82, 83, 84, 85, 86, 87, 88, 91, 94, 95] = true := by decide +kernel
theorem gC_129 : gChk xTf_12 gF gL prog_14_method_48_code [0, 1, 2, 3, 6, 9, 10, 13, 14, 15, 18, 19, 20, 21, 24, 27, 28, 29, 32, 33, 36, 37, 40, 41, 42, 45, 46, 47, 50, 51] = true := by decide +kernel
theorem gC_130 : gChk xTf_12 gF gL prog_14_method_115_code [0, 1, 4, 5, 84, 85, 88, 89, 92, 93, 94, 95, 98, 99, 102, 103, 104, 105, 108, 111, 112, 113, 114, 117, 120, 121, 122, 123, 124, 125, 128, 129, 130, 131, 132, 135, 136, 137, 138, 140, 143, 144, 145, 147, 149, 152, 153, 154, 157, 160, 161, 162, 163, 166, 167, 168, 171, 172, 173, 176, 177, 178, 181, 182, 183, 186, 187, 190, 191, 192, 195, 196, 197, 200, 201, 204, 205, 206, 207, 210, 211, 212, 215, 216, 219, 220, 221, 222, 223, 226, 229, 230, 233, 234, 235, 236, 237, 238, 241, 242, 243, 246, 247, 249, 251, 252, 255, 256, 259, 260, 263, 264, 266, 267, 268, 269, 270, 273, 274, 275, 277, 278, 281, 284, 285, 286, 288, 289, 290, 291, 294, 297, 298, 299, 300, 302, 305, 308, 309, 310, 311] = true := by decide +kernel
theorem gC_131 : gChk xTf_12 gF gL prog_14_method_70_code [0, 1, 2, 3, 4, 7, 8, 11, 12, 15, 16, 19, 20, 21, 22, 25, 26, 29, 32, 33, 34, 35, 37, 38, 41, 42, 45, 46, 47, 50, 51, 54, 55, 56, 57, 59, 60, 61, 63, 64, 67, 68, 71, 74, 75, 76, 77, 78, 81, 82, 85, 86, 89, 90, 93, 96, 97, 98, 99, 100, 103, 106, 107, 110, 113, 114, 115, 116, 117, 118, 121, 124, 125, 126, 127, 130, 131, 132, 133, 134, 137, 140, 141, 142, 143, 145, 146, 149, 150, 153, 154, 155, 158, 159, 160, 163, 166, 169, 170, 173, 176, 177, 180, 183, 184, 187, 188, 191, 194, 195, 196, 197, 198, 199, 200] = true := by decide +kernel
theorem gC_132 : gChk xTf_12 gF gL prog_14_method_82_code [0, 1, 4, 7, 8, 9, 10, 13, 14, 17, 20, 21, 22, 23, 26, 27, 28, 31, 32, 35, 36, 39, 42, 43, 44] = true := by decide +kernel
theorem gC_133 : gChk xTf_12 gF gL prog_14_method_15_code [0, 1, 4, 7, 8, 9, 10, 13, 14, 15, 18, 19, 22, 23, 26, 27] = true := by decide +kernel
theorem gC_134 : gChk xTf_12 gF gL prog_14_method_3_code [0, 1, 4, 6, 7, 10, 13, 14, 15, 16, 17, 20, 21, 22, 25, 26, 27, 30, 31, 33, 36, 37, 39, 42, 43, 46, 47] = true := by decide +kernel
theorem gC_135 : gChk xTf_12 gF gL prog_14_method_87_code [0, 1, 4, 5, 6, 9, 10, 11, 12, 13, 16, 17, 20, 21, 24, 25, 28, 29, 30, 31, 34, 35, 38, 41, 42, 43, 46, 47, 48, 51, 52, 53, 54, 55, 56, 59, 60, 63, 64, 65, 68, 69, 70, 71, 72, 73, 76, 79, 80, 81, 82, 84, 86, 87, 90, 91, 94, 95, 98, 99, 101, 102, 103, 104, 105, 108, 109, 110, 113, 115, 116, 117, 118, 121, 124, 125, 126, 129, 132, 133, 134, 137, 140, 143, 144, 145, 148, 149, 150, 153, 156, 159, 160] = true := by decide +kernel
theorem gC_136 : gChk xTf_12 gF gL prog_14_method_91_code [0, 1, 4, 5, 6, 9, 10, 11, 12, 13, 16, 17, 20, 21, 24, 25, 26, 27, 28, 29, 30, 33, 34, 35, 38, 41, 42, 43, 46, 49, 50, 53, 54, 55, 56, 57, 60, 61, 64, 65, 68, 69, 70, 71, 72, 73, 76, 79, 80, 81, 84, 85, 88, 91, 92, 93, 94, 95, 98, 101, 102, 105, 108, 109, 110, 113, 116, 117, 118, 119] = true := by decide +kernel
theorem gC_137 : gChk xTf_12 gF gL prog_14_method_107_code [0, 1, 4, 5, 6, 7, 10, 11, 12] = true := by decide +kernel
theorem gC_138 : gChk xTf_12 gF gL prog_14_method_54_code [0, 1, 4, 6, 7, 8, 9, 10, 11, 12, 15, 17, 19, 20, 21, 22, 23, 24, 25, 26, 27, 28, 31, 32, 33, 36, 39, 40, 43, 44, 45] = true := by decide +kernel
theorem gC_139 : gChk xTf_12 gF gL prog_14_method_84_code [0, 1, 2, 5, 8, 9, 10, 11, 14, 16, 17, 20, 21, 22, 23, 24, 25, 26, 29, 32, 33, 34, 35, 38, 39, 42, 45, 46, 47, 48, 49, 52, 54, 55, 56, 57, 60, 63, 64, 65, 68, 71, 73, 74, 75, 78, 81, 83, 84, 85, 86, 87, 88, 89, 90] = true := by decide +kernel
theorem gC_140 : gChk xTf_12 gF gL prog_14_method_81_code [0, 1, 2, 3, 4, 7, 10, 11, 12, 13, 16, 18, 20, 21, 22, 23, 25, 26, 27, 28, 29, 30, 32, 33, 36, 38, 39, 42, 43, 44, 45, 48, 51, 52, 53, 54, 57, 59, 60, 61, 62, 63, 64, 65, 66, 67, 68, 69, 72, 74, 75, 76, 77, 78, 79, 80, 81, 82, 83, 84, 87, 89, 90, 91, 92, 93, 94, 95, 98, 99, 100] = true := by decide +kernel
theorem gC_141 : gChk xTf_12 gF gL prog_14_method_63_code [0, 1, 2, 3, 5, 6, 7, 10, 11, 13, 15, 16, 19, 20, 23, 24, 27, 28, 30, 31, 34, 37, 38, 40, 41, 42, 45, 48, 51, 52, 54, 55, 56, 59, 61, 62, 65, 67, 69, 72, 73, 74, 77, 78, 79, 82, 83, 86, 88, 90, 93, 96, 98, 99, 101, 103, 104, 105, 108, 111, 114, 115, 116] = true := by decide +kernel
theorem gC_142 : gChk xTf_12 gF gL prog_14_method_59_code [0, 1, 2, 3, 6, 7, 8, 11, 12, 13, 14, 17, 20, 21, 24, 25, 26] = true := by decide +kernel
theorem gC_143 : gChk xTf_12 gF gL prog_14_method_71_code [0, 1, 2, 3, 4, 7, 8, 11, 14, 17, 18] = true := by decide +kernel
theorem gC_144 : gChk xTf_12 gF gL prog_14_method_17_code [0, 1, 4, 7, 10, 11, 12, 15, 18, 19, 20, 23, 24, 25, 28, 29] = true := by decide +kernel
theorem gC_145 : gChk xTf_12 gF gL prog_14_method_41_code [0, 1, 2, 5, 6, 9, 10, 11, 14, 15, 18, 19, 20] = true := by decide +kernel
theorem gC_146 : gChk xTf_12 gF gL prog_14_method_111_code [0, 1, 2, 3, 6, 9, 10, 11, 12, 15, 16, 17, 18, 19, 20, 21, 24, 27, 28, 31, 34, 35, 36, 37, 38, 39, 42, 43, 44, 45, 48, 51, 52, 53] = true := by decide +kernel
theorem gC_147 : gChk xTf_12 gF gL prog_14_method_72_code [0, 1, 2, 5, 8, 9, 12, 15, 16, 17, 18, 21, 23, 24, 25, 26, 27, 29, 30, 72, 73, 76, 78, 79, 80, 81, 84, 86, 88, 89, 90, 91, 92, 93, 94, 97, 98, 99, 102, 104, 106, 107, 108, 109, 110, 111, 112, 115, 116, 117, 118, 119, 122, 123, 124, 125, 126, 129, 130, 131, 132] = true := by decide +kernel
theorem gC_148 : gChk xTf_12 gF gL prog_14_method_40_code [0, 1, 2, 5, 6, 7, 10, 11, 14, 15, 16] = true := by decide +kernel
theorem gC_149 : gChk xTf_12 gF gL prog_14_method_14_code [0, 1, 4, 7, 8, 11, 12, 15, 16, 17, 20, 21, 24, 25, 26] = true := by decide +kernel
theorem gC_150 : gChk xTf_12 gF gL prog_14_method_96_code [0, 1, 3, 6, 7, 8, 9, 12, 15, 16, 17, 19, 22, 25, 26, 27, 28, 29, 31, 32, 35, 36, 37, 38, 39, 42, 45, 46, 47, 48, 50, 53, 54, 55, 56, 57, 60, 63, 64, 67, 68, 69] = true := by decide +kernel
theorem gC_151 : gChk xTf_12 gF gL prog_14_method_43_code [0, 1, 2, 3, 6, 7, 10, 11, 12, 13, 16, 17] = true := by decide +kernel
theorem gC_152 : gChk xTf_12 gF gL prog_14_method_101_code [0, 1, 2, 4, 7, 8] = true := by decide +kernel
theorem gC_153 : gChk xTf_12 gF gL prog_14_method_66_code [0, 1, 4, 7, 8, 9, 10, 13, 14, 17, 18, 19] = true := by decide +kernel
theorem gC_154 : gChk xTf_12 gF gL prog_14_method_44_code [0, 1, 2, 4, 7, 8] = true := by decide +kernel
theorem gC_155 : gChk xTf_12 gF gL prog_14_method_45_code [0, 1, 2, 3, 6, 7, 10, 11, 12, 13, 16, 17] = true := by decide +kernel
theorem gC_156 : gChk xTf_12 gF gL prog_14_method_85_code [0, 1, 2, 3, 6, 9, 10, 13, 14, 15, 18, 19, 20, 21, 24, 27, 28] = true := by decide +kernel
theorem gC_157 : gChk xTf_12 gF gL prog_14_method_47_code [0, 1, 2, 3, 6, 9, 10, 13, 14, 15, 18, 19, 20, 21, 24, 27, 28] = true := by decide +kernel
theorem gC_158 : gChk xTf_12 gF gL prog_14_method_100_code [0, 1, 4, 5, 8, 9, 10, 11, 12, 13, 16, 17, 20, 21, 24, 25, 28, 30, 31, 34, 35, 36, 37, 38, 39, 42, 45, 46, 49, 50, 51, 52, 53, 54, 55, 56, 57, 60, 63, 64, 65] = true := by decide +kernel
theorem gC_159 : gChk xTf_12 gF gL prog_14_method_58_code [0, 1, 2, 5, 6, 7, 8, 9, 10, 13, 14, 15, 16, 19, 20, 21, 24, 25, 26, 27, 28, 31, 32, 35, 36, 37, 39, 41, 42, 45, 46, 47, 50, 51, 54, 56, 57, 60, 61, 62, 65, 67, 68, 69, 72, 74, 75, 78, 80, 81, 82, 85, 87, 88, 89, 92, 94, 95, 98, 100, 101, 104, 107, 108, 109, 111, 113, 116, 119, 120, 121, 124, 126, 127, 128, 131, 133, 134, 137, 139, 140, 143, 146, 147, 150, 152, 153, 156, 159, 160, 161] = true := by decide +kernel
theorem gC_160 : gChk xTf_12 gF gL prog_14_method_80_code [0, 1, 2, 3, 4, 7, 10, 11, 12, 13, 16, 17, 18, 19, 22, 25, 26, 27, 28, 31, 33, 34, 35, 36, 37, 38, 39, 40, 41, 42, 43, 46, 48, 49, 50, 51, 52, 53, 54, 55, 56, 57, 58, 61, 63, 65, 66, 67, 68, 70, 71, 72, 73, 74, 75, 76, 77, 78, 79, 80, 81, 84, 85, 86] = true := by decide +kernel
theorem gC_161 : gChk xTf_12 gF gL prog_14_method_52_code [0, 1, 2, 3, 5, 7, 8, 11, 12, 13, 16, 18, 20, 21, 22, 23, 25, 27, 28, 29, 30, 31, 32, 33, 34, 37, 40, 41, 42] = true := by decide +kernel
theorem gC_162 : gChk xTf_12 gF gL prog_14_method_53_code [0, 1, 2, 3, 5, 7, 8, 11, 12, 13, 16, 18, 20, 22, 23, 24, 26, 27, 28, 29, 30, 31, 32, 33, 34, 37, 40, 41, 42] = true := by decide +kernel
theorem gC_163 : gChk xTf_12 gF gL prog_14_method_94_code [0, 1, 2, 5, 8, 9, 10, 13, 16, 17, 18, 19, 22, 23, 24, 25, 27, 29, 31, 34, 35, 36, 38, 41, 42, 43, 45, 48, 49, 51, 53, 56, 59, 60, 62, 63, 65, 67, 68, 71, 72, 75, 76, 79, 81, 82, 85, 87, 88, 90, 92, 95, 96, 98, 101, 104, 106, 108, 111, 113, 114, 115, 117, 118, 119, 122, 125, 126, 127] = true := by decide +kernel
theorem gC_164 : gChk xTf_12 gF gL prog_14_method_55_code [0, 1, 2, 3, 5, 8, 9, 12, 13, 14, 15, 18, 21, 22, 25, 26, 27, 30, 33, 34, 35, 36] = true := by decide +kernel
theorem gC_165 : gChk xTf_12 gF gL prog_14_method_56_code [0, 1, 4, 5, 8, 9, 10, 13, 15, 17, 18, 19, 20, 21, 22, 23, 24, 25, 28, 29, 30, 33, 35, 36, 37, 38, 39, 40, 41, 42, 45, 46, 47, 48, 49, 52, 54, 55, 56, 57, 60, 62, 63, 64, 65, 68, 69, 70] = true := by decide +kernel
theorem gC_166 : gChk xTf_12 gF gL prog_14_method_57_code [0, 1, 4, 5, 6, 9, 11, 12, 15, 16, 17, 18, 19, 20, 21, 24, 25, 26, 29, 31, 32, 35, 36, 37, 38, 39, 40, 41, 44, 46, 47, 50, 52, 53, 56, 57, 58, 59, 60, 61, 62] = true := by decide +kernel
theorem gC_167 : gChk xTf_12 gF gL prog_14_method_50_code [0, 1, 4, 6, 9, 10, 13, 14, 15, 16, 17, 18] = true := by decide +kernel
theorem gC_168 : gChk xTf_12 gF gL prog_14_method_49_code [0, 1, 2, 3, 6, 7, 10, 11, 12, 13, 14, 16, 17, 18, 19] = true := by decide +kernel
theorem gC_169 : gChk xTf_12 gF gL prog_14_method_18_code [0, 1, 2, 5, 8, 9, 12, 15, 16, 17, 20, 21] = true := by decide +kernel
theorem gC_170 : gChk xTf_12 gF gL prog_14_method_25_code [0, 1, 4, 5, 6, 7, 10, 11, 12, 13, 14, 17, 20, 21, 24, 27, 28, 31, 32, 33, 34, 37, 38, 39, 40, 43, 44, 45, 46, 49, 52, 55, 56, 57] = true := by decide +kernel
theorem gC_171 : gChk xTf_12 gF gL prog_14_method_93_code [0, 1, 2, 3, 5, 7, 8, 11, 13, 14, 17, 18, 19, 20, 21, 24, 25, 28, 30, 32, 33, 36, 37, 38, 39, 40, 42, 43, 44, 45, 48, 51, 54, 57, 58, 59] = true := by decide +kernel
theorem gC_172 : gChk xTf_12 gF gL prog_14_method_67_code [0, 1, 2, 3, 4, 5, 6, 9, 10, 13, 14, 17, 18, 19, 22, 25, 26, 27, 28, 29, 30, 31, 34, 37, 38, 39] = true := by decide +kernel
theorem gC_173 : gChk xTf_12 gF gL prog_14_method_95_code [0, 1, 3, 4, 6, 8, 9, 12, 13, 16, 17, 20, 21, 23, 26, 28, 29, 31, 33, 35, 38, 39, 41, 43, 46, 47, 48, 50, 53, 55, 56, 59, 60, 63, 64, 65, 67, 68, 71, 72, 75, 76, 77, 80, 81, 83, 86, 89, 91, 94, 97, 100, 103, 105, 106] = true := by decide +kernel
theorem gC_174 : gChk xTf_12 gF gL prog_14_method_104_code [0, 1, 4, 7, 8, 9, 10, 13, 14, 15, 18, 19, 22, 25, 26, 27, 30, 33, 34, 35, 36] = true := by decide +kernel
theorem gC_175 : gChk xTf_12 gF gL prog_14_method_62_code [0, 1, 4, 5, 6, 9, 10, 11, 12, 15, 16, 17, 20, 21, 23, 26, 27] = true := by decide +kernel
theorem gC_176 : gChk xTf_12 gF gL prog_14_method_90_code [0, 1, 2, 3, 6, 9, 10, 11, 13, 14, 16, 17, 18, 20, 22, 23, 26, 27, 30, 31, 34, 35, 38, 39, 41, 44, 45, 48, 49, 52, 53, 56, 57, 60, 63, 65, 66, 67, 70, 71, 74, 77, 78, 81, 82, 85, 86, 87] = true := by decide +kernel
theorem gC_177 : gChk xTf_12 gF gL prog_14_method_21_code [0, 1, 4, 5] = true := by decide +kernel
theorem gC_178 : gChk xTf_12 gF gL prog_14_method_4_code [0, 2, 3, 4, 7, 8, 11, 12, 15, 16, 17, 18, 19, 20, 21, 22, 25, 26, 27, 30, 33, 36, 37] = true := by decide +kernel
theorem gC_179 : gChk xTf_12 gF gL prog_14_method_60_code [0, 1, 2, 3, 6, 7, 8, 11, 12, 13, 14, 17, 18] = true := by decide +kernel
theorem gC_181 : gChk xTf_12 gF gL prog_14_method_76_code [0, 1, 4, 6, 9, 10, 11, 12, 15, 18, 19, 22, 23, 24, 27, 28, 31, 32, 33, 34, 37, 40, 41, 42, 45, 46, 47, 50, 51, 52, 53, 56, 59, 60, 63, 66, 67, 70, 71, 72, 73, 74, 77, 78, 79, 80, 83, 86, 87, 88, 91, 92, 93, 96, 97, 100, 101] = true := by decide +kernel
theorem gC_182 : gChk xTf_12 gF gL prog_14_method_112_code [0, 1, 2, 3, 6, 9, 10, 13, 14, 15, 18, 19, 20, 21, 22, 23, 26, 29, 30, 33, 34, 35, 38, 41, 42, 43, 44, 45, 46, 47, 50, 53, 54, 55, 58, 59, 60] = true := by decide +kernel
theorem gC_183 : gChk xTf_12 gF gL prog_14_method_22_code [0, 1, 2, 5, 6, 7, 10, 11, 14, 17, 18, 21, 22] = true := by decide +kernel
theorem gC_184 : gChk xTf_12 gF gL prog_14_method_77_code [0, 1, 2, 5, 8, 9, 10, 11, 14, 15, 16, 19, 22, 23, 24, 27, 30, 31, 32, 33, 36, 37, 38] = true := by decide +kernel
theorem gC_185 : gChk xTf_12 gF gL prog_14_method_65_code [0, 1, 2, 3, 5, 8, 9, 12, 15, 17, 18, 19, 20, 21, 22, 23, 24, 27, 30, 31, 32, 33, 34, 37, 39, 40, 43, 44, 45, 46, 47, 50, 51, 54, 56, 58, 59, 62, 63, 64, 65, 66, 67, 68, 69, 70, 71, 72, 73, 76, 78, 80, 83, 84, 85, 88, 89, 90, 91, 94, 97, 99, 100, 101, 102, 103, 104, 106, 107, 108, 111, 113, 115, 117, 118, 119, 120, 121, 122, 123, 124, 125, 126, 129, 132, 133, 136, 139, 140, 141, 142, 143, 144, 145] = true := by decide +kernel
theorem gC_186 : gChk xTf_12 gF gL prog_14_method_98_code [0, 1, 2, 5, 8, 11, 12, 13, 14, 17, 18, 21, 22, 23, 24, 25, 26, 29, 30, 33, 34, 37, 38, 40, 42, 44, 47, 48, 50, 51, 52, 53, 54, 57, 58, 59, 61, 64, 67, 68, 69, 70, 71, 72, 73, 74, 75, 78, 81, 84, 87, 88, 89] = true := by decide +kernel
theorem gC_187 : gChk xTf_12 gF gL prog_14_method_113_code [0, 1, 2, 3, 5, 7, 8, 9, 10, 13, 14, 15, 18, 20, 21, 22, 23, 26, 29, 30, 31] = true := by decide +kernel
theorem gC_188 : gChk xTf_12 gF gL prog_14_method_106_code [0, 1, 4, 6, 9, 10, 13, 16, 17, 18, 21, 24, 27, 28, 29, 30, 33, 34, 37, 38, 39, 40, 43, 44, 47, 48, 49, 50, 53, 54, 57, 58, 59, 60, 61, 64, 65, 66, 69, 70, 73, 74, 75, 76] = true := by decide +kernel
theorem gC_189 : gChk xTf_12 gF gL prog_14_method_75_code [0, 1, 2, 5, 8, 9, 12, 15, 16, 17, 20, 23, 25, 26, 27, 30, 33, 36, 37, 38, 41, 43, 44, 47, 48, 49, 50, 51, 54, 55, 56, 57, 58, 59, 62, 65, 66, 69, 70, 71] = true := by decide +kernel
theorem gC_190 : gChk xTf_12 gF gL prog_14_method_103_code [0, 1, 2, 5, 8, 9, 12, 15, 16, 19, 22, 24, 25, 26, 29, 32, 33, 34, 35, 38, 39, 40, 43, 44, 47, 49, 51, 52, 54, 55, 56, 57, 58, 59, 60, 61] = true := by decide +kernel
theorem gC_191 : gChk xTf_12 gF gL prog_14_method_69_code [0, 1, 2, 3, 6, 9, 10, 11, 12, 13, 15, 18, 19, 20, 21, 22, 23, 24, 25, 28, 29, 32, 33, 36, 37, 40, 41, 44, 46, 47, 48, 49, 50, 51, 52, 55, 57, 58, 59, 60, 61, 62, 65, 66, 67, 70, 73, 74, 77, 78, 81, 83, 84, 85, 86, 87, 88, 91, 92, 93, 96, 98, 99, 100, 101, 102, 103, 104, 105, 106, 107, 108, 111, 114, 115, 116, 117, 118, 119, 120] = true := by decide +kernel
theorem gC_192 : gChk xTf_12 gF gL prog_14_method_23_code [0, 1, 4, 5, 6, 7, 10, 11, 12, 13, 16, 17, 18] = true := by decide +kernel
theorem gC_193 : gChk xTf_12 gF gL prog_14_method_92_code [0, 1, 2, 3, 6, 9, 10, 11, 12, 15, 16, 19, 20, 21, 22, 23, 25, 26, 28, 30, 31, 32, 35, 36, 39, 40, 41, 44, 46, 47, 48, 49, 50, 53, 56, 57, 59, 62, 64, 66, 69, 72, 73, 76, 78, 79, 82, 83, 85, 88, 91, 93, 94, 96, 97, 100, 101, 103, 106, 109, 110, 113, 115, 118, 119, 120] = true := by decide +kernel
theorem gC_194 : gChk xTf_12 gF gL prog_14_method_83_code [0, 1, 4, 7, 8, 9, 10, 11, 14, 15, 16, 19, 20, 21, 22, 25, 28, 29, 32, 33, 34, 37, 40, 41, 44, 45, 46, 47, 48, 49, 52, 55, 56, 57] = true := by decide +kernel
theorem gC_195 : gChk xTf_12 gF gL prog_14_method_73_code [0, 1, 2, 5, 8, 9, 10, 11, 14, 15, 48, 49, 52, 54, 55, 58, 59, 60, 61, 62, 63, 64, 67, 69, 70, 73, 74, 75, 76, 77, 78, 79, 82, 84, 85, 88, 89, 90, 91, 92, 93, 94, 97, 100, 101, 102, 103, 104, 105, 106, 109, 110, 111, 112] = true := by decide +kernel
theorem gC_196 : gChk xTf_12 gF gL prog_14_method_114_code [0, 1, 2, 3, 5, 7, 8, 11, 12, 15, 16, 19, 20, 23, 26, 28, 29, 30, 31, 32, 35, 38, 39, 40, 42, 43, 44, 45, 48, 51, 52, 53] = true := by decide +kernel
theorem gC_197 : gChk xTf_12 gF gL prog_14_method_74_code [0, 1, 2, 5, 8, 9, 10, 11, 14, 16, 17, 20, 21, 22, 23, 24, 25, 26, 29, 32, 33, 36, 38, 40, 41, 44, 45, 46, 47, 48, 49, 50, 51, 54, 55, 56] = true := by decide +kernel
theorem gC_198 : gChk xTf_12 gF gL prog_14_method_68_code [0, 1, 4, 5, 6, 7, 8, 11, 13, 14, 15, 16, 19, 20, 21, 24, 26, 27, 28, 29, 32, 34, 35, 36, 37, 38, 41, 43, 44, 45, 46, 47, 50, 51, 52, 53, 54, 55, 58, 61, 62, 63, 66, 68, 69, 70, 71, 72, 75, 76, 79, 80, 83, 84, 85, 88, 90, 91, 92, 93, 94, 95, 98, 99, 100, 103, 104, 105, 108, 109, 110, 111, 112, 113, 114, 115, 118, 121, 122, 123, 124, 125, 126, 127, 130, 131, 132, 133, 134] = true := by decide +kernel
theorem gC_199 : gChk xTf_12 gF gL prog_14_method_61_code [0, 1, 2, 3, 6, 7, 8, 9, 12, 13, 15, 18, 19] = true := by decide +kernel
theorem gC_200 : gChk xTf_12 gF gL prog_14_method_109_code [0, 1, 2, 3, 6, 9, 12, 13, 14, 15, 18, 21, 22, 23, 24, 25, 28, 29, 30, 33, 34, 37, 40, 41, 42] = true := by decide +kernel
theorem gC_201 : gChk xTf_12 gF gL prog_14_method_108_code [0, 1, 2, 3, 4, 5, 6, 9, 10, 13, 14, 17, 18, 20, 21, 23, 25, 26, 29, 30, 33, 35, 37, 38, 39, 40, 41, 44, 46, 47, 48, 49, 50, 53, 55, 56, 59, 60, 63, 64, 65, 68, 70, 71, 74, 75, 77, 80, 83, 85, 88, 89, 90, 91, 92, 93, 94, 97, 100, 101, 102] = true := by decide +kernel
theorem gC_202 : gChk xTf_12 gF gL prog_14_method_102_code [0, 1, 2, 5, 8, 9, 12, 15, 16, 17, 18, 21, 22, 23, 26, 27, 28, 29, 32, 35, 36, 39, 40, 43, 45, 46, 47, 48, 49, 50, 53, 54, 55, 58, 61, 63, 64] = true := by decide +kernel
theorem gC_203 : gChk xTf_12 gF gL prog_14_method_89_code [0, 1, 2, 5, 8, 9, 12, 15, 16, 17, 18, 21, 22, 25, 26, 29, 30, 31, 34, 35, 38, 40, 41, 42, 43, 44, 45, 46, 47, 48, 49, 50, 53, 54, 57, 58, 59, 60] = true := by decide +kernel
theorem gC_204 : gChk xTf_12 gF gL prog_14_method_16_code [0, 1, 4, 5, 6, 7, 8, 11, 14, 15, 18, 21, 22, 23, 26, 29, 30, 31, 34, 37, 38, 39, 42, 45, 46, 47, 48, 51, 52, 53, 56, 57] = true := by decide +kernel
theorem gC_205 : gChk xTf_12 gF gL prog_14_method_105_code [0, 1, 2, 5, 8, 9, 12, 15, 16, 19, 22, 24, 25, 27, 30, 33, 34, 35, 36, 38, 39, 41, 43, 45, 48, 49, 52, 53, 54, 57, 59, 60, 63, 64, 65, 68, 69, 72, 74, 75, 76, 77, 78, 79, 82, 85, 88, 91, 93, 94] = true := by decide +kernel
theorem gC_206 : gChk xTf_13 gF gL prog_16_method_49_code [0, 1, 2, 3, 4, 7, 8, 9, 10, 11, 14, 15, 16, 17, 18, 21, 22, 23, 24, 25, 26, 27, 28, 29, 32, 33, 34, 35, 36, 38, 39, 40, 41, 42, 43, 45, 46, 47, 48, 49, 51, 52, 53] = true := by decide +kernel
theorem gC_207 : gChk xTf_14 gF gL prog_22_method_103_code [0, 1, 2, 3, 4, 5, 6, 7, 10, 11, 12, 13, 14, 17, 20, 21] = true := by decide +kernel
theorem gC_208 : gChk xTf_8 gF gL prog_9_method_3_code [0, 1, 3, 6, 7, 9, 12, 13, 15, 18, 19, 21, 24, 25, 28, 29, 30] = true := by decide +kernel
theorem gC_209 : gChk xTf_8 gF gL prog_9_method_5_code [0, 1, 3, 6, 7, 9, 12, 13, 16, 17, 18] = true := by decide +kernel
theorem gC_210 : gChk xTf_8 gF gL prog_9_method_4_code [0, 1, 3, 6, 7, 9, 12, 13, 16, 17, 18] = true := by decide +kernel
theorem gC_211 : gChk xTf_12 gF gL prog_14_method_6_code [0, 1, 2, 5, 8, 9, 12, 13, 14, 17, 18, 21, 22, 23] = true := by decide +kernel
theorem gC_212 : gChk xTf_12 gF gL prog_14_method_7_code [0, 1, 3, 6, 7, 9, 12, 13, 16, 17, 18] = true := by decide +kernel
theorem gC_213 : gChk xTf_12 gF gL prog_14_method_8_code [0, 1, 3, 6, 7, 9, 12, 13, 16, 17, 18] = true := by decide +kernel
theorem gC_214 : gChk xTf_12 gF gL prog_14_method_12_code [0, 1, 2, 5, 6, 7, 8, 11, 14, 17, 18, 19, 22, 23, 24, 25, 28, 31, 32, 33, 34, 37, 38, 39, 42, 43, 44, 46, 49, 50, 52, 55, 56, 58, 61, 62, 64, 67, 70, 73, 74, 77, 80, 81, 82, 83, 85, 86, 87, 88, 89, 92, 95, 98, 99, 101, 104, 106, 107, 108, 109, 110, 113, 116, 118, 121, 124, 125, 127, 130, 131, 134, 135, 137, 138, 140, 143, 144, 146, 148, 150, 153, 154, 157, 159, 160, 162, 163, 166, 168, 170, 171, 173, 176, 179, 180, 182, 183, 184, 186, 189, 190, 191, 192, 193, 196, 197, 200, 203, 204, 205, 206, 208, 209, 210, 211, 212, 215, 218, 221, 222, 223, 226, 228, 230, 231, 232, 233, 234, 235, 238, 239, 241, 242, 244, 247, 250, 251, 252, 253, 256, 257, 260, 261, 262, 264, 265, 268, 269, 270, 271, 272, 275, 276, 277, 278, 279, 280, 281, 282, 283, 286, 289, 290, 291, 294, 295] = true := by decide +kernel
theorem gC_215 : gChk xTf_12 gF gL prog_14_method_11_code [0, 1, 4, 5, 8, 9, 10, 11, 14, 15, 18, 19, 20, 21, 24, 25, 28, 29, 30, 31, 34, 35, 38, 40, 41, 42, 43, 46, 47, 48, 51, 52] = true := by decide +kernel
theorem gC_216 : gChk xTf_12 gF gL prog_14_method_13_code [0, 1, 3, 6, 7, 10, 11, 13, 16, 17, 20, 21, 23, 26, 28, 31, 32, 34, 37, 39, 42, 43, 45, 46, 48, 51, 53, 55, 56, 58, 61, 63, 65, 66, 68, 71, 73, 75, 76, 78, 81, 83, 85, 86, 88, 91, 93, 95, 96, 98, 99, 100, 101, 104, 105, 106] = true := by decide +kernel
theorem gC_217 : gChk xTf_12 gF gL prog_14_method_9_code [0, 1, 4, 5, 8, 11, 12, 13, 14, 16, 17, 18, 19, 20, 21, 22] = true := by decide +kernel
theorem gC_218 : gChk xTf_12 gF gL prog_14_method_19_code [0, 1, 4, 5, 6, 7, 8, 11, 12, 13, 14, 15, 18, 19, 21, 22, 23, 26, 27, 28, 29, 30, 33, 34, 35, 36, 37, 38, 39, 40, 43, 44, 47, 48, 49, 50, 51, 52, 53, 54, 55, 58, 59, 60, 61, 62, 63, 64, 65, 68, 71, 72] = true := by decide +kernel
theorem gC_219 : gChk xTf_12 gF gL prog_14_method_24_code [0, 1, 4, 5, 8, 9, 60, 61, 62, 65, 66, 69, 70, 71, 74, 75, 78, 81, 82, 85, 88, 89, 90, 93, 94, 97, 98, 100, 103, 104, 107, 110, 111, 114, 117, 118, 121, 122, 125, 126, 127, 129, 132, 133, 136, 137, 140, 141, 144, 145, 146, 148, 151, 152, 155, 156, 159, 160, 163, 164, 165, 168, 171, 172, 175, 176, 179, 180, 183, 184, 186, 187, 188, 189, 192, 193, 196, 197, 200, 201, 203, 206, 207, 208, 211, 212, 215, 218, 219, 220, 223, 224, 225, 228, 229] = true := by decide +kernel
theorem gC_220 : gChk xTf_12 gF gL prog_14_method_26_code [0, 1, 2, 5, 6, 9, 12, 13, 14, 17, 18, 21, 22, 25, 26, 27, 28, 29, 30, 33, 34, 35, 38, 39] = true := by decide +kernel
theorem gC_221 : gChk xTf_12 gF gL prog_14_method_30_code [0, 1, 4, 5, 6, 7, 10, 11, 12, 15, 16, 19, 22, 23, 24, 25, 28, 29, 30, 33, 36, 37, 38, 39, 40, 41, 42, 45, 48, 49, 52, 53, 54, 57, 58, 59, 60, 63, 64, 65, 68, 69, 70, 72, 75, 76, 77, 80, 83, 84, 87, 88, 89, 91, 92, 95, 96, 97, 100, 101] = true := by decide +kernel
theorem gC_222 : gChk xTf_12 gF gL prog_14_method_28_code [0, 1, 2, 3, 4, 5, 6, 7, 10, 13, 14, 17, 18, 19, 22, 23, 24] = true := by decide +kernel
theorem gC_223 : gChk xTf_12 gF gL prog_14_method_29_code [0, 1, 2, 3, 6, 7, 8, 10, 12, 13, 16, 17, 20, 21, 22, 25, 28, 29, 32, 33, 34, 35, 36, 37] = true := by decide +kernel
theorem gC_224 : gChk xTf_12 gF gL prog_14_method_31_code [0, 2, 3, 6, 7, 9, 10, 13, 14, 17, 18, 19, 20, 21, 22, 25, 26, 27, 30, 31, 32, 33, 35, 38, 39, 42, 43, 44, 45, 46, 47, 50, 53, 54, 55, 56, 57, 60, 63, 64, 67, 68, 69, 72, 73, 74, 75, 76, 77, 78, 79, 80, 83, 86, 87, 88, 91, 92, 95, 98, 99, 102, 103, 106, 107, 108, 109, 110, 111, 112] = true := by decide +kernel
theorem gC_225 : gChk xTf_12 gF gL prog_14_method_32_code [0, 2, 3, 6, 7, 8, 11, 12, 15, 16, 17, 18, 19, 22, 23, 24, 27, 28, 31, 32, 33, 36, 37, 38, 39, 40, 41, 44, 47, 48, 51, 53, 54, 55, 56, 57, 58, 61, 62, 63, 64, 67, 70, 71, 74, 75, 76, 77, 79, 82, 83, 84, 87, 88, 89, 90, 92, 95, 96, 97, 98, 101, 102, 105, 108, 109, 112, 113, 116, 117, 118, 119, 120, 121, 122] = true := by decide +kernel
theorem gC_226 : gChk xTf_12 gF gL prog_14_method_33_code [0, 1, 2, 5, 6, 9, 10, 11, 12, 13, 16, 19, 20, 22, 25, 28, 29, 30, 33, 34, 35, 38, 39, 42, 45, 46, 49, 50, 53, 54, 57, 58, 61, 62, 63, 64, 67, 68, 71, 72, 75, 76, 77, 80, 81, 83, 86, 87, 90, 91, 94, 95, 98, 99, 100, 103, 106, 107, 110, 111, 113, 116, 117, 120, 121, 123, 126, 129, 130, 133, 134, 137, 138, 139, 140, 143, 144, 145, 148, 149, 152, 155, 156, 157, 160, 161, 162, 165, 166, 167, 168, 169, 170, 171, 174, 175, 176, 179, 180, 181, 182, 183, 186, 187, 188] = true := by decide +kernel
theorem gC_227 : gChk xTf_12 gF gL prog_14_method_34_code [0, 1, 4, 5, 8, 9, 12, 13, 14, 17, 20, 21, 24, 25, 28, 29, 32, 33, 36, 37, 38, 39, 42, 43, 44, 47, 48] = true := by decide +kernel
theorem gC_228 : gChk xTf_12 gF gL prog_14_method_35_code [0, 1, 4, 5, 8, 9, 10, 11, 14, 15, 18, 19, 20, 21, 22, 25, 26, 27, 30, 31] = true := by decide +kernel
theorem gC_229 : gChk xTf_12 gF gL prog_14_method_36_code [0, 1, 4, 7, 8, 11, 12, 15, 16, 17, 18, 19, 20, 22, 25, 26, 29, 30, 32, 35, 36, 38, 41, 42, 43, 44, 47, 48, 49, 52, 53, 54, 56, 59, 60, 63, 64, 66, 69, 70, 73, 74, 76, 79, 80, 83, 84, 85, 88, 91, 92] = true := by decide +kernel
theorem gC_230 : gChk xTf_12 gF gL prog_14_method_37_code [0, 1, 2, 5, 6, 9, 10, 11, 12, 13, 16, 17, 20, 23, 24, 26, 29, 32, 33, 36, 38, 41, 42, 43, 46, 47, 48, 51, 52, 53, 56, 57, 60, 61, 64, 65, 68, 70, 71, 72, 73, 76, 77, 78, 81, 84, 85, 88, 89, 92, 95, 96, 97, 99, 102, 105, 106, 109, 110, 113, 114, 115, 118, 119, 120, 123, 124, 125, 128, 129, 130, 133, 134, 135, 138, 139, 142, 145, 146, 148, 151, 154, 155, 157, 160, 163, 164, 166, 169, 172, 173, 175, 178, 181, 182, 185, 186, 187, 188, 191, 192, 195, 196, 199, 200, 201, 204, 205, 206, 209, 210, 211, 212, 214, 217, 220, 221, 223, 226, 229, 230, 233, 234, 237, 238, 241, 242, 245, 246, 249, 250, 253, 254, 255, 256, 257, 260, 261, 262, 265, 266, 269, 272, 273] = true := by decide +kernel
theorem gC_231 : gChk xTf_12 gF gL prog_14_method_38_code [0, 1, 2, 5, 8, 9, 10, 11, 14, 15, 18, 19, 22, 23, 26, 29, 30, 33, 36, 37, 40, 41, 44, 45, 47, 50, 51, 54, 55, 58, 59, 61, 64, 65, 66, 67, 70, 71, 74, 75, 77, 78, 81, 82, 85, 88, 89, 90, 93, 94] = true := by decide +kernel
theorem gC_232 : gChk xTf_12 gF gL prog_14_method_39_code [0, 1, 2, 3, 5, 7, 8, 11, 12, 15, 17, 18, 20, 22, 23, 26, 27, 30, 31, 33, 36, 37, 40, 42, 43, 46, 47, 50, 51, 54, 56, 57, 58, 59, 62, 65, 68, 69, 72, 73, 74, 75, 76, 78, 79, 82, 83, 84, 86, 88, 89, 92, 94, 97, 98, 99, 102, 103, 104, 105, 108, 109, 110, 111, 113, 114, 117, 119, 121, 122, 125, 127, 128, 131, 133, 135, 136, 139, 141, 142, 145, 147, 149, 150, 153, 155, 157, 158, 159, 162, 165, 166, 169, 170, 171, 172] = true := by decide +kernel
theorem gC_233 : gChk xTf_7 gF gL prog_8_method_5_code [0, 1, 4, 5, 8, 11, 12, 15, 16, 17, 20, 21, 22] = true := by decide +kernel
theorem gC_234 : gChk xTf_3 gF gL prog_4_method_16_code [0, 1, 2, 5, 8, 9, 10, 11, 12, 13, 16, 19, 20, 23, 25, 28, 29, 32, 34, 37, 38, 41, 42, 43, 44, 47, 50, 51, 52, 55, 58, 59, 60, 61, 64, 65, 67, 70, 71, 74, 75, 76, 79, 82, 85, 86, 87] = true := by decide +kernel
theorem gC_235 : gChk xTf_3 gF gL prog_4_method_17_code [0, 1, 2, 5, 8, 9, 10, 11, 12, 13, 16, 19, 20, 23, 25, 28, 29, 32, 34, 37, 38, 41, 42, 43, 44, 47, 50, 51, 52, 55, 58, 59, 60, 61, 64, 65, 67, 70, 71, 74, 75, 76, 79, 82, 85, 86, 87] = true := by decide +kernel
theorem gC_236 : gChk xTf_3 gF gL prog_4_method_18_code [0, 1, 4, 5, 6, 8, 11, 12, 14, 17, 18, 19, 22, 25, 26, 28, 31, 34, 35, 36, 37, 38, 41, 44, 45, 47, 50, 53, 54, 57, 58, 59, 60, 61, 64, 65, 68, 69, 70, 71, 74, 75, 78, 81, 84, 85, 86, 89, 90, 91, 94, 97, 98, 101, 102, 103, 106, 107, 110, 111, 112, 115, 116, 117, 118, 121, 122] = true := by decide +kernel
theorem gC_237 : gChk xTf_3 gF gL prog_4_method_13_code [0, 1, 4, 5, 8, 11, 12, 13, 14, 15, 16, 18, 19, 20] = true := by decide +kernel
theorem gC_238 : gChk xTf_3 gF gL prog_4_method_12_code [0, 1, 2, 3, 4, 7, 10, 11, 12, 15, 16, 17, 18, 21, 23, 26, 27, 28, 31, 34, 35, 36] = true := by decide +kernel
theorem gC_239 : gChk xTf_8 gF gL prog_9_method_7_code [0, 1, 2, 3, 4, 5, 8, 11, 12, 14, 17, 18, 21, 22, 23, 24, 27, 28, 29, 32, 35, 36, 37, 40, 41, 44, 45, 46, 47, 50, 52, 53, 54, 57, 60, 61, 64, 65, 66] = true := by decide +kernel
theorem gC_240 : gChk xTf_8 gF gL prog_9_method_8_code [0, 1, 2, 3, 5, 8, 9, 10, 11, 12, 15, 18, 21, 22, 23, 24, 27, 30, 31, 32] = true := by decide +kernel
theorem gC_241 : gChk xTf_8 gF gL prog_9_method_9_code [0, 1, 3, 5, 7, 10, 12, 13, 16, 17, 18, 20, 21, 22, 25, 27, 29, 31, 32, 34, 35, 37, 38, 41, 43, 46, 47, 48, 51, 54, 55, 56] = true := by decide +kernel
theorem gC_242 : gChk xTf_8 gF gL prog_9_method_6_code [0, 1, 2, 3, 6, 7, 8, 11, 12, 13, 14, 17, 20, 21, 22, 23, 24, 25, 27, 29, 30, 33, 34, 37, 38, 40, 41, 44, 47, 50, 51, 53, 54, 57, 60, 63, 66, 68, 69, 70, 71] = true := by decide +kernel
theorem gC_243 : gChk xTf_2 gF gL prog_3_method_9_code [0, 1, 28, 29, 30, 31, 32, 33, 34, 35, 36, 37, 38, 39, 40, 41, 44, 45, 48, 49, 50, 51, 52] = true := by decide +kernel
theorem gH : ∀ (mn : Nat) (q : xP), xMB mn = some q → gL mn = true → gGd gF gL q := (xB_n (xB_n (xB_n (xB_n (xB_n (xB_n (xB_n (xB_l (fun _ => Or.inl ⟨_, _, xo_1, gC_0⟩)) (xB_n (xB_l (fun _ => Or.inl ⟨_, _, xo_1, gC_1⟩)) (xB_l (fun _ => Or.inl ⟨_, _, xo_2, gC_2⟩)))) (xB_n (xB_n (xB_l (fun _ => Or.inl ⟨_, _, xo_2, gC_3⟩)) (xB_l (fun _ => Or.inl ⟨_, _, xo_2, gC_4⟩))) (xB_n (xB_l (fun _ => Or.inl ⟨_, _, xo_2, gC_5⟩)) (xB_l (fun _ => Or.inl ⟨_, _, xo_2, gC_6⟩))))) (xB_n (xB_n (xB_n (xB_l (fun _ => Or.inl ⟨_, _, xo_2, gC_7⟩)) (xB_l (fun _ => Or.inl ⟨_, _, xo_2, gC_8⟩))) (xB_n (xB_l (fun _ => Or.inl ⟨_, _, xo_3, gC_9⟩)) (xB_l (fun _ => Or.inl ⟨_, _, xo_3, gC_10⟩)))) (xB_n (xB_n (xB_l (fun _ => Or.inl ⟨_, _, xo_3, gC_11⟩)) (xB_l (fun _ => Or.inl ⟨_, _, xo_3, gC_12⟩))) (xB_n (xB_l (fun _ => Or.inl ⟨_, _, xo_3, gC_13⟩)) (xB_l (fun _ => Or.inl ⟨_, _, xo_3, gC_14⟩)))))) (xB_n (xB_n (xB_n (xB_l (fun _ => Or.inl ⟨_, _, xo_3, gC_15⟩)) (xB_n (xB_l (fun _ => Or.inl ⟨_, _, xo_3, gC_16⟩)) (xB_l (fun _ => Or.inl ⟨_, _, xo_3, gC_17⟩)))) (xB_n (xB_n (xB_l (fun _ => Or.inl ⟨_, _, xo_3, gC_18⟩)) (xB_l (fun _ => Or.inl ⟨_, _, xo_3, gC_19⟩))) (xB_n (xB_l (fun _ => Or.inl ⟨_, _, xo_3, gC_20⟩)) (xB_l (fun _ => Or.inl ⟨_, _, xo_4, gC_21⟩))))) (xB_n (xB_n (xB_n (xB_l (fun _ => Or.inl ⟨_, _, xo_4, gC_22⟩)) (xB_l (fun _ => Or.inl ⟨_, _, xo_4, gC_23⟩))) (xB_n (xB_l (fun _ => Or.inl ⟨_, _, xo_4, gC_24⟩)) (xB_l (fun _ => Or.inl ⟨_, _, xo_4, gC_25⟩)))) (xB_n (xB_n (xB_l (fun _ => Or.inl ⟨_, _, xo_4, gC_26⟩)) (xB_l (fun _ => Or.inl ⟨_, _, xo_4, gC_27⟩))) (xB_n (xB_l (fun _ => Or.inl ⟨_, _, xo_4, gC_28⟩)) (xB_l (fun _ => Or.inl ⟨_, _, xo_4, gC_29⟩))))))) (xB_n (xB_n (xB_n (xB_n (xB_l (fun _ => Or.inl ⟨_, _, xo_4, gC_30⟩)) (xB_n (xB_l (fun _ => Or.inl ⟨_, _, xo_5, gC_31⟩)) (xB_l (fun _ => Or.inl ⟨_, _, xo_5, gC_32⟩)))) (xB_n (xB_n (xB_l (fun _ => Or.inl ⟨_, _, xo_5, gC_33⟩)) (xB_l (fun _ => Or.inl ⟨_, _, xo_5, gC_34⟩))) (xB_n (xB_l (fun _ => Or.inl ⟨_, _, xo_5, gC_35⟩)) (xB_l (fun _ => Or.inl ⟨_, _, xo_5, gC_36⟩))))) (xB_n (xB_n (xB_n (xB_l (fun _ => Or.inl ⟨_, _, xo_5, gC_37⟩)) (xB_l (fun _ => Or.inl ⟨_, _, xo_5, gC_38⟩))) (xB_n (xB_l (fun _ => Or.inl ⟨_, _, xo_5, gC_39⟩)) (xB_l (fun _ => Or.inl ⟨_, _, xo_6, gC_40⟩)))) (xB_n (xB_n (xB_l (fun _ => Or.inl ⟨_, _, xo_6, gC_41⟩)) (xB_l (fun _ => Or.inl ⟨_, _, xo_6, gC_42⟩))) (xB_n (xB_l (fun _ => Or.inl ⟨_, _, xo_7, gC_43⟩)) (xB_l (fun _ => Or.inl ⟨_, _, xo_7, gC_44⟩)))))) (xB_n (xB_n (xB_n (xB_n (xB_l (fun _ => Or.inl ⟨_, _, xo_7, gC_45⟩)) (xB_l (fun _ => Or.inl ⟨_, _, xo_7, gC_46⟩))) (xB_n (xB_l (fun _ => Or.inl ⟨_, _, xo_7, gC_47⟩)) (xB_l (fun _ => Or.inl ⟨_, _, xo_8, gC_48⟩)))) (xB_n (xB_n (xB_l (fun _ => Or.inl ⟨_, _, xo_9, gC_49⟩)) (xB_l (fun _ => Or.inl ⟨_, _, xo_9, gC_50⟩))) (xB_n (xB_l (fun _ => Or.inl ⟨_, _, xo_9, gC_51⟩)) (xB_l (fun _ => Or.inl ⟨_, _, xo_9, gC_52⟩))))) (xB_n (xB_n (xB_n (xB_l (fun _ => Or.inl ⟨_, _, xo_9, gC_53⟩)) (xB_l (fun _ => Or.inl ⟨_, _, xo_9, gC_54⟩))) (xB_n (xB_l (fun _ => Or.inl ⟨_, _, xo_9, gC_55⟩)) (xB_l (fun _ => Or.inl ⟨_, _, xo_9, gC_56⟩)))) (xB_n (xB_n (xB_l (fun _ => Or.inl ⟨_, _, xo_9, gC_57⟩)) (xB_l (fun _ => Or.inl ⟨_, _, xo_9, gC_58⟩))) (xB_n (xB_l (fun _ => Or.inl ⟨_, _, xo_10, gC_59⟩)) (xB_l (fun _ => Or.inl ⟨_, _, xo_10, gC_60⟩)))))))) (xB_n (xB_n (xB_n (xB_n (xB_n (xB_l (fun _ => Or.inl ⟨_, _, xo_10, gC_61⟩)) (xB_n (xB_l (fun _ => Or.inl ⟨_, _, xo_10, gC_62⟩)) (xB_l (fun _ => Or.inl ⟨_, _, xo_10, gC_63⟩)))) (xB_n (xB_n (xB_l (fun _ => Or.inl ⟨_, _, xo_10, gC_64⟩)) (xB_l (fun _ => Or.inl ⟨_, _, xo_11, gC_65⟩))) (xB_n (xB_l (fun _ => Or.inl ⟨_, _, xo_11, gC_66⟩)) (xB_l (fun _ => Or.inl ⟨_, _, xo_11, gC_67⟩))))) (xB_n (xB_n (xB_n (xB_l (fun _ => Or.inl ⟨_, _, xo_11, gC_68⟩)) (xB_l (fun _ => Or.inl ⟨_, _, xo_11, gC_69⟩))) (xB_n (xB_l (fun _ => Or.inl ⟨_, _, xo_0, gC_70⟩)) (xB_l (fun _ => Or.inl ⟨_, _, xo_0, gC_71⟩)))) (xB_n (xB_n (xB_l (fun _ => Or.inl ⟨_, _, xo_0, gC_72⟩)) (xB_l (fun _ => Or.inl ⟨_, _, xo_0, gC_73⟩))) (xB_n (xB_l (fun _ => Or.inl ⟨_, _, xo_0, gC_74⟩)) (xB_l (fun _ => Or.inl ⟨_, _, xo_0, gC_75⟩)))))) (xB_n (xB_n (xB_n (xB_l (fun _ => Or.inl ⟨_, _, xo_0, gC_76⟩)) (xB_n (xB_l (fun _ => Or.inl ⟨_, _, xo_0, gC_77⟩)) (xB_l (fun _ => Or.inl ⟨_, _, xo_0, gC_78⟩)))) (xB_n (xB_n (xB_l (fun _ => Or.inl ⟨_, _, xo_0, gC_79⟩)) (xB_l (fun _ => Or.inl ⟨_, _, xo_0, gC_80⟩))) (xB_n (xB_l (fun _ => Or.inl ⟨_, _, xo_0, gC_81⟩)) (xB_l (fun _ => Or.inl ⟨_, _, xo_0, gC_82⟩))))) (xB_n (xB_n (xB_n (xB_l (fun _ => Or.inl ⟨_, _, xo_0, gC_83⟩)) (xB_l (fun _ => Or.inl ⟨_, _, xo_0, gC_84⟩))) (xB_n (xB_l (fun _ => Or.inl ⟨_, _, xo_0, gC_85⟩)) (xB_l (fun _ => Or.inl ⟨_, _, xo_0, gC_86⟩)))) (xB_n (xB_n (xB_l (fun _ => Or.inl ⟨_, _, xo_0, gC_87⟩)) (xB_l (fun _ => Or.inl ⟨_, _, xo_0, gC_88⟩))) (xB_n (xB_l (fun _ => Or.inl ⟨_, _, xo_0, gC_89⟩)) (xB_l (fun _ => Or.inl ⟨_, _, xo_0, gC_90⟩))))))) (xB_n (xB_n (xB_n (xB_n (xB_l (fun _ => Or.inl ⟨_, _, xo_0, gC_91⟩)) (xB_n (xB_l (fun _ => Or.inl ⟨_, _, xo_0, gC_92⟩)) (xB_l (fun _ => Or.inl ⟨_, _, xo_0, gC_93⟩)))) (xB_n (xB_n (xB_l (fun _ => Or.inl ⟨_, _, xo_0, gC_94⟩)) (xB_l (fun _ => Or.inl ⟨_, _, xo_0, gC_95⟩))) (xB_n (xB_l (fun _ => Or.inl ⟨_, _, xo_0, gC_96⟩)) (xB_l (fun _ => Or.inl ⟨_, _, xo_0, gC_97⟩))))) (xB_n (xB_n (xB_n (xB_l (fun h => absurd h (by decide +kernel))) (xB_l (fun _ => Or.inl ⟨_, _, xo_0, gC_99⟩))) (xB_n (xB_l (fun _ => Or.inl ⟨_, _, xo_0, gC_100⟩)) (xB_l (fun _ => Or.inl ⟨_, _, xo_0, gC_101⟩)))) (xB_n (xB_n (xB_l (fun _ => Or.inl ⟨_, _, xo_0, gC_102⟩)) (xB_l (fun _ => Or.inl ⟨_, _, xo_0, gC_103⟩))) (xB_n (xB_l (fun _ => Or.inl ⟨_, _, xo_0, gC_104⟩)) (xB_l (fun _ => Or.inl ⟨_, _, xo_0, gC_105⟩)))))) (xB_n (xB_n (xB_n (xB_n (xB_l (fun _ => Or.inl ⟨_, _, xo_0, gC_106⟩)) (xB_l (fun _ => Or.inl ⟨_, _, xo_0, gC_107⟩))) (xB_n (xB_l (fun _ => Or.inl ⟨_, _, xo_0, gC_108⟩)) (xB_l (fun _ => Or.inl ⟨_, _, xo_0, gC_109⟩)))) (xB_n (xB_n (xB_l (fun _ => Or.inl ⟨_, _, xo_0, gC_110⟩)) (xB_l (fun _ => Or.inl ⟨_, _, xo_0, gC_111⟩))) (xB_n (xB_l (fun _ => Or.inl ⟨_, _, xo_0, gC_112⟩)) (xB_l (fun _ => Or.inl ⟨_, _, xo_0, gC_113⟩))))) (xB_n (xB_n (xB_n (xB_l (fun _ => Or.inl ⟨_, _, xo_0, gC_114⟩)) (xB_l (fun _ => Or.inl ⟨_, _, xo_0, gC_115⟩))) (xB_n (xB_l (fun _ => Or.inl ⟨_, _, xo_12, gC_116⟩)) (xB_l (fun _ => Or.inl ⟨_, _, xo_12, gC_117⟩)))) (xB_n (xB_n (xB_l (fun _ => Or.inl ⟨_, _, xo_12, gC_118⟩)) (xB_l (fun _ => Or.inl ⟨_, _, xo_12, gC_119⟩))) (xB_n (xB_l (fun _ => Or.inl ⟨_, _, xo_12, gC_120⟩)) (xB_l (fun _ => Or.inl ⟨_, _, xo_12, gC_121⟩))))))))) (xB_n (xB_n (xB_n (xB_n (xB_n (xB_n (xB_l (fun _ => Or.inl ⟨_, _, xo_12, gC_122⟩)) (xB_n (xB_l (fun _ => Or.inl ⟨_, _, xo_12, gC_123⟩)) (xB_l (fun _ => Or.inl ⟨_, _, xo_12, gC_124⟩)))) (xB_n (xB_n (xB_l (fun _ => Or.inl ⟨_, _, xo_12, gC_125⟩)) (xB_l (fun _ => Or.inl ⟨_, _, xo_12, gC_126⟩))) (xB_n (xB_l (fun _ => Or.inl ⟨_, _, xo_12, gC_127⟩)) (xB_l (fun _ => Or.inl ⟨_, _, xo_12, gC_128⟩))))) (xB_n (xB_n (xB_n (xB_l (fun _ => Or.inl ⟨_, _, xo_12, gC_129⟩)) (xB_l (fun _ => Or.inl ⟨_, _, xo_12, gC_130⟩))) (xB_n (xB_l (fun _ => Or.inl ⟨_, _, xo_12, gC_131⟩)) (xB_l (fun _ => Or.inl ⟨_, _, xo_12, gC_132⟩)))) (xB_n (xB_n (xB_l (fun _ => Or.inl ⟨_, _, xo_12, gC_133⟩)) (xB_l (fun _ => Or.inl ⟨_, _, xo_12, gC_134⟩))) (xB_n (xB_l (fun _ => Or.inl ⟨_, _, xo_12, gC_135⟩)) (xB_l (fun _ => Or.inl ⟨_, _, xo_12, gC_136⟩)))))) (xB_n (xB_n (xB_n (xB_l (fun _ => Or.inl ⟨_, _, xo_12, gC_137⟩)) (xB_n (xB_l (fun _ => Or.inl ⟨_, _, xo_12, gC_138⟩)) (xB_l (fun _ => Or.inl ⟨_, _, xo_12, gC_139⟩)))) (xB_n (xB_n (xB_l (fun _ => Or.inl ⟨_, _, xo_12, gC_140⟩)) (xB_l (fun _ => Or.inl ⟨_, _, xo_12, gC_141⟩))) (xB_n (xB_l (fun _ => Or.inl ⟨_, _, xo_12, gC_142⟩)) (xB_l (fun _ => Or.inl ⟨_, _, xo_12, gC_143⟩))))) (xB_n (xB_n (xB_n (xB_l (fun _ => Or.inl ⟨_, _, xo_12, gC_144⟩)) (xB_l (fun _ => Or.inl ⟨_, _, xo_12, gC_145⟩))) (xB_n (xB_l (fun _ => Or.inl ⟨_, _, xo_12, gC_146⟩)) (xB_l (fun _ => Or.inl ⟨_, _, xo_12, gC_147⟩)))) (xB_n (xB_n (xB_l (fun _ => Or.inl ⟨_, _, xo_12, gC_148⟩)) (xB_l (fun _ => Or.inl ⟨_, _, xo_12, gC_149⟩))) (xB_n (xB_l (fun _ => Or.inl ⟨_, _, xo_12, gC_150⟩)) (xB_l (fun _ => Or.inl ⟨_, _, xo_12, gC_151⟩))))))) (xB_n (xB_n (xB_n (xB_n (xB_l (fun _ => Or.inl ⟨_, _, xo_12, gC_152⟩)) (xB_n (xB_l (fun _ => Or.inl ⟨_, _, xo_12, gC_153⟩)) (xB_l (fun _ => Or.inl ⟨_, _, xo_12, gC_154⟩)))) (xB_n (xB_n (xB_l (fun _ => Or.inl ⟨_, _, xo_12, gC_155⟩)) (xB_l (fun _ => Or.inl ⟨_, _, xo_12, gC_156⟩))) (xB_n (xB_l (fun _ => Or.inl ⟨_, _, xo_12, gC_157⟩)) (xB_l (fun _ => Or.inl ⟨_, _, xo_12, gC_158⟩))))) (xB_n (xB_n (xB_n (xB_l (fun _ => Or.inl ⟨_, _, xo_12, gC_159⟩)) (xB_l (fun _ => Or.inl ⟨_, _, xo_12, gC_160⟩))) (xB_n (xB_l (fun _ => Or.inl ⟨_, _, xo_12, gC_161⟩)) (xB_l (fun _ => Or.inl ⟨_, _, xo_12, gC_162⟩)))) (xB_n (xB_n (xB_l (fun _ => Or.inl ⟨_, _, xo_12, gC_163⟩)) (xB_l (fun _ => Or.inl ⟨_, _, xo_12, gC_164⟩))) (xB_n (xB_l (fun _ => Or.inl ⟨_, _, xo_12, gC_165⟩)) (xB_l (fun _ => Or.inl ⟨_, _, xo_12, gC_166⟩)))))) (xB_n (xB_n (xB_n (xB_n (xB_l (fun _ => Or.inl ⟨_, _, xo_12, gC_167⟩)) (xB_l (fun _ => Or.inl ⟨_, _, xo_12, gC_168⟩))) (xB_n (xB_l (fun _ => Or.inl ⟨_, _, xo_12, gC_169⟩)) (xB_l (fun _ => Or.inl ⟨_, _, xo_12, gC_170⟩)))) (xB_n (xB_n (xB_l (fun _ => Or.inl ⟨_, _, xo_12, gC_171⟩)) (xB_l (fun _ => Or.inl ⟨_, _, xo_12, gC_172⟩))) (xB_n (xB_l (fun _ => Or.inl ⟨_, _, xo_12, gC_173⟩)) (xB_l (fun _ => Or.inl ⟨_, _, xo_12, gC_174⟩))))) (xB_n (xB_n (xB_n (xB_l (fun _ => Or.inl ⟨_, _, xo_12, gC_175⟩)) (xB_l (fun _ => Or.inl ⟨_, _, xo_12, gC_176⟩))) (xB_n (xB_l (fun _ => Or.inl ⟨_, _, xo_12, gC_177⟩)) (xB_l (fun _ => Or.inl ⟨_, _, xo_12, gC_178⟩)))) (xB_n (xB_n (xB_l (fun _ => Or.inl ⟨_, _, xo_12, gC_179⟩)) (xB_l (fun h => absurd h (by decide +kernel)))) (xB_n (xB_l (fun _ => Or.inl ⟨_, _, xo_12, gC_181⟩)) (xB_l (fun _ => Or.inl ⟨_, _, xo_12, gC_182⟩)))))))) (xB_n (xB_n (xB_n (xB_n (xB_n (xB_l (fun _ => Or.inl ⟨_, _, xo_12, gC_183⟩)) (xB_n (xB_l (fun _ => Or.inl ⟨_, _, xo_12, gC_184⟩)) (xB_l (fun _ => Or.inl ⟨_, _, xo_12, gC_185⟩)))) (xB_n (xB_n (xB_l (fun _ => Or.inl ⟨_, _, xo_12, gC_186⟩)) (xB_l (fun _ => Or.inl ⟨_, _, xo_12, gC_187⟩))) (xB_n (xB_l (fun _ => Or.inl ⟨_, _, xo_12, gC_188⟩)) (xB_l (fun _ => Or.inl ⟨_, _, xo_12, gC_189⟩))))) (xB_n (xB_n (xB_n (xB_l (fun _ => Or.inl ⟨_, _, xo_12, gC_190⟩)) (xB_l (fun _ => Or.inl ⟨_, _, xo_12, gC_191⟩))) (xB_n (xB_l (fun _ => Or.inl ⟨_, _, xo_12, gC_192⟩)) (xB_l (fun _ => Or.inl ⟨_, _, xo_12, gC_193⟩)))) (xB_n (xB_n (xB_l (fun _ => Or.inl ⟨_, _, xo_12, gC_194⟩)) (xB_l (fun _ => Or.inl ⟨_, _, xo_12, gC_195⟩))) (xB_n (xB_l (fun _ => Or.inl ⟨_, _, xo_12, gC_196⟩)) (xB_l (fun _ => Or.inl ⟨_, _, xo_12, gC_197⟩)))))) (xB_n (xB_n (xB_n (xB_l (fun _ => Or.inl ⟨_, _, xo_12, gC_198⟩)) (xB_n (xB_l (fun _ => Or.inl ⟨_, _, xo_12, gC_199⟩)) (xB_l (fun _ => Or.inl ⟨_, _, xo_12, gC_200⟩)))) (xB_n (xB_n (xB_l (fun _ => Or.inl ⟨_, _, xo_12, gC_201⟩)) (xB_l (fun _ => Or.inl ⟨_, _, xo_12, gC_202⟩))) (xB_n (xB_l (fun _ => Or.inl ⟨_, _, xo_12, gC_203⟩)) (xB_l (fun _ => Or.inl ⟨_, _, xo_12, gC_204⟩))))) (xB_n (xB_n (xB_n (xB_l (fun _ => Or.inl ⟨_, _, xo_12, gC_205⟩)) (xB_l (fun _ => Or.inl ⟨_, _, xo_13, gC_206⟩))) (xB_n (xB_l (fun _ => Or.inl ⟨_, _, xo_14, gC_207⟩)) (xB_l (fun _ => Or.inl ⟨_, _, xo_8, gC_208⟩)))) (xB_n (xB_n (xB_l (fun _ => Or.inl ⟨_, _, xo_8, gC_209⟩)) (xB_l (fun _ => Or.inl ⟨_, _, xo_8, gC_210⟩))) (xB_n (xB_l (fun _ => Or.inl ⟨_, _, xo_12, gC_211⟩)) (xB_l (fun _ => Or.inl ⟨_, _, xo_12, gC_212⟩))))))) (xB_n (xB_n (xB_n (xB_n (xB_l (fun _ => Or.inl ⟨_, _, xo_12, gC_213⟩)) (xB_n (xB_l (fun _ => Or.inl ⟨_, _, xo_12, gC_214⟩)) (xB_l (fun _ => Or.inl ⟨_, _, xo_12, gC_215⟩)))) (xB_n (xB_n (xB_l (fun _ => Or.inl ⟨_, _, xo_12, gC_216⟩)) (xB_l (fun _ => Or.inl ⟨_, _, xo_12, gC_217⟩))) (xB_n (xB_l (fun _ => Or.inl ⟨_, _, xo_12, gC_218⟩)) (xB_l (fun _ => Or.inl ⟨_, _, xo_12, gC_219⟩))))) (xB_n (xB_n (xB_n (xB_l (fun _ => Or.inl ⟨_, _, xo_12, gC_220⟩)) (xB_l (fun _ => Or.inl ⟨_, _, xo_12, gC_221⟩))) (xB_n (xB_l (fun _ => Or.inl ⟨_, _, xo_12, gC_222⟩)) (xB_l (fun _ => Or.inl ⟨_, _, xo_12, gC_223⟩)))) (xB_n (xB_n (xB_l (fun _ => Or.inl ⟨_, _, xo_12, gC_224⟩)) (xB_l (fun _ => Or.inl ⟨_, _, xo_12, gC_225⟩))) (xB_n (xB_l (fun _ => Or.inl ⟨_, _, xo_12, gC_226⟩)) (xB_l (fun _ => Or.inl ⟨_, _, xo_12, gC_227⟩)))))) (xB_n (xB_n (xB_n (xB_n (xB_l (fun _ => Or.inl ⟨_, _, xo_12, gC_228⟩)) (xB_l (fun _ => Or.inl ⟨_, _, xo_12, gC_229⟩))) (xB_n (xB_l (fun _ => Or.inl ⟨_, _, xo_12, gC_230⟩)) (xB_l (fun _ => Or.inl ⟨_, _, xo_12, gC_231⟩)))) (xB_n (xB_n (xB_l (fun _ => Or.inl ⟨_, _, xo_12, gC_232⟩)) (xB_l (fun _ => Or.inl ⟨_, _, xo_7, gC_233⟩))) (xB_n (xB_l (fun _ => Or.inl ⟨_, _, xo_3, gC_234⟩)) (xB_l (fun _ => Or.inl ⟨_, _, xo_3, gC_235⟩))))) (xB_n (xB_n (xB_n (xB_l (fun _ => Or.inl ⟨_, _, xo_3, gC_236⟩)) (xB_l (fun _ => Or.inl ⟨_, _, xo_3, gC_237⟩))) (xB_n (xB_l (fun _ => Or.inl ⟨_, _, xo_3, gC_238⟩)) (xB_l (fun _ => Or.inl ⟨_, _, xo_8, gC_239⟩)))) (xB_n (xB_n (xB_l (fun _ => Or.inl ⟨_, _, xo_8, gC_240⟩)) (xB_l (fun _ => Or.inl ⟨_, _, xo_8, gC_241⟩))) (xB_n (xB_l (fun _ => Or.inl ⟨_, _, xo_8, gC_242⟩)) (xB_l (fun _ => Or.inl ⟨_, _, xo_2, gC_243⟩))))))))))
theorem gR {mn : Nat} {q : xP} (hm : xMB mn = some q) (hl : gL mn = true) {as : List zV} {r : Option zV} {μ μ' : xM} (h : Ex gx q as μ r μ') : gRm gF μ μ' := gAll gPF (fun mn q h1 h2 => gH mn q h2 h1) (gH mn q hm hl) h
/-! ===== the fields of this claim ===== -/
def gFb : List (Nat × Nat × Int) := [(0, 11, 9)]
theorem gPFb : fPF gFb := by
  intro p hp
  rcases List.mem_cons.mp hp with rfl | hp
  · exact ⟨by decide, by decide, _, rfl⟩
  · cases hp
def gLb (mn : Nat) : Bool := Nat.testBit 6901743081498748749606820373354052588336745859904201620116797235658753 mn
theorem gCb_0 : gChk xTf_1 gFb gLb prog_2_method_2_code [0, 1, 4, 5, 8, 9, 10, 11, 14, 17, 18, 21, 22, 23, 26, 27, 30, 31, 32, 33, 34, 37, 38, 39, 42, 43, 44, 46, 47, 50, 51, 53, 54, 57, 58, 59, 62, 65, 66] = true := by decide +kernel
theorem gCb_49 : gChk xTf_9 gFb gLb prog_10_method_3_code [0, 1, 4, 5, 6, 9, 10, 12, 15, 16, 19, 20, 21, 24, 25, 27, 30, 31, 34, 35, 36, 39, 40, 42, 45, 46, 49, 50, 51, 54, 55, 58, 61, 62, 65, 66, 67, 70, 71, 73, 76, 77, 78, 81, 84, 85, 86, 89, 92, 93, 94, 97, 100, 101, 102, 105, 108, 109, 110, 113, 116, 117] = true := by decide +kernel
theorem gCb_121 : gChk xTf_12 gFb gLb prog_14_method_46_code [0, 1, 2, 3, 6, 9, 10, 13, 14, 15, 16, 19, 22, 23, 24, 25, 27, 28, 31, 32, 35, 36, 37, 40, 41, 44, 45, 46, 49, 51, 52, 55, 56, 57, 58, 59, 60, 63, 66, 67, 68, 71, 72, 75, 76, 79, 80, 81, 84, 85, 86, 89, 90] = true := by decide +kernel
theorem gCb_124 : gChk xTf_12 gFb gLb prog_14_method_27_code [0, 1, 4, 7, 8, 9, 12, 15, 16, 17, 20, 21, 22, 23, 26, 27, 30, 31, 32, 33, 34, 37, 38, 39, 42, 43, 44, 45, 48, 51, 52, 55, 56, 57] = true := by decide +kernel
theorem gCb_133 : gChk xTf_12 gFb gLb prog_14_method_15_code [0, 1, 4, 7, 8, 9, 10, 13, 14, 15, 18, 19, 22, 23, 26, 27] = true := by decide +kernel
theorem gCb_144 : gChk xTf_12 gFb gLb prog_14_method_17_code [0, 1, 4, 7, 10, 11, 12, 15, 18, 19, 20, 23, 24, 25, 28, 29] = true := by decide +kernel
theorem gCb_149 : gChk xTf_12 gFb gLb prog_14_method_14_code [0, 1, 4, 7, 8, 11, 12, 15, 16, 17, 20, 21, 24, 25, 26] = true := by decide +kernel
theorem gCb_157 : gChk xTf_12 gFb gLb prog_14_method_47_code [0, 1, 2, 3, 6, 9, 10, 13, 14, 15, 18, 19, 20, 21, 24, 27, 28] = true := by decide +kernel
theorem gCb_169 : gChk xTf_12 gFb gLb prog_14_method_18_code [0, 1, 2, 5, 8, 9, 12, 15, 16, 17, 20, 21] = true := by decide +kernel
theorem gCb_170 : gChk xTf_12 gFb gLb prog_14_method_25_code [0, 1, 4, 5, 6, 7, 10, 11, 12, 13, 14, 17, 20, 21, 24, 27, 28, 31, 32, 33, 34, 37, 38, 39, 40, 43, 44, 45, 46, 49, 52, 55, 56, 57] = true := by decide +kernel
theorem gCb_180 : gChk xTf_12 gFb gLb prog_14_method_20_code [0, 1, 2, 5, 8, 9, 10, 11, 12, 15, 18, 19, 22, 23, 24, 27, 28, 29, 30, 33, 36, 37, 38, 41, 42, 45, 46, 47, 50, 51, 52, 55, 56, 57, 60, 61, 62, 65, 66, 67, 68, 71, 72, 75, 76, 77, 80, 81, 82, 85, 88, 89, 92, 93, 96, 97, 100, 101, 104, 105, 108, 109, 112, 113, 116, 119, 120, 121, 124, 127, 128, 131, 134, 135, 136, 139, 142, 143, 146, 149, 150, 153, 156, 157, 160, 163, 164, 167, 168, 171, 174, 175, 178, 179, 180, 183, 186, 187, 190, 191, 192, 193, 196, 199, 200, 203, 204, 207, 208, 209, 212, 213, 214, 217, 218, 219, 220, 221, 224, 225, 228, 229, 230, 231, 234, 237, 238, 239] = true := by decide +kernel
theorem gCb_183 : gChk xTf_12 gFb gLb prog_14_method_22_code [0, 1, 2, 5, 6, 7, 10, 11, 14, 17, 18, 21, 22] = true := by decide +kernel
theorem gCb_192 : gChk xTf_12 gFb gLb prog_14_method_23_code [0, 1, 4, 5, 6, 7, 10, 11, 12, 13, 16, 17, 18] = true := by decide +kernel
theorem gCb_204 : gChk xTf_12 gFb gLb prog_14_method_16_code [0, 1, 4, 5, 6, 7, 8, 11, 14, 15, 18, 21, 22, 23, 26, 29, 30, 31, 34, 37, 38, 39, 42, 45, 46, 47, 48, 51, 52, 53, 56, 57] = true := by decide +kernel
theorem gCb_211 : gChk xTf_12 gFb gLb prog_14_method_6_code [0, 1, 2, 5, 8, 9, 12, 13, 14, 17, 18, 21, 22, 23] = true := by decide +kernel
theorem gCb_212 : gChk xTf_12 gFb gLb prog_14_method_7_code [0, 1, 3, 6, 7, 9, 12, 13, 16, 17, 18] = true := by decide +kernel
theorem gCb_213 : gChk xTf_12 gFb gLb prog_14_method_8_code [0, 1, 3, 6, 7, 9, 12, 13, 16, 17, 18] = true := by decide +kernel
theorem gCb_214 : gChk xTf_12 gFb gLb prog_14_method_12_code [0, 1, 2, 5, 6, 7, 8, 11, 14, 17, 18, 19, 22, 23, 24, 25, 28, 31, 32, 33, 34, 37, 38, 39, 42, 43, 44, 46, 49, 50, 52, 55, 56, 58, 61, 62, 64, 67, 70, 73, 74, 77, 80, 81, 82, 83, 85, 86, 87, 88, 89, 92, 95, 98, 99, 101, 104, 106, 107, 108, 109, 110, 113, 116, 118, 121, 124, 125, 127, 130, 131, 134, 135, 137, 138, 140, 143, 144, 146, 148, 150, 153, 154, 157, 159, 160, 162, 163, 166, 168, 170, 171, 173, 176, 179, 180, 182, 183, 184, 186, 189, 190, 191, 192, 193, 196, 197, 200, 203, 204, 205, 206, 208, 209, 210, 211, 212, 215, 218, 221, 222, 223, 226, 228, 230, 231, 232, 233, 234, 235, 238, 239, 241, 242, 244, 247, 250, 251, 252, 253, 256, 257, 260, 261, 262, 264, 265, 268, 269, 270, 271, 272, 275, 276, 277, 278, 279, 280, 281, 282, 283, 286, 289, 290, 291, 294, 295] = true := by decide +kernel
theorem gCb_215 : gChk xTf_12 gFb gLb prog_14_method_11_code [0, 1, 4, 5, 8, 9, 10, 11, 14, 15, 18, 19, 20, 21, 24, 25, 28, 29, 30, 31, 34, 35, 38, 40, 41, 42, 43, 46, 47, 48, 51, 52] = true := by decide +kernel
theorem gCb_216 : gChk xTf_12 gFb gLb prog_14_method_13_code [0, 1, 3, 6, 7, 10, 11, 13, 16, 17, 20, 21, 23, 26, 28, 31, 32, 34, 37, 39, 42, 43, 45, 46, 48, 51, 53, 55, 56, 58, 61, 63, 65, 66, 68, 71, 73, 75, 76, 78, 81, 83, 85, 86, 88, 91, 93, 95, 96, 98, 99, 100, 101, 104, 105, 106] = true := by decide +kernel
theorem gCb_217 : gChk xTf_12 gFb gLb prog_14_method_9_code [0, 1, 4, 5, 8, 11, 12, 13, 14, 16, 17, 18, 19, 20, 21, 22] = true := by decide +kernel
theorem gCb_218 : gChk xTf_12 gFb gLb prog_14_method_19_code [0, 1, 4, 5, 6, 7, 8, 11, 12, 13, 14, 15, 18, 19, 21, 22, 23, 26, 27, 28, 29, 30, 33, 34, 35, 36, 37, 38, 39, 40, 43, 44, 47, 48, 49, 50, 51, 52, 53, 54, 55, 58, 59, 60, 61, 62, 63, 64, 65, 68, 71, 72] = true := by decide +kernel
theorem gCb_219 : gChk xTf_12 gFb gLb prog_14_method_24_code [0, 1, 4, 5, 8, 9, 60, 61, 62, 65, 66, 69, 70, 71, 74, 75, 78, 81, 82, 85, 88, 89, 90, 93, 94, 97, 98, 100, 103, 104, 107, 110, 111, 114, 117, 118, 121, 122, 125, 126, 127, 129, 132, 133, 136, 137, 140, 141, 144, 145, 146, 148, 151, 152, 155, 156, 159, 160, 163, 164, 165, 168, 171, 172, 175, 176, 179, 180, 183, 184, 186, 187, 188, 189, 192, 193, 196, 197, 200, 201, 203, 206, 207, 208, 211, 212, 215, 218, 219, 220, 223, 224, 225, 228, 229] = true := by decide +kernel
theorem gCb_220 : gChk xTf_12 gFb gLb prog_14_method_26_code [0, 1, 2, 5, 6, 9, 12, 13, 14, 17, 18, 21, 22, 25, 26, 27, 28, 29, 30, 33, 34, 35, 38, 39] = true := by decide +kernel
theorem gCb_221 : gChk xTf_12 gFb gLb prog_14_method_30_code [0, 1, 4, 5, 6, 7, 10, 11, 12, 15, 16, 19, 22, 23, 24, 25, 28, 29, 30, 33, 36, 37, 38, 39, 40, 41, 42, 45, 48, 49, 52, 53, 54, 57, 58, 59, 60, 63, 64, 65, 68, 69, 70, 72, 75, 76, 77, 80, 83, 84, 87, 88, 89, 91, 92, 95, 96, 97, 100, 101] = true := by decide +kernel
theorem gCb_222 : gChk xTf_12 gFb gLb prog_14_method_28_code [0, 1, 2, 3, 4, 5, 6, 7, 10, 13, 14, 17, 18, 19, 22, 23, 24] = true := by decide +kernel
theorem gCb_223 : gChk xTf_12 gFb gLb prog_14_method_29_code [0, 1, 2, 3, 6, 7, 8, 10, 12, 13, 16, 17, 20, 21, 22, 25, 28, 29, 32, 33, 34, 35, 36, 37] = true := by decide +kernel
theorem gCb_224 : gChk xTf_12 gFb gLb prog_14_method_31_code [0, 2, 3, 6, 7, 9, 10, 13, 14, 17, 18, 19, 20, 21, 22, 25, 26, 27, 30, 31, 32, 33, 35, 38, 39, 42, 43, 44, 45, 46, 47, 50, 53, 54, 55, 56, 57, 60, 63, 64, 67, 68, 69, 72, 73, 74, 75, 76, 77, 78, 79, 80, 83, 86, 87, 88, 91, 92, 95, 98, 99, 102, 103, 106, 107, 108, 109, 110, 111, 112] = true := by decide +kernel
theorem gCb_225 : gChk xTf_12 gFb gLb prog_14_method_32_code [0, 2, 3, 6, 7, 8, 11, 12, 15, 16, 17, 18, 19, 22, 23, 24, 27, 28, 31, 32, 33, 36, 37, 38, 39, 40, 41, 44, 47, 48, 51, 53, 54, 55, 56, 57, 58, 61, 62, 63, 64, 67, 70, 71, 74, 75, 76, 77, 79, 82, 83, 84, 87, 88, 89, 90, 92, 95, 96, 97, 98, 101, 102, 105, 108, 109, 112, 113, 116, 117, 118, 119, 120, 121, 122] = true := by decide +kernel
theorem gCb_226 : gChk xTf_12 gFb gLb prog_14_method_33_code [0, 1, 2, 5, 6, 9, 10, 11, 12, 13, 16, 19, 20, 22, 25, 28, 29, 30, 33, 34, 35, 38, 39, 42, 45, 46, 49, 50, 53, 54, 57, 58, 61, 62, 63, 64, 67, 68, 71, 72, 75, 76, 77, 80, 81, 83, 86, 87, 90, 91, 94, 95, 98, 99, 100, 103, 106, 107, 110, 111, 113, 116, 117, 120, 121, 123, 126, 129, 130, 133, 134, 137, 138, 139, 140, 143, 144, 145, 148, 149, 152, 155, 156, 157, 160, 161, 162, 165, 166, 167, 168, 169, 170, 171, 174, 175, 176, 179, 180, 181, 182, 183, 186, 187, 188] = true := by decide +kernel
theorem gCb_227 : gChk xTf_12 gFb gLb prog_14_method_34_code [0, 1, 4, 5, 8, 9, 12, 13, 14, 17, 20, 21, 24, 25, 28, 29, 32, 33, 36, 37, 38, 39, 42, 43, 44, 47, 48] = true := by decide +kernel
theorem gCb_228 : gChk xTf_12 gFb gLb prog_14_method_35_code [0, 1, 4, 5, 8, 9, 10, 11, 14, 15, 18, 19, 20, 21, 22, 25, 26, 27, 30, 31] = true := by decide +kernel
theorem gCb_229 : gChk xTf_12 gFb gLb prog_14_method_36_code [0, 1, 4, 7, 8, 11, 12, 15, 16, 17, 18, 19, 20, 22, 25, 26, 29, 30, 32, 35, 36, 38, 41, 42, 43, 44, 47, 48, 49, 52, 53, 54, 56, 59, 60, 63, 64, 66, 69, 70, 73, 74, 76, 79, 80, 83, 84, 85, 88, 91, 92] = true := by decide +kernel
theorem gCb_230 : gChk xTf_12 gFb gLb prog_14_method_37_code [0, 1, 2, 5, 6, 9, 10, 11, 12, 13, 16, 17, 20, 23, 24, 26, 29, 32, 33, 36, 38, 41, 42, 43, 46, 47, 48, 51, 52, 53, 56, 57, 60, 61, 64, 65, 68, 70, 71, 72, 73, 76, 77, 78, 81, 84, 85, 88, 89, 92, 95, 96, 97, 99, 102, 105, 106, 109, 110, 113, 114, 115, 118, 119, 120, 123, 124, 125, 128, 129, 130, 133, 134, 135, 138, 139, 142, 145, 146, 148, 151, 154, 155, 157, 160, 163, 164, 166, 169, 172, 173, 175, 178, 181, 182, 185, 186, 187, 188, 191, 192, 195, 196, 199, 200, 201, 204, 205, 206, 209, 210, 211, 212, 214, 217, 220, 221, 223, 226, 229, 230, 233, 234, 237, 238, 241, 242, 245, 246, 249, 250, 253, 254, 255, 256, 257, 260, 261, 262, 265, 266, 269, 272, 273] = true := by decide +kernel
theorem gCb_231 : gChk xTf_12 gFb gLb prog_14_method_38_code [0, 1, 2, 5, 8, 9, 10, 11, 14, 15, 18, 19, 22, 23, 26, 29, 30, 33, 36, 37, 40, 41, 44, 45, 47, 50, 51, 54, 55, 58, 59, 61, 64, 65, 66, 67, 70, 71, 74, 75, 77, 78, 81, 82, 85, 88, 89, 90, 93, 94] = true := by decide +kernel
theorem gHb : ∀ (mn : Nat) (q : xP), xMB mn = some q → gLb mn = true → gGd gFb gLb q := (xB_n (xB_n (xB_n (xB_n (xB_n (xB_n (xB_n (xB_l (fun _ => Or.inl ⟨_, _, xo_1, gCb_0⟩)) (xB_n (xB_l (fun h => absurd h (by decide +kernel))) (xB_l (fun h => absurd h (by decide +kernel))))) (xB_n (xB_n (xB_l (fun h => absurd h (by decide +kernel))) (xB_l (fun h => absurd h (by decide +kernel)))) (xB_n (xB_l (fun h => absurd h (by decide +kernel))) (xB_l (fun h => absurd h (by decide +kernel)))))) (xB_n (xB_n (xB_n (xB_l (fun h => absurd h (by decide +kernel))) (xB_l (fun h => absurd h (by decide +kernel)))) (xB_n (xB_l (fun h => absurd h (by decide +kernel))) (xB_l (fun h => absurd h (by decide +kernel))))) (xB_n (xB_n (xB_l (fun h => absurd h (by decide +kernel))) (xB_l (fun h => absurd h (by decide +kernel)))) (xB_n (xB_l (fun h => absurd h (by decide +kernel))) (xB_l (fun h => absurd h (by decide +kernel))))))) (xB_n (xB_n (xB_n (xB_l (fun h => absurd h (by decide +kernel))) (xB_n (xB_l (fun h => absurd h (by decide +kernel))) (xB_l (fun h => absurd h (by decide +kernel))))) (xB_n (xB_n (xB_l (fun h => absurd h (by decide +kernel))) (xB_l (fun h => absurd h (by decide +kernel)))) (xB_n (xB_l (fun h => absurd h (by decide +kernel))) (xB_l (fun h => absurd h (by decide +kernel)))))) (xB_n (xB_n (xB_n (xB_l (fun h => absurd h (by decide +kernel))) (xB_l (fun h => absurd h (by decide +kernel)))) (xB_n (xB_l (fun h => absurd h (by decide +kernel))) (xB_l (fun h => absurd h (by decide +kernel))))) (xB_n (xB_n (xB_l (fun h => absurd h (by decide +kernel))) (xB_l (fun h => absurd h (by decide +kernel)))) (xB_n (xB_l (fun h => absurd h (by decide +kernel))) (xB_l (fun h => absurd h (by decide +kernel)))))))) (xB_n (xB_n (xB_n (xB_n (xB_l (fun h => absurd h (by decide +kernel))) (xB_n (xB_l (fun h => absurd h (by decide +kernel))) (xB_l (fun h => absurd h (by decide +kernel))))) (xB_n (xB_n (xB_l (fun h => absurd h (by decide +kernel))) (xB_l (fun h => absurd h (by decide +kernel)))) (xB_n (xB_l (fun h => absurd h (by decide +kernel))) (xB_l (fun h => absurd h (by decide +kernel)))))) (xB_n (xB_n (xB_n (xB_l (fun h => absurd h (by decide +kernel))) (xB_l (fun h => absurd h (by decide +kernel)))) (xB_n (xB_l (fun h => absurd h (by decide +kernel))) (xB_l (fun h => absurd h (by decide +kernel))))) (xB_n (xB_n (xB_l (fun h => absurd h (by decide +kernel))) (xB_l (fun h => absurd h (by decide +kernel)))) (xB_n (xB_l (fun h => absurd h (by decide +kernel))) (xB_l (fun h => absurd h (by decide +kernel))))))) (xB_n (xB_n (xB_n (xB_n (xB_l (fun h => absurd h (by decide +kernel))) (xB_l (fun h => absurd h (by decide +kernel)))) (xB_n (xB_l (fun h => absurd h (by decide +kernel))) (xB_l (fun h => absurd h (by decide +kernel))))) (xB_n (xB_n (xB_l (fun _ => Or.inl ⟨_, _, xo_9, gCb_49⟩)) (xB_l (fun h => absurd h (by decide +kernel)))) (xB_n (xB_l (fun h => absurd h (by decide +kernel))) (xB_l (fun h => absurd h (by decide +kernel)))))) (xB_n (xB_n (xB_n (xB_l (fun h => absurd h (by decide +kernel))) (xB_l (fun h => absurd h (by decide +kernel)))) (xB_n (xB_l (fun h => absurd h (by decide +kernel))) (xB_l (fun h => absurd h (by decide +kernel))))) (xB_n (xB_n (xB_l (fun h => absurd h (by decide +kernel))) (xB_l (fun h => absurd h (by decide +kernel)))) (xB_n (xB_l (fun h => absurd h (by decide +kernel))) (xB_l (fun h => absurd h (by decide +kernel))))))))) (xB_n (xB_n (xB_n (xB_n (xB_n (xB_l (fun h => absurd h (by decide +kernel))) (xB_n (xB_l (fun h => absurd h (by decide +kernel))) (xB_l (fun h => absurd h (by decide +kernel))))) (xB_n (xB_n (xB_l (fun h => absurd h (by decide +kernel))) (xB_l (fun h => absurd h (by decide +kernel)))) (xB_n (xB_l (fun h => absurd h (by decide +kernel))) (xB_l (fun h => absurd h (by decide +kernel)))))) (xB_n (xB_n (xB_n (xB_l (fun h => absurd h (by decide +kernel))) (xB_l (fun h => absurd h (by decide +kernel)))) (xB_n (xB_l (fun h => absurd h (by decide +kernel))) (xB_l (fun h => absurd h (by decide +kernel))))) (xB_n (xB_n (xB_l (fun h => absurd h (by decide +kernel))) (xB_l (fun h => absurd h (by decide +kernel)))) (xB_n (xB_l (fun h => absurd h (by decide +kernel))) (xB_l (fun h => absurd h (by decide +kernel))))))) (xB_n (xB_n (xB_n (xB_l (fun h => absurd h (by decide +kernel))) (xB_n (xB_l (fun h => absurd h (by decide +kernel))) (xB_l (fun h => absurd h (by decide +kernel))))) (xB_n (xB_n (xB_l (fun h => absurd h (by decide +kernel))) (xB_l (fun h => absurd h (by decide +kernel)))) (xB_n (xB_l (fun h => absurd h (by decide +kernel))) (xB_l (fun h => absurd h (by decide +kernel)))))) (xB_n (xB_n (xB_n (xB_l (fun h => absurd h (by decide +kernel))) (xB_l (fun h => absurd h (by decide +kernel)))) (xB_n (xB_l (fun h => absurd h (by decide +kernel))) (xB_l (fun h => absurd h (by decide +kernel))))) (xB_n (xB_n (xB_l (fun h => absurd h (by decide +kernel))) (xB_l (fun h => absurd h (by decide +kernel)))) (xB_n (xB_l (fun h => absurd h (by decide +kernel))) (xB_l (fun h => absurd h (by decide +kernel)))))))) (xB_n (xB_n (xB_n (xB_n (xB_l (fun h => absurd h (by decide +kernel))) (xB_n (xB_l (fun h => absurd h (by decide +kernel))) (xB_l (fun h => absurd h (by decide +kernel))))) (xB_n (xB_n (xB_l (fun h => absurd h (by decide +kernel))) (xB_l (fun h => absurd h (by decide +kernel)))) (xB_n (xB_l (fun h => absurd h (by decide +kernel))) (xB_l (fun h => absurd h (by decide +kernel)))))) (xB_n (xB_n (xB_n (xB_l (fun h => absurd h (by decide +kernel))) (xB_l (fun h => absurd h (by decide +kernel)))) (xB_n (xB_l (fun h => absurd h (by decide +kernel))) (xB_l (fun h => absurd h (by decide +kernel))))) (xB_n (xB_n (xB_l (fun h => absurd h (by decide +kernel))) (xB_l (fun h => absurd h (by decide +kernel)))) (xB_n (xB_l (fun h => absurd h (by decide +kernel))) (xB_l (fun h => absurd h (by decide +kernel))))))) (xB_n (xB_n (xB_n (xB_n (xB_l (fun h => absurd h (by decide +kernel))) (xB_l (fun h => absurd h (by decide +kernel)))) (xB_n (xB_l (fun h => absurd h (by decide +kernel))) (xB_l (fun h => absurd h (by decide +kernel))))) (xB_n (xB_n (xB_l (fun h => absurd h (by decide +kernel))) (xB_l (fun h => absurd h (by decide +kernel)))) (xB_n (xB_l (fun h => absurd h (by decide +kernel))) (xB_l (fun h => absurd h (by decide +kernel)))))) (xB_n (xB_n (xB_n (xB_l (fun h => absurd h (by decide +kernel))) (xB_l (fun h => absurd h (by decide +kernel)))) (xB_n (xB_l (fun h => absurd h (by decide +kernel))) (xB_l (fun h => absurd h (by decide +kernel))))) (xB_n (xB_n (xB_l (fun h => absurd h (by decide +kernel))) (xB_l (fun h => absurd h (by decide +kernel)))) (xB_n (xB_l (fun h => absurd h (by decide +kernel))) (xB_l (fun _ => Or.inl ⟨_, _, xo_12, gCb_121⟩))))))))) (xB_n (xB_n (xB_n (xB_n (xB_n (xB_n (xB_l (fun h => absurd h (by decide +kernel))) (xB_n (xB_l (fun h => absurd h (by decide +kernel))) (xB_l (fun _ => Or.inl ⟨_, _, xo_12, gCb_124⟩)))) (xB_n (xB_n (xB_l (fun h => absurd h (by decide +kernel))) (xB_l (fun h => absurd h (by decide +kernel)))) (xB_n (xB_l (fun h => absurd h (by decide +kernel))) (xB_l (fun h => absurd h (by decide +kernel)))))) (xB_n (xB_n (xB_n (xB_l (fun h => absurd h (by decide +kernel))) (xB_l (fun h => absurd h (by decide +kernel)))) (xB_n (xB_l (fun h => absurd h (by decide +kernel))) (xB_l (fun h => absurd h (by decide +kernel))))) (xB_n (xB_n (xB_l (fun _ => Or.inl ⟨_, _, xo_12, gCb_133⟩)) (xB_l (fun h => absurd h (by decide +kernel)))) (xB_n (xB_l (fun h => absurd h (by decide +kernel))) (xB_l (fun h => absurd h (by decide +kernel))))))) (xB_n (xB_n (xB_n (xB_l (fun h => absurd h (by decide +kernel))) (xB_n (xB_l (fun h => absurd h (by decide +kernel))) (xB_l (fun h => absurd h (by decide +kernel))))) (xB_n (xB_n (xB_l (fun h => absurd h (by decide +kernel))) (xB_l (fun h => absurd h (by decide +kernel)))) (xB_n (xB_l (fun h => absurd h (by decide +kernel))) (xB_l (fun h => absurd h (by decide +kernel)))))) (xB_n (xB_n (xB_n (xB_l (fun _ => Or.inl ⟨_, _, xo_12, gCb_144⟩)) (xB_l (fun h => absurd h (by decide +kernel)))) (xB_n (xB_l (fun h => absurd h (by decide +kernel))) (xB_l (fun h => absurd h (by decide +kernel))))) (xB_n (xB_n (xB_l (fun h => absurd h (by decide +kernel))) (xB_l (fun _ => Or.inl ⟨_, _, xo_12, gCb_149⟩))) (xB_n (xB_l (fun h => absurd h (by decide +kernel))) (xB_l (fun h => absurd h (by decide +kernel)))))))) (xB_n (xB_n (xB_n (xB_n (xB_l (fun h => absurd h (by decide +kernel))) (xB_n (xB_l (fun h => absurd h (by decide +kernel))) (xB_l (fun h => absurd h (by decide +kernel))))) (xB_n (xB_n (xB_l (fun h => absurd h (by decide +kernel))) (xB_l (fun h => absurd h (by decide +kernel)))) (xB_n (xB_l (fun _ => Or.inl ⟨_, _, xo_12, gCb_157⟩)) (xB_l (fun h => absurd h (by decide +kernel)))))) (xB_n (xB_n (xB_n (xB_l (fun h => absurd h (by decide +kernel))) (xB_l (fun h => absurd h (by decide +kernel)))) (xB_n (xB_l (fun h => absurd h (by decide +kernel))) (xB_l (fun h => absurd h (by decide +kernel))))) (xB_n (xB_n (xB_l (fun h => absurd h (by decide +kernel))) (xB_l (fun h => absurd h (by decide +kernel)))) (xB_n (xB_l (fun h => absurd h (by decide +kernel))) (xB_l (fun h => absurd h (by decide +kernel))))))) (xB_n (xB_n (xB_n (xB_n (xB_l (fun h => absurd h (by decide +kernel))) (xB_l (fun h => absurd h (by decide +kernel)))) (xB_n (xB_l (fun _ => Or.inl ⟨_, _, xo_12, gCb_169⟩)) (xB_l (fun _ => Or.inl ⟨_, _, xo_12, gCb_170⟩)))) (xB_n (xB_n (xB_l (fun h => absurd h (by decide +kernel))) (xB_l (fun h => absurd h (by decide +kernel)))) (xB_n (xB_l (fun h => absurd h (by decide +kernel))) (xB_l (fun h => absurd h (by decide +kernel)))))) (xB_n (xB_n (xB_n (xB_l (fun h => absurd h (by decide +kernel))) (xB_l (fun h => absurd h (by decide +kernel)))) (xB_n (xB_l (fun h => absurd h (by decide +kernel))) (xB_l (fun h => absurd h (by decide +kernel))))) (xB_n (xB_n (xB_l (fun h => absurd h (by decide +kernel))) (xB_l (fun _ => Or.inl ⟨_, _, xo_12, gCb_180⟩))) (xB_n (xB_l (fun h => absurd h (by decide +kernel))) (xB_l (fun h => absurd h (by decide +kernel))))))))) (xB_n (xB_n (xB_n (xB_n (xB_n (xB_l (fun _ => Or.inl ⟨_, _, xo_12, gCb_183⟩)) (xB_n (xB_l (fun h => absurd h (by decide +kernel))) (xB_l (fun h => absurd h (by decide +kernel))))) (xB_n (xB_n (xB_l (fun h => absurd h (by decide +kernel))) (xB_l (fun h => absurd h (by decide +kernel)))) (xB_n (xB_l (fun h => absurd h (by decide +kernel))) (xB_l (fun h => absurd h (by decide +kernel)))))) (xB_n (xB_n (xB_n (xB_l (fun h => absurd h (by decide +kernel))) (xB_l (fun h => absurd h (by decide +kernel)))) (xB_n (xB_l (fun _ => Or.inl ⟨_, _, xo_12, gCb_192⟩)) (xB_l (fun h => absurd h (by decide +kernel))))) (xB_n (xB_n (xB_l (fun h => absurd h (by decide +kernel))) (xB_l (fun h => absurd h (by decide +kernel)))) (xB_n (xB_l (fun h => absurd h (by decide +kernel))) (xB_l (fun h => absurd h (by decide +kernel))))))) (xB_n (xB_n (xB_n (xB_l (fun h => absurd h (by decide +kernel))) (xB_n (xB_l (fun h => absurd h (by decide +kernel))) (xB_l (fun h => absurd h (by decide +kernel))))) (xB_n (xB_n (xB_l (fun h => absurd h (by decide +kernel))) (xB_l (fun h => absurd h (by decide +kernel)))) (xB_n (xB_l (fun h => absurd h (by decide +kernel))) (xB_l (fun _ => Or.inl ⟨_, _, xo_12, gCb_204⟩))))) (xB_n (xB_n (xB_n (xB_l (fun h => absurd h (by decide +kernel))) (xB_l (fun h => absurd h (by decide +kernel)))) (xB_n (xB_l (fun h => absurd h (by decide +kernel))) (xB_l (fun h => absurd h (by decide +kernel))))) (xB_n (xB_n (xB_l (fun h => absurd h (by decide +kernel))) (xB_l (fun h => absurd h (by decide +kernel)))) (xB_n (xB_l (fun _ => Or.inl ⟨_, _, xo_12, gCb_211⟩)) (xB_l (fun _ => Or.inl ⟨_, _, xo_12, gCb_212⟩))))))) (xB_n (xB_n (xB_n (xB_n (xB_l (fun _ => Or.inl ⟨_, _, xo_12, gCb_213⟩)) (xB_n (xB_l (fun _ => Or.inl ⟨_, _, xo_12, gCb_214⟩)) (xB_l (fun _ => Or.inl ⟨_, _, xo_12, gCb_215⟩)))) (xB_n (xB_n (xB_l (fun _ => Or.inl ⟨_, _, xo_12, gCb_216⟩)) (xB_l (fun _ => Or.inl ⟨_, _, xo_12, gCb_217⟩))) (xB_n (xB_l (fun _ => Or.inl ⟨_, _, xo_12, gCb_218⟩)) (xB_l (fun _ => Or.inl ⟨_, _, xo_12, gCb_219⟩))))) (xB_n (xB_n (xB_n (xB_l (fun _ => Or.inl ⟨_, _, xo_12, gCb_220⟩)) (xB_l (fun _ => Or.inl ⟨_, _, xo_12, gCb_221⟩))) (xB_n (xB_l (fun _ => Or.inl ⟨_, _, xo_12, gCb_222⟩)) (xB_l (fun _ => Or.inl ⟨_, _, xo_12, gCb_223⟩)))) (xB_n (xB_n (xB_l (fun _ => Or.inl ⟨_, _, xo_12, gCb_224⟩)) (xB_l (fun _ => Or.inl ⟨_, _, xo_12, gCb_225⟩))) (xB_n (xB_l (fun _ => Or.inl ⟨_, _, xo_12, gCb_226⟩)) (xB_l (fun _ => Or.inl ⟨_, _, xo_12, gCb_227⟩)))))) (xB_n (xB_n (xB_n (xB_n (xB_l (fun _ => Or.inl ⟨_, _, xo_12, gCb_228⟩)) (xB_l (fun _ => Or.inl ⟨_, _, xo_12, gCb_229⟩))) (xB_n (xB_l (fun _ => Or.inl ⟨_, _, xo_12, gCb_230⟩)) (xB_l (fun _ => Or.inl ⟨_, _, xo_12, gCb_231⟩)))) (xB_n (xB_n (xB_l (fun h => absurd h (by decide +kernel))) (xB_l (fun h => absurd h (by decide +kernel)))) (xB_n (xB_l (fun h => absurd h (by decide +kernel))) (xB_l (fun h => absurd h (by decide +kernel)))))) (xB_n (xB_n (xB_n (xB_l (fun h => absurd h (by decide +kernel))) (xB_l (fun h => absurd h (by decide +kernel)))) (xB_n (xB_l (fun h => absurd h (by decide +kernel))) (xB_l (fun h => absurd h (by decide +kernel))))) (xB_n (xB_n (xB_l (fun h => absurd h (by decide +kernel))) (xB_l (fun h => absurd h (by decide +kernel)))) (xB_n (xB_l (fun h => absurd h (by decide +kernel))) (xB_l (fun h => absurd h (by decide +kernel)))))))))))
theorem gRb {mn : Nat} {q : xP} (hm : xMB mn = some q) (hl : gLb mn = true) {as : List zV} {r : Option zV} {μ μ' : xM} (h : Ex gx q as μ r μ') : gRm gFb μ μ' := gAll gPFb (fun mn q h1 h2 => gHb mn q h2 h1) (gHb mn q hm hl) h
