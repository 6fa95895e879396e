/-! ===== bits; a verse laid and lifted ===== -/
def xb (x : Int32) (v : Nat) : Bool := x.toBitVec.getLsbD v
theorem xb_1 (y : Int32) : (y &&& (1 : Int32)).toInt = if xb y 0 then 1 else 0 := by
  have e : (y &&& (1 : Int32)).toBitVec = BitVec.setWidth 32 (BitVec.ofBool (y.toBitVec.getLsbD 0)) := by
    rw [Int32.toBitVec_and]
    exact BitVec.and_one_eq_setWidth_ofBool_getLsbD
  show (y &&& (1 : Int32)).toBitVec.toInt = _
  rw [e]
  unfold xb
  cases y.toBitVec.getLsbD 0 <;> rfl
theorem xb_sh {x : Int32} {v : Nat} (h : v < 7) : xb (x >>> (Int32.ofNat v &&& 31)) 0 = xb x v := by
  have e : ∀ v, v < 7 → ((Int32.ofNat v &&& 31).toBitVec.smod 32#32).toNat = v := by decide
  unfold xb
  rw [Int32.toBitVec_shiftRight]
  show (x.toBitVec.sshiftRight ((Int32.ofNat v &&& 31).toBitVec.smod 32#32).toNat).getLsbD 0 = _
  rw [e v h, BitVec.getLsbD_sshiftRight]
  simp [show v < 32 by omega]
theorem xb_t {x : Int32} {v : Nat} (h : v < 7) : ((x >>> (Int32.ofNat v &&& 31)) &&& (1 : Int32)).toInt = if xb x v then 1 else 0 := by rw [xb_1, xb_sh h]
theorem bt9_xb {x : Int32} {v : Nat} (h : v < 7) : bt9 x v ↔ xb x v = true := by
  unfold bt9
  rw [xb_t h]
  cases xb x v <;> decide
theorem xb_or {a b : Int32} {v : Nat} : xb (a ||| b) v = (xb a v || xb b v) := by unfold xb; rw [Int32.toBitVec_or, BitVec.getLsbD_or]
theorem xb_and {a b : Int32} {v : Nat} : xb (a &&& b) v = (xb a v && xb b v) := by unfold xb; rw [Int32.toBitVec_and, BitVec.getLsbD_and]
theorem xb_xor {a b : Int32} {v : Nat} : xb (a ^^^ b) v = (xb a v).xor (xb b v) := by unfold xb; rw [Int32.toBitVec_xor, BitVec.getLsbD_xor]
theorem xb_m {v : Nat} (h : v < 7) : xb (-1 : Int32) v = true := (by decide : ∀ v, v < 7 → xb (-1 : Int32) v = true) v h
theorem xb_bit {v w : Nat} (hv : v < 7) (hw : w < 7) : xb ((1 : Int32) <<< (Int32.ofNat v &&& 31)) w = decide (w = v) := (by decide : ∀ v, v < 7 → ∀ w, w < 7 → xb ((1 : Int32) <<< (Int32.ofNat v &&& 31)) w = decide (w = v)) v hv w hw
theorem xb_low {V w : Nat} (hV : V < 8) (hw : w < 7) : xb (((1 : Int32) <<< (Int32.ofNat V &&& 31)) - 1) w = decide (w < V) := (by decide : ∀ V, V < 8 → ∀ w, w < 7 → xb (((1 : Int32) <<< (Int32.ofNat V &&& 31)) - 1) w = decide (w < V)) V hV w hw
theorem xb_not {a : Int32} {w : Nat} (hw : w < 7) : xb (a ^^^ (-1 : Int32)) w = !xb a w := by
  rw [xb_xor, xb_m hw]
  cases xb a w <;> rfl
theorem xb_set {a : Int32} {v w : Nat} (hv : v < 7) (hw : w < 7) : xb (a ||| ((1 : Int32) <<< (Int32.ofNat v &&& 31))) w = (xb a w || decide (w = v)) := by rw [xb_or, xb_bit hv hw]
theorem xb_clr {a : Int32} {v w : Nat} (hv : v < 7) (hw : w < 7) : xb (a &&& (((1 : Int32) <<< (Int32.ofNat v &&& 31)) ^^^ (-1 : Int32))) w = (xb a w && !decide (w = v)) := by rw [xb_and, xb_not hw, xb_bit hv hw]
/-- a row behind k letters of a verse that is laid down by g -/
def pLy (S : kSt) (v : Nat) (g : Nat → Int32) : Nat → (Nat → Int32) → (Nat → Int32)
  | 0, ρ => ρ
  | k + 1, ρ => pUp (pUp (pLy S v g k ρ) (330 + 8 * v + k) (g k)) (40 + (8 * (g k).toInt.toNat + wl S v k)) (pLy S v g k ρ (40 + (8 * (g k).toInt.toNat + wl S v k)) + 1)
theorem pLy_cg {S : kSt} {v : Nat} {g g' : Nat → Int32} {ρ : Nat → Int32} : ∀ n, (∀ k, k < n → g k = g' k) → pLy S v g n ρ = pLy S v g' n ρ
  | 0, _ => rfl
  | n + 1, h => by
    show pUp (pUp (pLy S v g n ρ) _ _) _ _ = pUp (pUp (pLy S v g' n ρ) _ _) _ _
    rw [pLy_cg n (fun k hk => h k (by omega)), h n (Nat.lt_succ_self n)]
theorem pLy_of {S : kSt} (hW : kWf S) {v : Nat} {ρ : Nat → Int32} : ∀ n, n ≤ (kV S v).1.length → ∀ ρ', pSt S v n ρ = some ρ' → ρ' = pLy S v (fun i => ρ' (330 + 8 * v + i)) n ρ ∧ ∀ i, i < n → 0 ≤ (ρ' (330 + 8 * v + i)).toInt ∧ (ρ' (330 + 8 * v + i)).toInt ≤ 4
  | 0, _, ρ', h => ⟨(Option.some.inj h).symm, fun i hi => absurd hi (Nat.not_lt_zero i)⟩
  | n + 1, hn, ρ', h => by
    have h : (pSt S v n ρ).bind _ = some ρ' := h
    obtain ⟨ρ1, e1, h⟩ := Option.bind_eq_some_iff.mp h
    obtain ⟨e2, e3⟩ := pLy_of hW n (by omega) ρ1 e1
    have hb := pGi_b hW (ρ := ρ1) (l := wl S v n) (v := v)
    have hw := (wl_b hW (v := v) (k := n) (by omega)).2
    by_cases hn0 : pGi S ρ1 (wl S v n) v < 0
    · rw [if_pos hn0] at h; cases h
    · rw [if_neg hn0] at h
      have h := (Option.some.inj h).symm
      have et : (Int32.ofInt (pGi S ρ1 (wl S v n) v)).toInt = pGi S ρ1 (wl S v n) v := Int32.toInt_ofInt_of_le (by show (-2147483648 : Int) ≤ _; omega) (by show _ < (2147483648 : Int); omega)
      have ea : ρ' (330 + 8 * v + n) = Int32.ofInt (pGi S ρ1 (wl S v n) v) := by rw [h, pUp_ne (by omega), pUp_at]
      have eo : ∀ i, i < n → ρ' (330 + 8 * v + i) = ρ1 (330 + 8 * v + i) := fun i hi => by rw [h, pUp_ne (by omega), pUp_ne (by omega)]
      refine ⟨?_, fun i hi => ?_⟩
      · show ρ' = pUp (pUp (pLy S v (fun i => ρ' (330 + 8 * v + i)) n ρ) (330 + 8 * v + n) (ρ' (330 + 8 * v + n))) (40 + (8 * (ρ' (330 + 8 * v + n)).toInt.toNat + wl S v n)) (pLy S v (fun i => ρ' (330 + 8 * v + i)) n ρ (40 + (8 * (ρ' (330 + 8 * v + n)).toInt.toNat + wl S v n)) + 1)
        rw [pLy_cg (g' := fun i => ρ1 (330 + 8 * v + i)) n eo, ← e2, ea, et]
        exact h
      · by_cases e : i = n
        · rw [e, ea, et]; omega
        · rw [eo i (by omega)]; exact e3 i (by omega)
theorem twA_u {c : Nat} {ρ : Nat → Int32} {μ : xM} {j : Nat} {x : Int32} (h : twA c ρ μ) (hj : j < 40) : twA c (pUp ρ (40 + j) x) (xpi μ (c + 2) j x) := by
  obtain ⟨a, b, d1, d2, d3⟩ := h
  refine ⟨fun i hi => ?_, fun i hi => ?_, ?_, ?_, ?_⟩
  · refine ⟨?_, ?_, ?_⟩
    · rw [xpi_ne (fun q => by omega), pUp_ne (by omega)]; exact (a i hi).1
    · by_cases e : i = j
      · rw [e, xpi_at, pUp_at]
      · rw [xpi_ne (fun q => e q.2), pUp_ne (by omega)]; exact (a i hi).2.1
    · rw [xpi_ne (fun q => by omega), pUp_ne (by omega)]; exact (a i hi).2.2
  · rw [xpi_ne (fun q => by omega), pUp_ne (by omega)]; exact b i hi
  · rw [xpi_ne (fun q => by omega), pUp_ne (by omega)]; exact d1
  · rw [xpi_ne (fun q => by omega), pUp_ne (by omega)]; exact d2
  · rw [xpi_ne (fun q => by omega), pUp_ne (by omega)]; exact d3
theorem twA_r {c : Nat} {ρ ρ' : Nat → Int32} {μ : xM} (h : twA c ρ μ) (e : ∀ j, j < 320 ∨ 386 ≤ j → ρ' j = ρ j) : twA c ρ' μ := by
  obtain ⟨a, b, d1, d2, d3⟩ := h
  refine ⟨fun i hi => ?_, fun i hi => ?_, ?_, ?_, ?_⟩
  · rw [e i (by omega), e (40 + i) (by omega), e (80 + i) (by omega)]; exact a i hi
  · rw [e (120 + i) (by omega)]; exact b i hi
  · rw [e 386 (by omega)]; exact d1
  · rw [e 387 (by omega)]; exact d2
  · rw [e 388 (by omega)]; exact d3
theorem twA_m {c : Nat} {ρ : Nat → Int32} {μ : xM} {k j : Nat} {x : Int32} (h : twA c ρ μ) (hk : k = c + 5 ∨ (k = c ∧ j < 7)) : twA c ρ (xpi μ k j x) := by
  obtain ⟨a, b, d1, d2, d3⟩ := h
  refine ⟨fun i hi => ?_, fun i hi => ?_, ?_, ?_, ?_⟩
  · rw [xpi_ne (fun q => by omega), xpi_ne (fun q => by omega), xpi_ne (fun q => by omega)]; exact a i hi
  · rw [xpi_ne (fun q => by omega)]; exact b i hi
  · rw [xpi_ne (fun q => by omega)]; exact d1
  · rw [xpi_ne (fun q => by omega)]; exact d2
  · rw [xpi_ne (fun q => by omega)]; exact d3
/-- what laying and lifting a verse may change -/
def gTy (μ μ' : xM) : Prop := (∀ k j, k ≠ 30 → k ≠ 33 → ¬ (k = 28 ∧ j = 5) → μ'.1 k j = μ.1 k j) ∧ μ'.2 = μ.2
theorem gTy_rf {μ : xM} : gTy μ μ := ⟨fun _ _ _ _ _ => rfl, rfl⟩
theorem gTy_i {μ ν : xM} {k j : Nat} {v : Int32} (h : gTy μ ν) (hk : k = 30 ∨ k = 33 ∨ (k = 28 ∧ j = 5)) : gTy μ (xpi ν k j v) := ⟨fun c i a b d => (xpi_ne (fun q => by omega)).trans (h.1 c i a b d), h.2⟩
theorem cS9_T {S : kSt} {μ ν : xM} (h : cS9 S μ) (e : gTy μ ν) : cS9 S ν := cS9_cg h (fun k j a b => e.1 k j (by omega) (by omega) (by omega))
abbrev xq_58 : xP := (⟨"CapitalCase$Town", "open", "(I)I"⟩, prog_10_method_7_code, 2, (some .int))
abbrev xq_90 : xP := (⟨"CapitalCase", "isOpen", "(I)Z"⟩, prog_1_method_11_code, 2, (some .boolean))
abbrev xq_52 : xP := (⟨"CapitalCase$Town", "lay", "(LCapitalCase$Script;I[I)V"⟩, prog_10_method_8_code, 6, none)
abbrev xq_55 : xP := (⟨"CapitalCase$Town", "lift", "(LCapitalCase$Script;I)V"⟩, prog_10_method_9_code, 5, none)
set_option maxRecDepth 10000 in
set_option maxHeartbeats 4000000 in
theorem ex_copen {V : Int32} {Vn : Nat} {μ μ' : xM} {r : Option zV} (h0 : Ex gx xq_58 [.inr (.inl (some 28)), .inl V] μ r μ') (hV : V.toInt = (Vn : Int)) (hV7 : Vn ≤ 7) : μ' = μ ∧ ∃ x : Int32, r = some (.inl x) ∧ ∀ w, w < 7 → xb x w = (decide (w < Vn) && !(xb (μ.1 28 5) w || xb (μ.1 28 6) w)) := by
  obtain ⟨n, h⟩ := tx_in (L := [some (.inr (.inl (some 28))), some (.inl V)]) h0 rfl
  replace h := tx_iconst (v := 1) (p' := 1) h em58_0 (by decide +kernel) rfl
  replace h := tx_iload_n (p' := 2) h em58_1 rfl rfl
  replace h := tx_ishl (p' := 3) h em58_2 rfl
  replace h := tx_iconst (v := 1) (p' := 4) h em58_3 (by decide +kernel) rfl
  replace h := tx_isub (p' := 5) h em58_4 rfl
  replace h := tx_aload_n (p' := 6) h em58_5 rfl rfl
  replace h := tx_getf (c := 8) (j := 5) (p' := 9) h em58_6 ((congrFun xo_9 44).trans rfl) rfl rfl (by decide) rfl
  replace h := tx_aload_n (p' := 10) h em58_9 rfl rfl
  replace h := tx_getf (c := 8) (j := 6) (p' := 13) h em58_10 ((congrFun xo_9 48).trans rfl) rfl rfl (by decide) rfl
  replace h := tx_ior (p' := 14) h em58_13 rfl
  replace h := tx_iconst (v := (-1)) (p' := 15) h em58_14 (by decide +kernel) rfl
  replace h := tx_ixor (p' := 16) h em58_15 rfl
  replace h := tx_iand (p' := 17) h em58_16 rfl
  obtain ⟨rfl, hμ⟩ := tx_ireturn h em58_17
  have bV : V = Int32.ofNat Vn := ofN hV
  refine ⟨hμ, _, rfl, fun w hw => ?_⟩
  rw [bV, xb_and, xb_not hw, xb_low (by omega) hw, xb_or]
set_option maxRecDepth 10000 in
set_option maxHeartbeats 4000000 in
theorem ex_cisOpen {v : Int32} {vn : Nat} {S : kSt} {μ μ' : xM} {r : Option zV} (h0 : Ex gx xq_90 [.inr (.inl (some 0)), .inl v] μ r μ') (hS : cS9 S μ) (hv : v.toInt = (vn : Int)) (hvn : vn < S.2.1.length) : μ' = μ ∧ ((r = some (.inl 1) ∧ (xb (μ.1 28 5) vn || xb (μ.1 28 6) vn) = false) ∨ (r = some (.inl 0) ∧ (xb (μ.1 28 5) vn || xb (μ.1 28 6) vn) = true)) := by
  obtain ⟨n, h⟩ := tx_in (L := [some (.inr (.inl (some 0))), some (.inl v)]) h0 rfl
  have hV7 := hS.1.2.1
  replace h := tx_aload_n (p' := 1) h em90_0 rfl rfl
  replace h := tx_getc (c := 11) (j := 1) (p' := 4) h em90_1 ((congrFun xo_0 39).trans rfl) rfl rfl rfl
  replace h := tx_aload_n (p' := 5) h em90_4 rfl rfl
  replace h := tx_getc (c := 11) (j := 0) (p' := 8) h em90_5 ((congrFun xo_0 23).trans rfl) rfl rfl rfl
  replace h := tx_getf (c := 6) (j := 1) (p' := 11) h em90_8 ((congrFun xo_0 141).trans rfl) rfl rfl (by decide) rfl
  obtain ⟨r11, μ11, hE11, h⟩ := tx_invV (na := 2) (mn := 58) (as := [.inr (.inl (some 28)), .inl (μ.1 2 1)]) (rest := []) (p' := 14) h em90_11 ((congrFun xo_0 144).trans rfl) xm_58 rfl rfl
  obtain ⟨hm, xo, rfl, hx⟩ := ex_copen (Vn := S.2.1.length) hE11 hS.2.2.1.1.2.1 hV7
  rw [hm] at h
  replace h : eT xq_90 _ 14 [some (.inr (.inl (some 0))), some (.inl v)] [.inl xo] μ r μ' := h
  replace h := tx_iload_n (p' := 15) h em90_14 rfl rfl
  replace h := tx_ishr (p' := 16) h em90_15 rfl
  replace h := tx_iconst (v := 1) (p' := 17) h em90_16 (by decide +kernel) rfl
  replace h := tx_iand (p' := 18) h em90_17 rfl
  replace h := tx_iconst (v := 1) (p' := 19) h em90_18 (by decide +kernel) rfl
  rcases tx_icmp (t := 26) (p' := 22) h em90_19 (by decide) rfl with ⟨c19, h⟩ | ⟨c19, h⟩
  · replace c19 : ¬ ((xo >>> (v &&& 31)) &&& (1 : Int32)).toInt = 1 := c19
    replace h := tx_iconst (v := 0) (p' := 27) h em90_26 (by decide +kernel) rfl
    obtain ⟨rfl, hμ⟩ := tx_ireturn h em90_27
    have bv : v = Int32.ofNat vn := ofN hv
    rw [bv, xb_t (show vn < 7 by omega), hx vn (by omega), decide_eq_true hvn] at c19
    refine ⟨hμ, Or.inr ⟨rfl, ?_⟩⟩
    revert c19
    cases xb (μ.1 28 5) vn <;> cases xb (μ.1 28 6) vn <;> decide
  · replace c19 : ¬ ¬ ((xo >>> (v &&& 31)) &&& (1 : Int32)).toInt = 1 := c19
    replace h := tx_iconst (v := 1) (p' := 23) h em90_22 (by decide +kernel) rfl
    replace h := tx_goto (t := 27) h em90_23 (by decide)
    obtain ⟨rfl, hμ⟩ := tx_ireturn h em90_27
    have bv : v = Int32.ofNat vn := ofN hv
    rw [bv, xb_t (show vn < 7 by omega), hx vn (by omega), decide_eq_true hvn] at c19
    refine ⟨hμ, Or.inl ⟨rfl, ?_⟩⟩
    revert c19
    cases xb (μ.1 28 5) vn <;> cases xb (μ.1 28 6) vn <;> decide
set_option maxRecDepth 10000 in
set_option maxHeartbeats 4000000 in
theorem ex_clay {v : Int32} {vn : Nat} {S : kSt} {ρ : Nat → Int32} {μ μ' : xM} {r : Option zV} (h0 : Ex gx xq_52 [.inr (.inl (some 28)), .inr (.inl (some 2)), .inl v, .inr (.inl (some 54))] μ r μ') (hO : hOK μ) (hS : cS9 S μ) (hT0 : twA 28 ρ μ) (hv : v.toInt = (vn : Int)) (hvn : vn < S.2.1.length) (hg : ∀ i, i < (kV S vn).1.length → 0 ≤ (μ.1 54 (8 * vn + i)).toInt ∧ (μ.1 54 (8 * vn + i)).toInt ≤ 4) : r = none ∧ gTy μ μ' ∧ twA 28 (pLy S vn (fun i => μ.1 54 (8 * vn + i)) (kV S vn).1.length ρ) μ' ∧ (∀ j, μ'.1 33 j = if 8 * vn ≤ j ∧ j < 8 * vn + (kV S vn).1.length then μ.1 54 j else μ.1 33 j) ∧ μ'.1 28 5 = μ.1 28 5 ||| ((1 : Int32) <<< (v &&& 31)) := by
  obtain ⟨n, h⟩ := tx_in (L := [some (.inr (.inl (some 28))), some (.inr (.inl (some 2))), some (.inl v), some (.inr (.inl (some 54))), none, none]) h0 rfl
  have loop : ∀ (n k : Nat) (i : Int32) (ω : xM) {o5 : Option zV}, eT xq_52 n 3 [some (.inr (.inl (some 28))), some (.inr (.inl (some 2))), some (.inl v), some (.inr (.inl (some 54))), some (.inl i), o5] [] ω r μ' → i.toInt = (k : Int) → k ≤ (kV S vn).1.length → gTy μ ω → twA 28 (pLy S vn (fun i => μ.1 54 (8 * vn + i)) k ρ) ω → (∀ j, ω.1 33 j = if 8 * vn ≤ j ∧ j < 8 * vn + k then μ.1 54 j else μ.1 33 j) → ω.1 28 5 = μ.1 28 5 → r = none ∧ gTy μ μ' ∧ twA 28 (pLy S vn (fun i => μ.1 54 (8 * vn + i)) (kV S vn).1.length ρ) μ' ∧ (∀ j, μ'.1 33 j = if 8 * vn ≤ j ∧ j < 8 * vn + (kV S vn).1.length then μ.1 54 j else μ.1 33 j) ∧ μ'.1 28 5 = μ.1 28 5 ||| ((1 : Int32) <<< (v &&& 31)) := by
    intro n
    induction n using Nat.strongRecOn with
    | ind n ih =>
    intro k i ω o5 h hi hk hG hT hF h5
    have e1i : (1 : Int32).toInt = 1 := by decide
    have e8i : (8 : Int32).toInt = 8 := by decide
    have hV7 := hS.1.2.1
    have hOω := hOK_2 hG.2 hO
    have hSω := cS9_T hS hG
    have hwl9 := (kWf_V hS.1 vn).1
    have hvt : v.toInt.toNat = vn := by omega
    have hlen : (ω.1 6 v.toInt.toNat).toInt = ((kV S vn).1.length : Int) := by
      rw [hvt]; exact (hSω.2.2.1.2.2.1 vn hvn).2.2.1
    have u1 : (v * (8 : Int32)).toInt = 8 * (vn : Int) := by rw [an_mul (by rw [e8i]; omega) (by rw [e8i]; omega), e8i, hv]; omega
    have u2 : ((v * (8 : Int32)) + i).toInt = 8 * (vn : Int) + k := by rw [an_add (by rw [u1]; omega) (by rw [u1]; omega), u1, hi]
    have u3 : ((v * (8 : Int32)) + i).toInt.toNat = 8 * vn + k := by omega
    have ei : (i + 1).toInt = ((k + 1 : Nat) : Int) := by rw [an_add (by rw [e1i]; omega) (by rw [e1i]; omega), e1i]; omega
    replace h := tx_iload (p' := 5) h em52_3 rfl rfl
    replace h := tx_aload_n (p' := 6) h em52_5 rfl rfl
    replace h := tx_getc (c := 6) (j := 8) (p' := 9) h em52_6 ((congrFun xo_9 66).trans rfl) rfl rfl rfl
    replace h := tx_iload_n (p' := 10) h em52_9 rfl rfl
    obtain ⟨hb10, h⟩ := tx_iald (len := 7) (p' := 11) h em52_10 rfl rfl
    replace hb10 : (0 : Int) ≤ v.toInt ∧ v.toInt < 7 := hb10
    rcases tx_icmp (t := 64) (p' := 14) h em52_11 (by decide) rfl with ⟨c11, h⟩ | ⟨c11, h⟩
    · replace c11 : (ω.1 6 v.toInt.toNat).toInt ≤ i.toInt := c11
      replace h := tx_aload_n (p' := 65) h em52_64 rfl rfl
      replace h := tx_dup (p' := 66) h em52_65 rfl
      replace h := tx_getf (c := 8) (j := 5) (p' := 69) h em52_66 ((congrFun xo_9 44).trans rfl) rfl rfl (by decide) rfl
      replace h := tx_iconst (v := 1) (p' := 70) h em52_69 (by decide +kernel) rfl
      replace h := tx_iload_n (p' := 71) h em52_70 rfl rfl
      replace h := tx_ishl (p' := 72) h em52_71 rfl
      replace h := tx_ior (p' := 73) h em52_72 rfl
      replace h := tx_putf (a := 28) (c := 8) (j := 5) (p' := 76) h em52_73 ((congrFun xo_9 44).trans rfl) rfl
      obtain ⟨rfl, hμ⟩ := tx_return h em52_76
      replace hμ : μ' = (xpi ω 28 5 ((ω.1 28 5) ||| ((1 : Int32) <<< (v &&& 31)))) := hμ
      rw [hμ]
      have ek : k = (kV S vn).1.length := by omega
      rw [ek] at hT hF
      refine ⟨rfl, gTy_i hG (Or.inr (Or.inr ⟨rfl, rfl⟩)), twA_m hT (Or.inr ⟨rfl, by decide⟩), fun j => ?_, ?_⟩
      · rw [xpi_ne (fun q => absurd q.1 (by decide))]; exact hF j
      · rw [xpi_at, h5]
    · replace c11 : ¬ (ω.1 6 v.toInt.toNat).toInt ≤ i.toInt := c11
      replace h := tx_iload_n (p' := 15) h em52_14 rfl rfl
      replace h := tx_bipush (v := 8) (p' := 17) h em52_15 (by decide +kernel) rfl
      replace h := tx_imul (p' := 18) h em52_17 rfl
      replace h := tx_iload (p' := 20) h em52_18 rfl rfl
      replace h := tx_iadd (p' := 21) h em52_20 rfl
      replace h := tx_istore (p' := 23) h em52_21 rfl
      replace h : eT xq_52 _ 23 [some (.inr (.inl (some 28))), some (.inr (.inl (some 2))), some (.inl v), some (.inr (.inl (some 54))), some (.inl i), some (.inl ((v * (8 : Int32)) + i))] [] ω r μ' := h
      replace h := tx_aload_n (p' := 24) h em52_23 rfl rfl
      obtain ⟨b24, hk_b24, hr_b24, h⟩ := tx_getk (c := 8) (j := 4) (p' := 27) h em52_24 ((congrFun xo_9 24).trans rfl) rfl rfl rfl
      have eb24 : b24 = 33 := Option.some.inj (hr_b24.symm.trans ((hOω).2 28 (by decide) 4 (by decide)))
      subst eb24
      replace h := tx_iload (p' := 29) h em52_27 rfl rfl
      replace h := tx_aload_n (p' := 30) h em52_29 rfl rfl
      replace h := tx_iload (p' := 32) h em52_30 rfl rfl
      obtain ⟨hb32, h⟩ := tx_iald (len := 56) (p' := 33) h em52_32 rfl rfl
      replace hb32 : (0 : Int) ≤ ((v * (8 : Int32)) + i).toInt ∧ ((v * (8 : Int32)) + i).toInt < 56 := hb32
      obtain ⟨hb33, h⟩ := tx_iast (len := 56) (p' := 34) h em52_33 rfl rfl
      replace hb33 : (0 : Int) ≤ ((v * (8 : Int32)) + i).toInt ∧ ((v * (8 : Int32)) + i).toInt < 56 := hb33
      replace h := tx_aload_n (p' := 35) h em52_34 rfl rfl
      obtain ⟨b35, hk_b35, hr_b35, h⟩ := tx_getk (c := 8) (j := 1) (p' := 38) h em52_35 ((congrFun xo_9 15).trans rfl) rfl rfl rfl
      have eb35 : b35 = 30 := Option.some.inj (hr_b35.symm.trans ((hOω).2 28 (by decide) 1 (by decide)))
      subst eb35
      replace h := tx_aload_n (p' := 39) h em52_38 rfl rfl
      replace h := tx_iload (p' := 41) h em52_39 rfl rfl
      obtain ⟨hb41, h⟩ := tx_iald (len := 56) (p' := 42) h em52_41 rfl rfl
      replace hb41 : (0 : Int) ≤ ((v * (8 : Int32)) + i).toInt ∧ ((v * (8 : Int32)) + i).toInt < 56 := hb41
      replace h : eT xq_52 _ 42 [some (.inr (.inl (some 28))), some (.inr (.inl (some 2))), some (.inl v), some (.inr (.inl (some 54))), some (.inl i), some (.inl ((v * (8 : Int32)) + i))] [.inl (ω.1 54 ((v * (8 : Int32)) + i).toInt.toNat), .inr (.inl (some 30))] (xpi ω 33 ((v * (8 : Int32)) + i).toInt.toNat (ω.1 54 ((v * (8 : Int32)) + i).toInt.toNat)) r μ' := h
      replace h := tx_bipush (v := 8) (p' := 44) h em52_42 (by decide +kernel) rfl
      replace h := tx_imul (p' := 45) h em52_44 rfl
      replace h := tx_aload_n (p' := 46) h em52_45 rfl rfl
      replace h := tx_getc (c := 6) (j := 9) (p' := 49) h em52_46 ((congrFun xo_9 69).trans rfl) rfl rfl rfl
      replace h := tx_iload (p' := 51) h em52_49 rfl rfl
      obtain ⟨hb51, h⟩ := tx_iald (len := 56) (p' := 52) h em52_51 rfl rfl
      replace hb51 : (0 : Int) ≤ ((v * (8 : Int32)) + i).toInt ∧ ((v * (8 : Int32)) + i).toInt < 56 := hb51
      replace h : eT xq_52 _ 52 [some (.inr (.inl (some 28))), some (.inr (.inl (some 2))), some (.inl v), some (.inr (.inl (some 54))), some (.inl i), some (.inl ((v * (8 : Int32)) + i))] [.inl (ω.1 7 ((v * (8 : Int32)) + i).toInt.toNat), .inl ((ω.1 54 ((v * (8 : Int32)) + i).toInt.toNat) * (8 : Int32)), .inr (.inl (some 30))] (xpi ω 33 ((v * (8 : Int32)) + i).toInt.toNat (ω.1 54 ((v * (8 : Int32)) + i).toInt.toNat)) r μ' := h
      replace h := tx_iadd (p' := 53) h em52_52 rfl
      replace h := tx_dup2 (p' := 54) h em52_53 rfl
      obtain ⟨hb54, h⟩ := tx_iald (len := 40) (p' := 55) h em52_54 rfl rfl
      replace hb54 : (0 : Int) ≤ (((ω.1 54 ((v * (8 : Int32)) + i).toInt.toNat) * (8 : Int32)) + (ω.1 7 ((v * (8 : Int32)) + i).toInt.toNat)).toInt ∧ (((ω.1 54 ((v * (8 : Int32)) + i).toInt.toNat) * (8 : Int32)) + (ω.1 7 ((v * (8 : Int32)) + i).toInt.toNat)).toInt < 40 := hb54
      replace h : eT xq_52 _ 55 [some (.inr (.inl (some 28))), some (.inr (.inl (some 2))), some (.inl v), some (.inr (.inl (some 54))), some (.inl i), some (.inl ((v * (8 : Int32)) + i))] [.inl (ω.1 30 (((ω.1 54 ((v * (8 : Int32)) + i).toInt.toNat) * (8 : Int32)) + (ω.1 7 ((v * (8 : Int32)) + i).toInt.toNat)).toInt.toNat), .inl (((ω.1 54 ((v * (8 : Int32)) + i).toInt.toNat) * (8 : Int32)) + (ω.1 7 ((v * (8 : Int32)) + i).toInt.toNat)), .inr (.inl (some 30))] (xpi ω 33 ((v * (8 : Int32)) + i).toInt.toNat (ω.1 54 ((v * (8 : Int32)) + i).toInt.toNat)) r μ' := h
      replace h := tx_iconst (v := 1) (p' := 56) h em52_55 (by decide +kernel) rfl
      replace h := tx_iadd (p' := 57) h em52_56 rfl
      obtain ⟨hb57, h⟩ := tx_iast (len := 40) (p' := 58) h em52_57 rfl rfl
      replace hb57 : (0 : Int) ≤ (((ω.1 54 ((v * (8 : Int32)) + i).toInt.toNat) * (8 : Int32)) + (ω.1 7 ((v * (8 : Int32)) + i).toInt.toNat)).toInt ∧ (((ω.1 54 ((v * (8 : Int32)) + i).toInt.toNat) * (8 : Int32)) + (ω.1 7 ((v * (8 : Int32)) + i).toInt.toNat)).toInt < 40 := hb57
      replace h := tx_iinc (v := 1) (p' := 61) h em52_58 (by decide +kernel) rfl rfl
      replace h : eT xq_52 _ 61 [some (.inr (.inl (some 28))), some (.inr (.inl (some 2))), some (.inl v), some (.inr (.inl (some 54))), some (.inl (i + 1)), some (.inl ((v * (8 : Int32)) + i))] [] (xpi (xpi ω 33 ((v * (8 : Int32)) + i).toInt.toNat (ω.1 54 ((v * (8 : Int32)) + i).toInt.toNat)) 30 (((ω.1 54 ((v * (8 : Int32)) + i).toInt.toNat) * (8 : Int32)) + (ω.1 7 ((v * (8 : Int32)) + i).toInt.toNat)).toInt.toNat ((ω.1 30 (((ω.1 54 ((v * (8 : Int32)) + i).toInt.toNat) * (8 : Int32)) + (ω.1 7 ((v * (8 : Int32)) + i).toInt.toNat)).toInt.toNat) + (1 : Int32))) r μ' := h
      obtain ⟨n2, hn2, h⟩ := tx_gotoS (t := 3) h em52_61 (by decide)
      have hkl : k < (kV S vn).1.length := by omega
      obtain ⟨w1, w2⟩ := wl_b hS.1 (v := vn) hkl
      have hw : (ω.1 7 (8 * vn + k)).toInt = (wl S vn k : Int) := ((hSω.2.2.1.2.2.1 vn hvn).2.2.2 k hkl).trans w1
      have h54 : ω.1 54 (8 * vn + k) = μ.1 54 (8 * vn + k) := hG.1 54 _ (by decide) (by decide) (fun q => absurd q.1 (by decide))
      obtain ⟨g0, g4⟩ := hg k hkl
      rw [u3, h54] at h
      have t1 : ((μ.1 54 (8 * vn + k)) * (8 : Int32)).toInt = 8 * (μ.1 54 (8 * vn + k)).toInt := by rw [an_mul (by rw [e8i]; omega) (by rw [e8i]; omega), e8i]; omega
      have t3 : (((μ.1 54 (8 * vn + k)) * (8 : Int32)) + (ω.1 7 (8 * vn + k))).toInt.toNat = 8 * (μ.1 54 (8 * vn + k)).toInt.toNat + wl S vn k := by
        have : (((μ.1 54 (8 * vn + k)) * (8 : Int32)) + (ω.1 7 (8 * vn + k))).toInt = 8 * (μ.1 54 (8 * vn + k)).toInt + wl S vn k := by rw [an_add (by rw [t1, hw]; omega) (by rw [t1, hw]; omega), t1, hw]
        omega
      rw [t3] at h
      have hT2 := twA_m (k := 33) (j := 8 * vn + k) (x := μ.1 54 (8 * vn + k)) hT (Or.inl rfl)
      refine ih n2 hn2 (k + 1) _ _ h ei (by omega) (gTy_i (gTy_i hG (Or.inr (Or.inl rfl))) (Or.inl rfl)) ?_ (fun j => ?_) ?_
      · have hr := twA_r (ρ' := pUp (pLy S vn (fun i => μ.1 54 (8 * vn + i)) k ρ) (330 + 8 * vn + k) (μ.1 54 (8 * vn + k))) hT2 (fun j hj => pUp_ne (by omega))
        have hx := (hT.1 (8 * (μ.1 54 (8 * vn + k)).toInt.toNat + wl S vn k) (by omega)).2.1
        show twA 28 (pUp (pUp (pLy S vn (fun i => μ.1 54 (8 * vn + i)) k ρ) (330 + 8 * vn + k) (μ.1 54 (8 * vn + k))) (40 + (8 * (μ.1 54 (8 * vn + k)).toInt.toNat + wl S vn k)) (pLy S vn (fun i => μ.1 54 (8 * vn + i)) k ρ (40 + (8 * (μ.1 54 (8 * vn + k)).toInt.toNat + wl S vn k)) + 1)) _
        rw [← hx]
        exact twA_u hr (by omega)
      · rw [xpi_ne (fun q => absurd q.1 (by decide))]
        by_cases e : j = 8 * vn + k
        · rw [e, xpi_at, if_pos (by omega)]
        · rw [xpi_ne (fun q => e q.2), hF j]
          by_cases q : 8 * vn ≤ j ∧ j < 8 * vn + k
          · rw [if_pos q, if_pos (by omega)]
          · rw [if_neg q, if_neg (by omega)]
      · exact h5
  replace h := tx_iconst (v := 0) (p' := 1) h em52_0 (by decide +kernel) rfl
  replace h := tx_istore (p' := 3) h em52_1 rfl
  replace h : eT xq_52 _ 3 [some (.inr (.inl (some 28))), some (.inr (.inl (some 2))), some (.inl v), some (.inr (.inl (some 54))), some (.inl (0 : Int32)), none] [] μ r μ' := h
  exact loop _ 0 _ _ h (by decide) (Nat.zero_le _) gTy_rf hT0 (fun j => by rw [if_neg (by omega)]) rfl
set_option maxRecDepth 10000 in
set_option maxHeartbeats 4000000 in
theorem ex_clift {v : Int32} {vn : Nat} {S : kSt} {ρ : Nat → Int32} {μ μ' : xM} {r : Option zV} (h0 : Ex gx xq_55 [.inr (.inl (some 28)), .inr (.inl (some 2)), .inl v] μ r μ') (hO : hOK μ) (hS : cS9 S μ) (hT0 : twA 28 ρ μ) (hv : v.toInt = (vn : Int)) (hvn : vn < S.2.1.length) (hg : ∀ i, i < (kV S vn).1.length → μ.1 33 (8 * vn + i) = ρ (330 + 8 * vn + i) ∧ 0 ≤ (ρ (330 + 8 * vn + i)).toInt ∧ (ρ (330 + 8 * vn + i)).toInt ≤ 4) : r = none ∧ gTy μ μ' ∧ twA 28 (pCl S vn (kV S vn).1.length ρ) μ' ∧ (∀ j, μ'.1 33 j = μ.1 33 j) ∧ μ'.1 28 5 = μ.1 28 5 &&& (((1 : Int32) <<< (v &&& 31)) ^^^ (-1 : Int32)) := by
  obtain ⟨n, h⟩ := tx_in (L := [some (.inr (.inl (some 28))), some (.inr (.inl (some 2))), some (.inl v), none, none]) h0 rfl
  have loop : ∀ (n k : Nat) (i : Int32) (ω : xM) {o5 : Option zV}, eT xq_55 n 2 [some (.inr (.inl (some 28))), some (.inr (.inl (some 2))), some (.inl v), some (.inl i), o5] [] ω r μ' → i.toInt = (k : Int) → k ≤ (kV S vn).1.length → gTy μ ω → twA 28 (pCl S vn k ρ) ω → (∀ j, ω.1 33 j = μ.1 33 j) → ω.1 28 5 = μ.1 28 5 → r = none ∧ gTy μ μ' ∧ twA 28 (pCl S vn (kV S vn).1.length ρ) μ' ∧ (∀ j, μ'.1 33 j = μ.1 33 j) ∧ μ'.1 28 5 = μ.1 28 5 &&& (((1 : Int32) <<< (v &&& 31)) ^^^ (-1 : Int32)) := by
    intro n
    induction n using Nat.strongRecOn with
    | ind n ih =>
    intro k i ω o5 h hi hk hG hT hF h5
    have e1i : (1 : Int32).toInt = 1 := by decide
    have e8i : (8 : Int32).toInt = 8 := by decide
    have hV7 := hS.1.2.1
    have hOω := hOK_2 hG.2 hO
    have hSω := cS9_T hS hG
    have hwl9 := (kWf_V hS.1 vn).1
    have hvt : v.toInt.toNat = vn := by omega
    have hlen : (ω.1 6 v.toInt.toNat).toInt = ((kV S vn).1.length : Int) := by
      rw [hvt]; exact (hSω.2.2.1.2.2.1 vn hvn).2.2.1
    have u1 : (v * (8 : Int32)).toInt = 8 * (vn : Int) := by rw [an_mul (by rw [e8i]; omega) (by rw [e8i]; omega), e8i, hv]; omega
    have u2 : ((v * (8 : Int32)) + i).toInt = 8 * (vn : Int) + k := by rw [an_add (by rw [u1]; omega) (by rw [u1]; omega), u1, hi]
    have u3 : ((v * (8 : Int32)) + i).toInt.toNat = 8 * vn + k := by omega
    have ei : (i + 1).toInt = ((k + 1 : Nat) : Int) := by rw [an_add (by rw [e1i]; omega) (by rw [e1i]; omega), e1i]; omega
    replace h := tx_iload_n (p' := 3) h em55_2 rfl rfl
    replace h := tx_aload_n (p' := 4) h em55_3 rfl rfl
    replace h := tx_getc (c := 6) (j := 8) (p' := 7) h em55_4 ((congrFun xo_9 66).trans rfl) rfl rfl rfl
    replace h := tx_iload_n (p' := 8) h em55_7 rfl rfl
    obtain ⟨hb8, h⟩ := tx_iald (len := 7) (p' := 9) h em55_8 rfl rfl
    replace hb8 : (0 : Int) ≤ v.toInt ∧ v.toInt < 7 := hb8
    rcases tx_icmp (t := 53) (p' := 12) h em55_9 (by decide) rfl with ⟨c9, h⟩ | ⟨c9, h⟩
    · replace c9 : (ω.1 6 v.toInt.toNat).toInt ≤ i.toInt := c9
      replace h := tx_aload_n (p' := 54) h em55_53 rfl rfl
      replace h := tx_dup (p' := 55) h em55_54 rfl
      replace h := tx_getf (c := 8) (j := 5) (p' := 58) h em55_55 ((congrFun xo_9 44).trans rfl) rfl rfl (by decide) rfl
      replace h := tx_iconst (v := 1) (p' := 59) h em55_58 (by decide +kernel) rfl
      replace h := tx_iload_n (p' := 60) h em55_59 rfl rfl
      replace h := tx_ishl (p' := 61) h em55_60 rfl
      replace h := tx_iconst (v := (-1)) (p' := 62) h em55_61 (by decide +kernel) rfl
      replace h := tx_ixor (p' := 63) h em55_62 rfl
      replace h := tx_iand (p' := 64) h em55_63 rfl
      replace h := tx_putf (a := 28) (c := 8) (j := 5) (p' := 67) h em55_64 ((congrFun xo_9 44).trans rfl) rfl
      obtain ⟨rfl, hμ⟩ := tx_return h em55_67
      replace hμ : μ' = (xpi ω 28 5 ((ω.1 28 5) &&& (((1 : Int32) <<< (v &&& 31)) ^^^ (-1 : Int32)))) := hμ
      rw [hμ]
      have ek : k = (kV S vn).1.length := by omega
      rw [ek] at hT
      refine ⟨rfl, gTy_i hG (Or.inr (Or.inr ⟨rfl, rfl⟩)), twA_m hT (Or.inr ⟨rfl, by decide⟩), fun j => ?_, ?_⟩
      · rw [xpi_ne (fun q => absurd q.1 (by decide))]; exact hF j
      · rw [xpi_at, h5]
    · replace c9 : ¬ (ω.1 6 v.toInt.toNat).toInt ≤ i.toInt := c9
      replace h := tx_iload_n (p' := 13) h em55_12 rfl rfl
      replace h := tx_bipush (v := 8) (p' := 15) h em55_13 (by decide +kernel) rfl
      replace h := tx_imul (p' := 16) h em55_15 rfl
      replace h := tx_iload_n (p' := 17) h em55_16 rfl rfl
      replace h := tx_iadd (p' := 18) h em55_17 rfl
      replace h := tx_istore (p' := 20) h em55_18 rfl
      replace h : eT xq_55 _ 20 [some (.inr (.inl (some 28))), some (.inr (.inl (some 2))), some (.inl v), some (.inl i), some (.inl ((v * (8 : Int32)) + i))] [] ω r μ' := h
      replace h := tx_aload_n (p' := 21) h em55_20 rfl rfl
      obtain ⟨b21, hk_b21, hr_b21, h⟩ := tx_getk (c := 8) (j := 1) (p' := 24) h em55_21 ((congrFun xo_9 15).trans rfl) rfl rfl rfl
      have eb21 : b21 = 30 := Option.some.inj (hr_b21.symm.trans ((hOω).2 28 (by decide) 1 (by decide)))
      subst eb21
      replace h := tx_aload_n (p' := 25) h em55_24 rfl rfl
      obtain ⟨b25, hk_b25, hr_b25, h⟩ := tx_getk (c := 8) (j := 4) (p' := 28) h em55_25 ((congrFun xo_9 24).trans rfl) rfl rfl rfl
      have eb25 : b25 = 33 := Option.some.inj (hr_b25.symm.trans ((hOω).2 28 (by decide) 4 (by decide)))
      subst eb25
      replace h := tx_iload (p' := 30) h em55_28 rfl rfl
      obtain ⟨hb30, h⟩ := tx_iald (len := 56) (p' := 31) h em55_30 rfl rfl
      replace hb30 : (0 : Int) ≤ ((v * (8 : Int32)) + i).toInt ∧ ((v * (8 : Int32)) + i).toInt < 56 := hb30
      replace h := tx_bipush (v := 8) (p' := 33) h em55_31 (by decide +kernel) rfl
      replace h := tx_imul (p' := 34) h em55_33 rfl
      replace h := tx_aload_n (p' := 35) h em55_34 rfl rfl
      replace h := tx_getc (c := 6) (j := 9) (p' := 38) h em55_35 ((congrFun xo_9 69).trans rfl) rfl rfl rfl
      replace h := tx_iload (p' := 40) h em55_38 rfl rfl
      obtain ⟨hb40, h⟩ := tx_iald (len := 56) (p' := 41) h em55_40 rfl rfl
      replace hb40 : (0 : Int) ≤ ((v * (8 : Int32)) + i).toInt ∧ ((v * (8 : Int32)) + i).toInt < 56 := hb40
      replace h := tx_iadd (p' := 42) h em55_41 rfl
      replace h := tx_dup2 (p' := 43) h em55_42 rfl
      obtain ⟨hb43, h⟩ := tx_iald (len := 40) (p' := 44) h em55_43 rfl rfl
      replace hb43 : (0 : Int) ≤ (((ω.1 33 ((v * (8 : Int32)) + i).toInt.toNat) * (8 : Int32)) + (ω.1 7 ((v * (8 : Int32)) + i).toInt.toNat)).toInt ∧ (((ω.1 33 ((v * (8 : Int32)) + i).toInt.toNat) * (8 : Int32)) + (ω.1 7 ((v * (8 : Int32)) + i).toInt.toNat)).toInt < 40 := hb43
      replace h := tx_iconst (v := 1) (p' := 45) h em55_44 (by decide +kernel) rfl
      replace h := tx_isub (p' := 46) h em55_45 rfl
      obtain ⟨hb46, h⟩ := tx_iast (len := 40) (p' := 47) h em55_46 rfl rfl
      replace hb46 : (0 : Int) ≤ (((ω.1 33 ((v * (8 : Int32)) + i).toInt.toNat) * (8 : Int32)) + (ω.1 7 ((v * (8 : Int32)) + i).toInt.toNat)).toInt ∧ (((ω.1 33 ((v * (8 : Int32)) + i).toInt.toNat) * (8 : Int32)) + (ω.1 7 ((v * (8 : Int32)) + i).toInt.toNat)).toInt < 40 := hb46
      replace h := tx_iinc (v := 1) (p' := 50) h em55_47 (by decide +kernel) rfl rfl
      replace h : eT xq_55 _ 50 [some (.inr (.inl (some 28))), some (.inr (.inl (some 2))), some (.inl v), some (.inl (i + 1)), some (.inl ((v * (8 : Int32)) + i))] [] (xpi ω 30 (((ω.1 33 ((v * (8 : Int32)) + i).toInt.toNat) * (8 : Int32)) + (ω.1 7 ((v * (8 : Int32)) + i).toInt.toNat)).toInt.toNat ((ω.1 30 (((ω.1 33 ((v * (8 : Int32)) + i).toInt.toNat) * (8 : Int32)) + (ω.1 7 ((v * (8 : Int32)) + i).toInt.toNat)).toInt.toNat) - (1 : Int32))) r μ' := h
      obtain ⟨n2, hn2, h⟩ := tx_gotoS (t := 2) h em55_50 (by decide)
      have hkl : k < (kV S vn).1.length := by omega
      obtain ⟨w1, w2⟩ := wl_b hS.1 (v := vn) hkl
      have hw : (ω.1 7 (8 * vn + k)).toInt = (wl S vn k : Int) := ((hSω.2.2.1.2.2.1 vn hvn).2.2.2 k hkl).trans w1
      obtain ⟨g1, g0, g4⟩ := hg k hkl
      have hi9 : pCl S vn k ρ (330 + 8 * vn + k) = ρ (330 + 8 * vn + k) := pCl_hi hS.1 k hk (fun i hi => (hg i (by omega)).2.2) _ (by omega)
      rw [u3, hF, g1] at h
      have t1 : ((ρ (330 + 8 * vn + k)) * (8 : Int32)).toInt = 8 * (ρ (330 + 8 * vn + k)).toInt := by rw [an_mul (by rw [e8i]; omega) (by rw [e8i]; omega), e8i]; omega
      have t3 : (((ρ (330 + 8 * vn + k)) * (8 : Int32)) + (ω.1 7 (8 * vn + k))).toInt.toNat = 8 * (ρ (330 + 8 * vn + k)).toInt.toNat + wl S vn k := by
        have : (((ρ (330 + 8 * vn + k)) * (8 : Int32)) + (ω.1 7 (8 * vn + k))).toInt = 8 * (ρ (330 + 8 * vn + k)).toInt + wl S vn k := by rw [an_add (by rw [t1, hw]; omega) (by rw [t1, hw]; omega), t1, hw]
        omega
      rw [t3] at h
      have hx := (hT.1 (8 * (ρ (330 + 8 * vn + k)).toInt.toNat + wl S vn k) (by omega)).2.1
      refine ih n2 hn2 (k + 1) _ _ h ei (by omega) (gTy_i hG (Or.inl rfl)) ?_ (fun j => ?_) ?_
      · show twA 28 (if 0 ≤ (pCl S vn k ρ (330 + 8 * vn + k)).toInt then pUp (pCl S vn k ρ) (40 + (8 * (pCl S vn k ρ (330 + 8 * vn + k)).toInt.toNat + wl S vn k)) (pCl S vn k ρ (40 + (8 * (pCl S vn k ρ (330 + 8 * vn + k)).toInt.toNat + wl S vn k)) - 1) else pCl S vn k ρ) _
        rw [hi9, if_pos g0, ← hx]
        exact twA_u hT (by omega)
      · rw [xpi_ne (fun q => absurd q.1 (by decide))]; exact hF j
      · exact h5
  replace h := tx_iconst (v := 0) (p' := 1) h em55_0 (by decide +kernel) rfl
  replace h := tx_istore_n (p' := 2) h em55_1 rfl
  replace h : eT xq_55 _ 2 [some (.inr (.inl (some 28))), some (.inr (.inl (some 2))), some (.inl v), some (.inl (0 : Int32)), none] [] μ r μ' := h
  exact loop _ 0 _ _ h (by decide) (Nat.zero_le _) gTy_rf hT0 (fun _ => rfl) rfl
