/-! ===== more rows: whole arrays over another, the greater, the lesser ===== -/
section TXC
variable {q : xP} {n pc : Nat} {L : zL} {S : List zV} {μ μ' : xM} {r : Option zV}
theorem tx_copy {a a0 len x : Nat} {v z1 z0 : Int32} (h : eT q n pc L (.inl v :: .inl z1 :: .inr (.inl (some a)) :: .inl z0 :: .inr (.inl (some a0)) :: S) μ r μ') (hd : decode q.2.1 pc = .ok (.invokestatic x, 3)) (hx : xTb q.1.cls x = (5, 0, 0)) (hg : zG0.2.1 (zG0.1 a) = .inr (0, len)) {p' : Nat} (hp : pc + 3 = p') : eT q n p' L S (xcp μ a0 a len) r μ' := by
  subst hp
  obtain ⟨L0, b, hf, hi, h⟩ := tx h hd rfl
  rcases hi with ⟨na, mn, e, -⟩ | ⟨-, a', a0', t0, n0, t, len', S0, e1, -, hg', -, ht, -, rfl⟩ | ⟨e, -⟩ | ⟨e, -⟩
  · cases hx.symm.trans e
  · cases e1
    cases (hg'.symm.trans hg : (Sum.inr (t, len') : zD) = .inr (0, len))
    exact eT_fg hf h
  · cases hx.symm.trans e
  · cases hx.symm.trans e
theorem tx_max {x : Nat} {u v : Int32} (h : eT q n pc L (.inl v :: .inl u :: S) μ r μ') (hd : decode q.2.1 pc = .ok (.invokestatic x, 3)) (hx : xTb q.1.cls x = (6, 0, 0)) {p' : Nat} (hp : pc + 3 = p') : eT q n p' L (.inl (if u < v then v else u) :: S) μ r μ' := by
  subst hp
  obtain ⟨L0, b, hf, hi, h⟩ := tx h hd rfl
  rcases hi with ⟨na, mn, e, -⟩ | ⟨e, -⟩ | ⟨-, x2, y2, S0, e1, rfl⟩ | ⟨e, -⟩
  · cases hx.symm.trans e
  · cases hx.symm.trans e
  · cases e1
    exact eT_fg hf h
  · cases hx.symm.trans e
theorem tx_min {x : Nat} {u v : Int32} (h : eT q n pc L (.inl v :: .inl u :: S) μ r μ') (hd : decode q.2.1 pc = .ok (.invokestatic x, 3)) (hx : xTb q.1.cls x = (7, 0, 0)) {p' : Nat} (hp : pc + 3 = p') : eT q n p' L (.inl (if v < u then v else u) :: S) μ r μ' := by
  subst hp
  obtain ⟨L0, b, hf, hi, h⟩ := tx h hd rfl
  rcases hi with ⟨na, mn, e, -⟩ | ⟨e, -⟩ | ⟨e, -⟩ | ⟨-, x2, y2, S0, e1, rfl⟩
  · cases hx.symm.trans e
  · cases hx.symm.trans e
  · cases hx.symm.trans e
  · cases e1
    exact eT_fg hf h
end TXC
theorem xcp_at {μ : xM} {k0 k n j : Nat} (h : j < n) : (xcp μ k0 k n).1 k j = μ.1 k0 j := by
  show (if k = k ∧ j < n then μ.1 k0 j else μ.1 k j) = _
  rw [if_pos ⟨rfl, h⟩]
theorem xcp_ne {μ : xM} {k0 k n a j : Nat} (h : ¬ a = k) : (xcp μ k0 k n).1 a j = μ.1 a j := by
  show (if a = k ∧ j < n then μ.1 k0 j else μ.1 a j) = _
  rw [if_neg (fun q => h q.1)]
theorem an_max {u v : Int32} : (if u < v then v else u : Int32).toInt = if u.toInt < v.toInt then v.toInt else u.toInt := by
  by_cases h : u < v
  · rw [if_pos h, if_pos (Int32.lt_iff_toInt_lt.mp h)]
  · rw [if_neg h, if_neg (fun q => h (Int32.lt_iff_toInt_lt.mpr q))]
theorem an_min {u v : Int32} : (if v < u then v else u : Int32).toInt = if v.toInt < u.toInt then v.toInt else u.toInt := by
  by_cases h : v < u
  · rw [if_pos h, if_pos (Int32.lt_iff_toInt_lt.mp h)]
  · rw [if_neg h, if_neg (fun q => h (Int32.lt_iff_toInt_lt.mpr q))]
