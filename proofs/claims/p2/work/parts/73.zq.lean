theorem zq_75 {as : List zV} {I I' : zI} {r : Option zV} (h : aPost zInv zc_75 as I r I') : (∃ (v1 : Int32), r = none ∧ I' = (zupd I 1 v1) ∧ v1.toInt = zf I 1 + 4 ∧ 4 ≤ v1.toInt ∧ v1.toInt ≤ 2000) := by
  obtain ⟨⟨al, hal, h1, h2, h3, h4⟩, h5, h6⟩ := h
  have hal : al ∈ ([(none, [(1, some 4, (4, 2000))], [])] : List aAl) := hal
  simp only [List.mem_cons, List.not_mem_nil, or_false] at hal
  rcases hal with rfl
  · refine ?_
    have h1 : r = none := h1
    have f1 := h2 _ List.mem_cons_self
    exact ⟨(I' 1), h1, (hIl h3 (h6 rfl)), f1.1 _ rfl, f1.2.1, f1.2.2⟩
theorem zq_205 {as : List zV} {I I' : zI} {r : Option zV} (h : aPost zInv zc_205 as I r I') : (∃ (v10 : Int32), r = none ∧ I' = (zupd I 10 v10) ∧ v10.toInt = zf I 10 + 4 ∧ 4 ≤ v10.toInt ∧ v10.toInt ≤ 2000) := by
  obtain ⟨⟨al, hal, h1, h2, h3, h4⟩, h5, h6⟩ := h
  have hal : al ∈ ([(none, [(10, some 4, (4, 2000))], [])] : List aAl) := hal
  simp only [List.mem_cons, List.not_mem_nil, or_false] at hal
  rcases hal with rfl
  · refine ?_
    have h1 : r = none := h1
    have f10 := h2 _ List.mem_cons_self
    exact ⟨(I' 10), h1, (hIl h3 (h6 rfl)), f10.1 _ rfl, f10.2.1, f10.2.2⟩
