theorem zq_2 {as : List zV} {I I' : zI} {r : Option zV} (h : aPost zInv zc_2 as I r I') : (∃ (x : Int32), r = some (.inl x) ∧ 0 ≤ x.toInt ∧ x.toInt ≤ 0 ∧ I = I' ∧ zInv I') ∨ (∃ (x : Int32), r = some (.inl x) ∧ 1 ≤ x.toInt ∧ x.toInt ≤ 1 ∧ I = I' ∧ zInv I') := by
  obtain ⟨⟨al, hal, h1, h2, h3, h4⟩, h5, h6⟩ := h
  have hal : al ∈ ([(some (.inl (0, 0)), [], []), (some (.inl (1, 1)), [], [])] : List aAl) := hal
  simp only [List.mem_cons, List.not_mem_nil, or_false] at hal
  rcases hal with rfl | rfl
  · refine Or.inl ?_
    obtain ⟨x, h1, hx1, hx2⟩ := h1
    exact ⟨x, h1, hx1, hx2, (hIl h3 (h6 rfl)).symm, h5 rfl⟩
  · refine Or.inr (?_)
    obtain ⟨x, h1, hx1, hx2⟩ := h1
    exact ⟨x, h1, hx1, hx2, (hIl h3 (h6 rfl)).symm, h5 rfl⟩
theorem zq_7 {as : List zV} {I I' : zI} {r : Option zV} (h : aPost zInv zc_7 as I r I') : (∃ (x : Int32), r = some (.inl x) ∧ (-2147483648) ≤ x.toInt ∧ x.toInt ≤ 2147483647 ∧ I = I' ∧ zInv I') := by
  obtain ⟨⟨al, hal, h1, h2, h3, h4⟩, h5, h6⟩ := h
  have hal : al ∈ ([(some (.inl ((-2147483648), 2147483647)), [], [])] : List aAl) := hal
  simp only [List.mem_cons, List.not_mem_nil, or_false] at hal
  rcases hal with rfl
  · refine ?_
    obtain ⟨x, h1, hx1, hx2⟩ := h1
    exact ⟨x, h1, hx1, hx2, (hIl h3 (h6 rfl)).symm, h5 rfl⟩
theorem zq_10 {as : List zV} {I I' : zI} {r : Option zV} (h : aPost zInv zc_10 as I r I') : (∃ (x : Int32), r = some (.inl x) ∧ 0 ≤ x.toInt ∧ x.toInt ≤ 0 ∧ I = I' ∧ zInv I') := by
  obtain ⟨⟨al, hal, h1, h2, h3, h4⟩, h5, h6⟩ := h
  have hal : al ∈ ([(some (.inl (0, 0)), [], [])] : List aAl) := hal
  simp only [List.mem_cons, List.not_mem_nil, or_false] at hal
  rcases hal with rfl
  · refine ?_
    obtain ⟨x, h1, hx1, hx2⟩ := h1
    exact ⟨x, h1, hx1, hx2, (hIl h3 (h6 rfl)).symm, h5 rfl⟩
theorem zq_11 {as : List zV} {I I' : zI} {r : Option zV} (h : aPost zInv zc_11 as I r I') : (∃ (x : Int32), r = some (.inl x) ∧ (-2147483648) ≤ x.toInt ∧ x.toInt ≤ 2147483647 ∧ I = I' ∧ zInv I') := by
  obtain ⟨⟨al, hal, h1, h2, h3, h4⟩, h5, h6⟩ := h
  have hal : al ∈ ([(some (.inl ((-2147483648), 2147483647)), [], [])] : List aAl) := hal
  simp only [List.mem_cons, List.not_mem_nil, or_false] at hal
  rcases hal with rfl
  · refine ?_
    obtain ⟨x, h1, hx1, hx2⟩ := h1
    exact ⟨x, h1, hx1, hx2, (hIl h3 (h6 rfl)).symm, h5 rfl⟩
theorem zq_14 {as : List zV} {I I' : zI} {r : Option zV} (h : aPost zInv zc_14 as I r I') : (r = none ∧ I = I' ∧ zInv I') := by
  obtain ⟨⟨al, hal, h1, h2, h3, h4⟩, h5, h6⟩ := h
  have hal : al ∈ ([(none, [], [])] : List aAl) := hal
  simp only [List.mem_cons, List.not_mem_nil, or_false] at hal
  rcases hal with rfl
  · refine ?_
    have h1 : r = none := h1
    exact ⟨h1, (hIl h3 (h6 rfl)).symm, h5 rfl⟩
theorem zq_15 {as : List zV} {I I' : zI} {r : Option zV} (h : aPost zInv zc_15 as I r I') : (∃ (v3 : Int32), r = none ∧ I' = (zupd I 3 v3) ∧ v3.toInt = zf I 3 + 0 ∧ 12 ≤ v3.toInt ∧ v3.toInt ≤ 12 ∧ zInv I') ∨ (∃ (v3 : Int32), r = none ∧ I' = (zupd I 3 v3) ∧ v3.toInt = zf I 3 + 1 ∧ 1 ≤ v3.toInt ∧ v3.toInt ≤ 12 ∧ zInv I') := by
  obtain ⟨⟨al, hal, h1, h2, h3, h4⟩, h5, h6⟩ := h
  have hal : al ∈ ([(none, [(3, some 0, (12, 12))], []), (none, [(3, some 1, (1, 12))], [])] : List aAl) := hal
  simp only [List.mem_cons, List.not_mem_nil, or_false] at hal
  rcases hal with rfl | rfl
  · refine Or.inl ?_
    have h1 : r = none := h1
    have f3 := h2 _ List.mem_cons_self
    exact ⟨(I' 3), h1, (hIl h3 (h6 rfl)), f3.1 _ rfl, f3.2.1, f3.2.2, h5 rfl⟩
  · refine Or.inr (?_)
    have h1 : r = none := h1
    have f3 := h2 _ List.mem_cons_self
    exact ⟨(I' 3), h1, (hIl h3 (h6 rfl)), f3.1 _ rfl, f3.2.1, f3.2.2, h5 rfl⟩
theorem zq_53 {as : List zV} {I I' : zI} {r : Option zV} (h : aPost zInv zc_53 as I r I') : (r = none ∧ I = I') := by
  obtain ⟨⟨al, hal, h1, h2, h3, h4⟩, h5, h6⟩ := h
  have hal : al ∈ ([(none, [], [])] : List aAl) := hal
  simp only [List.mem_cons, List.not_mem_nil, or_false] at hal
  rcases hal with rfl
  · refine ?_
    have h1 : r = none := h1
    exact ⟨h1, (hIl h3 (h6 rfl)).symm⟩
theorem zq_75 {as : List zV} {I I' : zI} {r : Option zV} (h : aPost zInv zc_75 as I r I') : (∃ (v1 : Int32), r = none ∧ I' = (zupd I 1 v1) ∧ v1.toInt = zf I 1 + 4 ∧ 4 ≤ v1.toInt ∧ v1.toInt ≤ 2000) := by
  obtain ⟨⟨al, hal, h1, h2, h3, h4⟩, h5, h6⟩ := h
  have hal : al ∈ ([(none, [(1, some 4, (4, 2000))], [])] : List aAl) := hal
  simp only [List.mem_cons, List.not_mem_nil, or_false] at hal
  rcases hal with rfl
  · refine ?_
    have h1 : r = none := h1
    have f1 := h2 _ List.mem_cons_self
    exact ⟨(I' 1), h1, (hIl h3 (h6 rfl)), f1.1 _ rfl, f1.2.1, f1.2.2⟩
theorem zq_128 {as : List zV} {I I' : zI} {r : Option zV} (h : aPost zInv zc_128 as I r I') : (r = none ∧ I = I' ∧ zInv I') := by
  obtain ⟨⟨al, hal, h1, h2, h3, h4⟩, h5, h6⟩ := h
  have hal : al ∈ ([(none, [], [])] : List aAl) := hal
  simp only [List.mem_cons, List.not_mem_nil, or_false] at hal
  rcases hal with rfl
  · refine ?_
    have h1 : r = none := h1
    exact ⟨h1, (hIl h3 (h6 rfl)).symm, h5 rfl⟩
theorem zq_131 {as : List zV} {I I' : zI} {r : Option zV} (h : aPost zInv zc_131 as I r I') : (∃ (x : Int32) (v12 : Int32) (v13 : Int32), r = some (.inl x) ∧ (-2147483648) ≤ x.toInt ∧ x.toInt ≤ 2147483647 ∧ I' = (zupd (zupd I 12 v12) 13 v13) ∧ v12.toInt = zf I 12 + 1 ∧ 1 ≤ v12.toInt ∧ v12.toInt ≤ 400 ∧ v13.toInt = zf I 13 + 0 ∧ 0 ≤ v13.toInt ∧ v13.toInt ≤ 0 ∧ zInv I') ∨ (∃ (x : Int32) (v13 : Int32), r = some (.inl x) ∧ (-2147483648) ≤ x.toInt ∧ x.toInt ≤ 2147483647 ∧ I' = (zupd I 13 v13) ∧ v13.toInt = zf I 13 + 0 ∧ 1 ≤ v13.toInt ∧ v13.toInt ≤ 2147483647 ∧ zInv I') ∨ (∃ (x : Int32) (v13 : Int32), r = some (.inl x) ∧ (-2147483648) ≤ x.toInt ∧ x.toInt ≤ 2147483647 ∧ I' = (zupd I 13 v13) ∧ 1 ≤ v13.toInt ∧ v13.toInt ≤ 6 ∧ zInv I') := by
  obtain ⟨⟨al, hal, h1, h2, h3, h4⟩, h5, h6⟩ := h
  have hal : al ∈ ([(some (.inl ((-2147483648), 2147483647)), [(12, some 1, (1, 400)), (13, some 0, (0, 0))], []), (some (.inl ((-2147483648), 2147483647)), [(13, some 0, (1, 2147483647))], []), (some (.inl ((-2147483648), 2147483647)), [(13, none, (1, 6))], [])] : List aAl) := hal
  simp only [List.mem_cons, List.not_mem_nil, or_false] at hal
  rcases hal with rfl | rfl | rfl
  · refine Or.inl ?_
    obtain ⟨x, h1, hx1, hx2⟩ := h1
    have f12 := h2 _ List.mem_cons_self
    have f13 := h2 _ (List.mem_cons_of_mem _ List.mem_cons_self)
    exact ⟨x, (I' 12), (I' 13), h1, hx1, hx2, (hIl h3 (h6 rfl)), f12.1 _ rfl, f12.2.1, f12.2.2, f13.1 _ rfl, f13.2.1, f13.2.2, h5 rfl⟩
  · refine Or.inr (Or.inl ?_)
    obtain ⟨x, h1, hx1, hx2⟩ := h1
    have f13 := h2 _ List.mem_cons_self
    exact ⟨x, (I' 13), h1, hx1, hx2, (hIl h3 (h6 rfl)), f13.1 _ rfl, f13.2.1, f13.2.2, h5 rfl⟩
  · refine Or.inr (Or.inr (?_))
    obtain ⟨x, h1, hx1, hx2⟩ := h1
    have f13 := h2 _ List.mem_cons_self
    exact ⟨x, (I' 13), h1, hx1, hx2, (hIl h3 (h6 rfl)), f13.2.1, f13.2.2, h5 rfl⟩
theorem zq_140 {as : List zV} {I I' : zI} {r : Option zV} (h : aPost zInv zc_140 as I r I') : (∃ (v13 : Int32), r = none ∧ I' = (zupd I 13 v13) ∧ v13.toInt = zf I 13 + 0 ∧ 1 ≤ v13.toInt ∧ v13.toInt ≤ 2147483647) ∨ (∃ (v13 : Int32), r = none ∧ I' = (zupd I 13 v13) ∧ 1 ≤ v13.toInt ∧ v13.toInt ≤ 6) := by
  obtain ⟨⟨al, hal, h1, h2, h3, h4⟩, h5, h6⟩ := h
  have hal : al ∈ ([(none, [(13, some 0, (1, 2147483647))], []), (none, [(13, none, (1, 6))], [])] : List aAl) := hal
  simp only [List.mem_cons, List.not_mem_nil, or_false] at hal
  rcases hal with rfl | rfl
  · refine Or.inl ?_
    have h1 : r = none := h1
    have f13 := h2 _ List.mem_cons_self
    exact ⟨(I' 13), h1, (hIl h3 (h6 rfl)), f13.1 _ rfl, f13.2.1, f13.2.2⟩
  · refine Or.inr (?_)
    have h1 : r = none := h1
    have f13 := h2 _ List.mem_cons_self
    exact ⟨(I' 13), h1, (hIl h3 (h6 rfl)), f13.2.1, f13.2.2⟩
theorem zq_151 {as : List zV} {I I' : zI} {r : Option zV} (h : aPost zInv zc_151 as I r I') : (∃ (v12 : Int32) (v13 : Int32), r = none ∧ I' = (zupd (zupd I 12 v12) 13 v13) ∧ v12.toInt = zf I 12 + 0 ∧ 400 ≤ v12.toInt ∧ v12.toInt ≤ 400 ∧ v13.toInt = zf I 13 + 0 ∧ 1 ≤ v13.toInt ∧ v13.toInt ≤ 2147483647) ∨ (∃ (v12 : Int32) (v13 : Int32), r = none ∧ I' = (zupd (zupd I 12 v12) 13 v13) ∧ v12.toInt = zf I 12 + 0 ∧ 400 ≤ v12.toInt ∧ v12.toInt ≤ 400 ∧ 1 ≤ v13.toInt ∧ v13.toInt ≤ 6) ∨ (∃ (v12 : Int32), r = none ∧ I' = (zupd I 12 v12) ∧ v12.toInt = zf I 12 + 1 ∧ 1 ≤ v12.toInt ∧ v12.toInt ≤ 400) := by
  obtain ⟨⟨al, hal, h1, h2, h3, h4⟩, h5, h6⟩ := h
  have hal : al ∈ ([(none, [(12, some 0, (400, 400)), (13, some 0, (1, 2147483647))], []), (none, [(12, some 0, (400, 400)), (13, none, (1, 6))], []), (none, [(12, some 1, (1, 400))], [])] : List aAl) := hal
  simp only [List.mem_cons, List.not_mem_nil, or_false] at hal
  rcases hal with rfl | rfl | rfl
  · refine Or.inl ?_
    have h1 : r = none := h1
    have f12 := h2 _ List.mem_cons_self
    have f13 := h2 _ (List.mem_cons_of_mem _ List.mem_cons_self)
    exact ⟨(I' 12), (I' 13), h1, (hIl h3 (h6 rfl)), f12.1 _ rfl, f12.2.1, f12.2.2, f13.1 _ rfl, f13.2.1, f13.2.2⟩
  · refine Or.inr (Or.inl ?_)
    have h1 : r = none := h1
    have f12 := h2 _ List.mem_cons_self
    have f13 := h2 _ (List.mem_cons_of_mem _ List.mem_cons_self)
    exact ⟨(I' 12), (I' 13), h1, (hIl h3 (h6 rfl)), f12.1 _ rfl, f12.2.1, f12.2.2, f13.2.1, f13.2.2⟩
  · refine Or.inr (Or.inr (?_))
    have h1 : r = none := h1
    have f12 := h2 _ List.mem_cons_self
    exact ⟨(I' 12), h1, (hIl h3 (h6 rfl)), f12.1 _ rfl, f12.2.1, f12.2.2⟩
theorem zq_183 {as : List zV} {I I' : zI} {r : Option zV} (h : aPost zInv zc_183 as I r I') : (r = none ∧ I = I') := by
  obtain ⟨⟨al, hal, h1, h2, h3, h4⟩, h5, h6⟩ := h
  have hal : al ∈ ([(none, [], [])] : List aAl) := hal
  simp only [List.mem_cons, List.not_mem_nil, or_false] at hal
  rcases hal with rfl
  · refine ?_
    have h1 : r = none := h1
    exact ⟨h1, (hIl h3 (h6 rfl)).symm⟩
theorem zq_196 {as : List zV} {I I' : zI} {r : Option zV} (h : aPost zInv zc_196 as I r I') : (∃ (v12 : Int32) (v13 : Int32), r = none ∧ I' = (zupd (zupd I 12 v12) 13 v13) ∧ v12.toInt = zf I 12 + 1 ∧ 1 ≤ v12.toInt ∧ v12.toInt ≤ 400 ∧ v13.toInt = zf I 13 + 0 ∧ 0 ≤ v13.toInt ∧ v13.toInt ≤ 0 ∧ zInv I') ∨ (∃ (v13 : Int32), r = none ∧ I' = (zupd I 13 v13) ∧ v13.toInt = zf I 13 + 0 ∧ 1 ≤ v13.toInt ∧ v13.toInt ≤ 2147483647 ∧ zInv I') ∨ (∃ (v13 : Int32), r = none ∧ I' = (zupd I 13 v13) ∧ 1 ≤ v13.toInt ∧ v13.toInt ≤ 6 ∧ zInv I') := by
  obtain ⟨⟨al, hal, h1, h2, h3, h4⟩, h5, h6⟩ := h
  have hal : al ∈ ([(none, [(12, some 1, (1, 400)), (13, some 0, (0, 0))], []), (none, [(13, some 0, (1, 2147483647))], []), (none, [(13, none, (1, 6))], [])] : List aAl) := hal
  simp only [List.mem_cons, List.not_mem_nil, or_false] at hal
  rcases hal with rfl | rfl | rfl
  · refine Or.inl ?_
    have h1 : r = none := h1
    have f12 := h2 _ List.mem_cons_self
    have f13 := h2 _ (List.mem_cons_of_mem _ List.mem_cons_self)
    exact ⟨(I' 12), (I' 13), h1, (hIl h3 (h6 rfl)), f12.1 _ rfl, f12.2.1, f12.2.2, f13.1 _ rfl, f13.2.1, f13.2.2, h5 rfl⟩
  · refine Or.inr (Or.inl ?_)
    have h1 : r = none := h1
    have f13 := h2 _ List.mem_cons_self
    exact ⟨(I' 13), h1, (hIl h3 (h6 rfl)), f13.1 _ rfl, f13.2.1, f13.2.2, h5 rfl⟩
  · refine Or.inr (Or.inr (?_))
    have h1 : r = none := h1
    have f13 := h2 _ List.mem_cons_self
    exact ⟨(I' 13), h1, (hIl h3 (h6 rfl)), f13.2.1, f13.2.2, h5 rfl⟩
theorem zq_205 {as : List zV} {I I' : zI} {r : Option zV} (h : aPost zInv zc_205 as I r I') : (∃ (v10 : Int32), r = none ∧ I' = (zupd I 10 v10) ∧ v10.toInt = zf I 10 + 4 ∧ 4 ≤ v10.toInt ∧ v10.toInt ≤ 2000) := by
  obtain ⟨⟨al, hal, h1, h2, h3, h4⟩, h5, h6⟩ := h
  have hal : al ∈ ([(none, [(10, some 4, (4, 2000))], [])] : List aAl) := hal
  simp only [List.mem_cons, List.not_mem_nil, or_false] at hal
  rcases hal with rfl
  · refine ?_
    have h1 : r = none := h1
    have f10 := h2 _ List.mem_cons_self
    exact ⟨(I' 10), h1, (hIl h3 (h6 rfl)), f10.1 _ rfl, f10.2.1, f10.2.2⟩
theorem zq_219 {as : List zV} {I I' : zI} {r : Option zV} (h : aPost zInv zc_219 as I r I') : (∃ (x : Int32) (v12 : Int32) (v13 : Int32), r = some (.inl x) ∧ (-2147483648) ≤ x.toInt ∧ x.toInt ≤ 2147483647 ∧ I' = (zupd (zupd I 12 v12) 13 v13) ∧ v12.toInt = zf I 12 + 3 ∧ 3 ≤ v12.toInt ∧ v12.toInt ≤ 400 ∧ v13.toInt = zf I 13 + 0 ∧ 0 ≤ v13.toInt ∧ v13.toInt ≤ 0 ∧ zInv I') ∨ (∃ (x : Int32) (v12 : Int32) (v13 : Int32), r = some (.inl x) ∧ (-2147483648) ≤ x.toInt ∧ x.toInt ≤ 2147483647 ∧ I' = (zupd (zupd I 12 v12) 13 v13) ∧ 0 ≤ v12.toInt ∧ v12.toInt ≤ 400 ∧ 1 ≤ v13.toInt ∧ v13.toInt ≤ 2147483647 ∧ zInv I') := by
  obtain ⟨⟨al, hal, h1, h2, h3, h4⟩, h5, h6⟩ := h
  have hal : al ∈ ([(some (.inl ((-2147483648), 2147483647)), [(12, some 3, (3, 400)), (13, some 0, (0, 0))], []), (some (.inl ((-2147483648), 2147483647)), [(12, none, (0, 400)), (13, none, (1, 2147483647))], [])] : List aAl) := hal
  simp only [List.mem_cons, List.not_mem_nil, or_false] at hal
  rcases hal with rfl | rfl
  · refine Or.inl ?_
    obtain ⟨x, h1, hx1, hx2⟩ := h1
    have f12 := h2 _ List.mem_cons_self
    have f13 := h2 _ (List.mem_cons_of_mem _ List.mem_cons_self)
    exact ⟨x, (I' 12), (I' 13), h1, hx1, hx2, (hIl h3 (h6 rfl)), f12.1 _ rfl, f12.2.1, f12.2.2, f13.1 _ rfl, f13.2.1, f13.2.2, h5 rfl⟩
  · refine Or.inr (?_)
    obtain ⟨x, h1, hx1, hx2⟩ := h1
    have f12 := h2 _ List.mem_cons_self
    have f13 := h2 _ (List.mem_cons_of_mem _ List.mem_cons_self)
    exact ⟨x, (I' 12), (I' 13), h1, hx1, hx2, (hIl h3 (h6 rfl)), f12.2.1, f12.2.2, f13.2.1, f13.2.2, h5 rfl⟩
theorem zq_231 {as : List zV} {I I' : zI} {r : Option zV} (h : aPost zInv zc_231 as I r I') : (r = none ∧ I = I') := by
  obtain ⟨⟨al, hal, h1, h2, h3, h4⟩, h5, h6⟩ := h
  have hal : al ∈ ([(none, [], [])] : List aAl) := hal
  simp only [List.mem_cons, List.not_mem_nil, or_false] at hal
  rcases hal with rfl
  · refine ?_
    have h1 : r = none := h1
    exact ⟨h1, (hIl h3 (h6 rfl)).symm⟩
theorem zq_240 {as : List zV} {I I' : zI} {r : Option zV} (h : aPost zInv zc_240 as I r I') : (∃ (x : Int32), r = some (.inl x) ∧ 0 ≤ x.toInt ∧ x.toInt ≤ 0 ∧ I = I') ∨ (∃ (x : Int32), r = some (.inl x) ∧ 1 ≤ x.toInt ∧ x.toInt ≤ 1 ∧ I = I' ∧ (∀ y : Int32, as[0]? = some (.inl y) → 9 ≤ y.toInt ∧ y.toInt ≤ 32)) := by
  obtain ⟨⟨al, hal, h1, h2, h3, h4⟩, h5, h6⟩ := h
  have hal : al ∈ ([(some (.inl (0, 0)), [], []), (some (.inl (1, 1)), [], [(0, (9, 32))])] : List aAl) := hal
  simp only [List.mem_cons, List.not_mem_nil, or_false] at hal
  rcases hal with rfl | rfl
  · refine Or.inl ?_
    obtain ⟨x, h1, hx1, hx2⟩ := h1
    exact ⟨x, h1, hx1, hx2, (hIl h3 (h6 rfl)).symm⟩
  · refine Or.inr (?_)
    obtain ⟨x, h1, hx1, hx2⟩ := h1
    have g0 := h4 _ List.mem_cons_self
    exact ⟨x, h1, hx1, hx2, (hIl h3 (h6 rfl)).symm, (fun y hy => by obtain ⟨z, e1, e2, e3⟩ := g0; cases (e1.symm.trans hy : some (Sum.inl z) = some (Sum.inl y)); exact ⟨e2, e3⟩)⟩
theorem zq_241 {as : List zV} {I I' : zI} {r : Option zV} (h : aPost zInv zc_241 as I r I') : (∃ (x : Int32), r = some (.inl x) ∧ 0 ≤ x.toInt ∧ x.toInt ≤ 0 ∧ I = I') ∨ (∃ (x : Int32), r = some (.inl x) ∧ 1 ≤ x.toInt ∧ x.toInt ≤ 1 ∧ I = I' ∧ (∀ y : Int32, as[0]? = some (.inl y) → 48 ≤ y.toInt ∧ y.toInt ≤ 57)) := by
  obtain ⟨⟨al, hal, h1, h2, h3, h4⟩, h5, h6⟩ := h
  have hal : al ∈ ([(some (.inl (0, 0)), [], []), (some (.inl (1, 1)), [], [(0, (48, 57))])] : List aAl) := hal
  simp only [List.mem_cons, List.not_mem_nil, or_false] at hal
  rcases hal with rfl | rfl
  · refine Or.inl ?_
    obtain ⟨x, h1, hx1, hx2⟩ := h1
    exact ⟨x, h1, hx1, hx2, (hIl h3 (h6 rfl)).symm⟩
  · refine Or.inr (?_)
    obtain ⟨x, h1, hx1, hx2⟩ := h1
    have g0 := h4 _ List.mem_cons_self
    exact ⟨x, h1, hx1, hx2, (hIl h3 (h6 rfl)).symm, (fun y hy => by obtain ⟨z, e1, e2, e3⟩ := g0; cases (e1.symm.trans hy : some (Sum.inl z) = some (Sum.inl y)); exact ⟨e2, e3⟩)⟩
theorem zq_242 {as : List zV} {I I' : zI} {r : Option zV} (h : aPost zInv zc_242 as I r I') : (∃ (x : Int32), r = some (.inl x) ∧ 0 ≤ x.toInt ∧ x.toInt ≤ 0 ∧ I = I') ∨ (∃ (x : Int32), r = some (.inl x) ∧ 1 ≤ x.toInt ∧ x.toInt ≤ 1 ∧ I = I' ∧ (∀ y : Int32, as[0]? = some (.inl y) → 97 ≤ y.toInt ∧ y.toInt ≤ 122)) := by
  obtain ⟨⟨al, hal, h1, h2, h3, h4⟩, h5, h6⟩ := h
  have hal : al ∈ ([(some (.inl (0, 0)), [], []), (some (.inl (1, 1)), [], [(0, (97, 122))])] : List aAl) := hal
  simp only [List.mem_cons, List.not_mem_nil, or_false] at hal
  rcases hal with rfl | rfl
  · refine Or.inl ?_
    obtain ⟨x, h1, hx1, hx2⟩ := h1
    exact ⟨x, h1, hx1, hx2, (hIl h3 (h6 rfl)).symm⟩
  · refine Or.inr (?_)
    obtain ⟨x, h1, hx1, hx2⟩ := h1
    have g0 := h4 _ List.mem_cons_self
    exact ⟨x, h1, hx1, hx2, (hIl h3 (h6 rfl)).symm, (fun y hy => by obtain ⟨z, e1, e2, e3⟩ := g0; cases (e1.symm.trans hy : some (Sum.inl z) = some (Sum.inl y)); exact ⟨e2, e3⟩)⟩
theorem zq_244 {as : List zV} {I I' : zI} {r : Option zV} (h : aPost zInv zc_244 as I r I') : (∃ (x : Int32), r = some (.inl x) ∧ 0 ≤ x.toInt ∧ x.toInt ≤ 0 ∧ I = I') ∨ (∃ (x : Int32), r = some (.inl x) ∧ 1 ≤ x.toInt ∧ x.toInt ≤ 1 ∧ I = I' ∧ (∀ y : Int32, as[0]? = some (.inl y) → 48 ≤ y.toInt ∧ y.toInt ≤ 57)) := by
  obtain ⟨⟨al, hal, h1, h2, h3, h4⟩, h5, h6⟩ := h
  have hal : al ∈ ([(some (.inl (0, 0)), [], []), (some (.inl (1, 1)), [], [(0, (48, 57))])] : List aAl) := hal
  simp only [List.mem_cons, List.not_mem_nil, or_false] at hal
  rcases hal with rfl | rfl
  · refine Or.inl ?_
    obtain ⟨x, h1, hx1, hx2⟩ := h1
    exact ⟨x, h1, hx1, hx2, (hIl h3 (h6 rfl)).symm⟩
  · refine Or.inr (?_)
    obtain ⟨x, h1, hx1, hx2⟩ := h1
    have g0 := h4 _ List.mem_cons_self
    exact ⟨x, h1, hx1, hx2, (hIl h3 (h6 rfl)).symm, (fun y hy => by obtain ⟨z, e1, e2, e3⟩ := g0; cases (e1.symm.trans hy : some (Sum.inl z) = some (Sum.inl y)); exact ⟨e2, e3⟩)⟩
theorem zq_245 {as : List zV} {I I' : zI} {r : Option zV} (h : aPost zInv zc_245 as I r I') : (∃ (x : Int32), r = some (.inl x) ∧ 0 ≤ x.toInt ∧ x.toInt ≤ 0 ∧ I = I') ∨ (∃ (x : Int32), r = some (.inl x) ∧ 1 ≤ x.toInt ∧ x.toInt ≤ 1 ∧ I = I' ∧ (∀ y : Int32, as[0]? = some (.inl y) → 97 ≤ y.toInt ∧ y.toInt ≤ 122)) := by
  obtain ⟨⟨al, hal, h1, h2, h3, h4⟩, h5, h6⟩ := h
  have hal : al ∈ ([(some (.inl (0, 0)), [], []), (some (.inl (1, 1)), [], [(0, (97, 122))])] : List aAl) := hal
  simp only [List.mem_cons, List.not_mem_nil, or_false] at hal
  rcases hal with rfl | rfl
  · refine Or.inl ?_
    obtain ⟨x, h1, hx1, hx2⟩ := h1
    exact ⟨x, h1, hx1, hx2, (hIl h3 (h6 rfl)).symm⟩
  · refine Or.inr (?_)
    obtain ⟨x, h1, hx1, hx2⟩ := h1
    have g0 := h4 _ List.mem_cons_self
    exact ⟨x, h1, hx1, hx2, (hIl h3 (h6 rfl)).symm, (fun y hy => by obtain ⟨z, e1, e2, e3⟩ := g0; cases (e1.symm.trans hy : some (Sum.inl z) = some (Sum.inl y)); exact ⟨e2, e3⟩)⟩
theorem zq_279 {as : List zV} {I I' : zI} {r : Option zV} (h : aPost zInv zc_279 as I r I') : (∃ (x : Int32), r = some (.inl x) ∧ 0 ≤ x.toInt ∧ x.toInt ≤ 0 ∧ I = I') ∨ (∃ (x : Int32), r = some (.inl x) ∧ 1 ≤ x.toInt ∧ x.toInt ≤ 1 ∧ I = I' ∧ (∀ y : Int32, as[0]? = some (.inl y) → 0 ≤ y.toInt ∧ y.toInt ≤ 2)) := by
  obtain ⟨⟨al, hal, h1, h2, h3, h4⟩, h5, h6⟩ := h
  have hal : al ∈ ([(some (.inl (0, 0)), [], []), (some (.inl (1, 1)), [], [(0, (0, 2))])] : List aAl) := hal
  simp only [List.mem_cons, List.not_mem_nil, or_false] at hal
  rcases hal with rfl | rfl
  · refine Or.inl ?_
    obtain ⟨x, h1, hx1, hx2⟩ := h1
    exact ⟨x, h1, hx1, hx2, (hIl h3 (h6 rfl)).symm⟩
  · refine Or.inr (?_)
    obtain ⟨x, h1, hx1, hx2⟩ := h1
    have g0 := h4 _ List.mem_cons_self
    exact ⟨x, h1, hx1, hx2, (hIl h3 (h6 rfl)).symm, (fun y hy => by obtain ⟨z, e1, e2, e3⟩ := g0; cases (e1.symm.trans hy : some (Sum.inl z) = some (Sum.inl y)); exact ⟨e2, e3⟩)⟩
