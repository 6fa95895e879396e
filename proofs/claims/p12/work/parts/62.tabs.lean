/-! ===== THE TABLES: kinds of cells, what they are, what their elements are ===== -/
noncomputable def zknT : Nat → Option Nat := bn 59 (bn 29 (bn 14 (bn 7 (bn 3 (bn 1 (bl 0 (0)) (bn 2 (bl 1 (1)) (bl 2 (2)))) (bn 5 (bn 4 (bl 3 (3)) (bl 4 (4))) (bn 6 (bl 5 (5)) (bl 6 (6))))) (bn 10 (bn 8 (bl 7 (7)) (bn 9 (bl 8 (8)) (bl 9 (9)))) (bn 12 (bn 11 (bl 10 (10)) (bl 11 (11))) (bn 13 (bl 12 (12)) (bl 13 (13)))))) (bn 21 (bn 17 (bn 15 (bl 14 (14)) (bn 16 (bl 15 (15)) (bl 16 (16)))) (bn 19 (bn 18 (bl 17 (17)) (bl 18 (18))) (bn 20 (bl 19 (19)) (bl 20 (20))))) (bn 25 (bn 23 (bn 22 (bl 21 (21)) (bl 22 (22))) (bn 24 (bl 23 (23)) (bl 24 (24)))) (bn 27 (bn 26 (bl 25 (25)) (bl 26 (26))) (bn 28 (bl 27 (27)) (bl 28 (1000))))))) (bn 44 (bn 36 (bn 32 (bn 30 (bl 29 (1001)) (bn 31 (bl 30 (1002)) (bl 31 (1003)))) (bn 34 (bn 33 (bl 32 (1004)) (bl 33 (1005))) (bn 35 (bl 34 (1000)) (bl 35 (1001))))) (bn 40 (bn 38 (bn 37 (bl 36 (1002)) (bl 37 (1003))) (bn 39 (bl 38 (1004)) (bl 39 (1005)))) (bn 42 (bn 41 (bl 40 (40)) (bl 41 (41))) (bn 43 (bl 42 (42)) (bl 43 (43)))))) (bn 51 (bn 47 (bn 45 (bl 44 (44)) (bn 46 (bl 45 (45)) (bl 46 (46)))) (bn 49 (bn 48 (bl 47 (47)) (bl 48 (48))) (bn 50 (bl 49 (49)) (bl 50 (50))))) (bn 55 (bn 53 (bn 52 (bl 51 (51)) (bl 52 (2000))) (bn 54 (bl 53 (2001)) (bl 54 (2002)))) (bn 57 (bn 56 (bl 55 (2003)) (bl 56 (2004))) (bn 58 (bl 57 (2005)) (bl 58 (2006)))))))) (bn 89 (bn 74 (bn 66 (bn 62 (bn 60 (bl 59 (59)) (bn 61 (bl 60 (1000)) (bl 61 (1001)))) (bn 64 (bn 63 (bl 62 (1002)) (bl 63 (1003))) (bn 65 (bl 64 (1004)) (bl 65 (1005))))) (bn 70 (bn 68 (bn 67 (bl 66 (66)) (bl 67 (2000))) (bn 69 (bl 68 (2001)) (bl 69 (2002)))) (bn 72 (bn 71 (bl 70 (2003)) (bl 71 (2004))) (bn 73 (bl 72 (2005)) (bl 73 (2006)))))) (bn 81 (bn 77 (bn 75 (bl 74 (74)) (bn 76 (bl 75 (75)) (bl 76 (76)))) (bn 79 (bn 78 (bl 77 (77)) (bl 78 (78))) (bn 80 (bl 79 (79)) (bl 80 (80))))) (bn 85 (bn 83 (bn 82 (bl 81 (81)) (bl 82 (82))) (bn 84 (bl 83 (83)) (bl 84 (84)))) (bn 87 (bn 86 (bl 85 (85)) (bl 86 (86))) (bn 88 (bl 87 (87)) (bl 88 (88))))))) (bn 104 (bn 96 (bn 92 (bn 90 (bl 89 (89)) (bn 91 (bl 90 (90)) (bl 91 (91)))) (bn 94 (bn 93 (bl 92 (92)) (bl 93 (93))) (bn 95 (bl 94 (94)) (bl 95 (95))))) (bn 100 (bn 98 (bn 97 (bl 96 (96)) (bl 97 (97))) (bn 99 (bl 98 (98)) (bl 99 (99)))) (bn 102 (bn 101 (bl 100 (100)) (bl 101 (101))) (bn 103 (bl 102 (102)) (bl 103 (103)))))) (bn 111 (bn 107 (bn 105 (bl 104 (104)) (bn 106 (bl 105 (105)) (bl 106 (106)))) (bn 109 (bn 108 (bl 107 (107)) (bl 108 (108))) (bn 110 (bl 109 (109)) (bl 110 (110))))) (bn 115 (bn 113 (bn 112 (bl 111 (111)) (bl 112 (112))) (bn 114 (bl 113 (113)) (bl 114 (114)))) (bn 117 (bn 116 (bl 115 (115)) (bl 116 (116))) (bn 118 (bl 117 (117)) (bl 118 (118))))))))
noncomputable def zkn (k : Nat) : Nat := match zknT k with
  | some v => v
  | none => 1000 + (k - 119) % 6
noncomputable def zdsT : Nat → Option zD := bn 82 (bn 25 (bn 12 (bn 6 (bn 3 (bn 1 (bl 0 (.inl (11, [(2, 2), (2, 28), (2, 34), (2, 51), (2, 52), (2, 48), (0, 1), (2, 1), (2, 40), (1, 0), (2, 12), (2, 42), (2, 43), (2, 44), (2, 59), (2, 74)]))) (bn 2 (bl 1 (.inr (1, 2000))) (bl 2 (.inl (6, [(1, 1), (1, 2), (1, 0), (1, 0), (1, 0), (2, 3), (2, 4), (2, 5), (2, 6), (2, 7), (2, 8), (2, 9), (2, 10), (2, 11), (1, 3)]))))) (bn 4 (bl 3 (.inr (0, 40))) (bn 5 (bl 4 (.inr (0, 7))) (bl 5 (.inr (0, 7)))))) (bn 9 (bn 7 (bl 6 (.inr (0, 7))) (bn 8 (bl 7 (.inr (0, 56))) (bl 8 (.inr (0, 56))))) (bn 10 (bl 9 (.inr (0, 4))) (bn 11 (bl 10 (.inr (0, 408))) (bl 11 (.inr (0, 408))))))) (bn 18 (bn 15 (bn 13 (bl 12 (.inl (2, [(2, 13), (2, 23), (2, 1), (0, 2), (1, 0), (1, 0), (1, 0), (1, 0), (2, 27), (0, 3)]))) (bn 14 (bl 13 (.inl (6, [(0, 5), (0, 6), (1, 0), (1, 0), (1, 0), (2, 14), (2, 15), (2, 16), (2, 17), (2, 18), (2, 19), (2, 20), (2, 21), (2, 22), (0, 4)]))) (bl 14 (.inr (0, 40))))) (bn 16 (bl 15 (.inr (0, 7))) (bn 17 (bl 16 (.inr (0, 7))) (bl 17 (.inr (0, 7)))))) (bn 21 (bn 19 (bl 18 (.inr (0, 56))) (bn 20 (bl 19 (.inr (0, 56))) (bl 20 (.inr (0, 4))))) (bn 23 (bn 22 (bl 21 (.inr (0, 408))) (bl 22 (.inr (0, 408)))) (bn 24 (bl 23 (.inl (7, [(2, 24), (2, 25), (2, 26)]))) (bl 24 (.inr (0, 401)))))))) (bn 49 (bn 43 (bn 40 (bn 26 (bl 25 (.inr (0, 401))) (bn 27 (bl 26 (.inr (0, 401))) (bl 27 (.inr (0, 12))))) (bn 41 (bl 40 (.inl (0, [(2, 41), (0, 8), (0, 9)]))) (bn 42 (bl 41 (.inr (4, 30))) (bl 42 (.inr (4, 3)))))) (bn 46 (bn 44 (bl 43 (.inr (2, 3))) (bn 45 (bl 44 (.inl (5, [(2, 45), (2, 46), (2, 47), (0, 7)]))) (bl 45 (.inr (0, 20))))) (bn 47 (bl 46 (.inr (0, 20))) (bn 48 (bl 47 (.inr (2, 20))) (bl 48 (.inl (1, [(2, 2), (2, 49), (2, 50)]))))))) (bn 75 (bn 59 (bn 50 (bl 49 (.inr (0, 9))) (bn 51 (bl 50 (.inr (0, 16))) (bl 51 (.inl (4, [(2, 2), (2, 48)]))))) (bn 66 (bl 59 (.inl (10, [(2, 2), (2, 48), (2, 51), (2, 52), (2, 67), (2, 60), (1, 0), (1, 0), (2, 66)]))) (bn 74 (bl 66 (.inr (0, 7))) (bl 74 (.inl (9, [(2, 2), (1, 0), (1, 0)])))))) (bn 78 (bn 76 (bl 75 (.inl (12, [(2, 108), (2, 107), (0, 22), (2, 84), (2, 86), (2, 93), (1, 0), (1, 4), (1, 0), (2, 92), (0, 20), (2, 112), (0, 10), (2, 76), (2, 111), (2, 110), (1, 0), (2, 77), (0, 24), (2, 78), (2, 79), (2, 80), (2, 81), (2, 82), (0, 11), (0, 12), (0, 14), (0, 13), (1, 0), (1, 0), (1, 0), (1, 0), (0, 23), (0, 15), (2, 83), (2, 85), (2, 87), (2, 88), (2, 89), (2, 90), (2, 91), (2, 94), (2, 95), (0, 16), (2, 96), (2, 97), (2, 98), (2, 99), (2, 100), (0, 17), (2, 101), (2, 102), (2, 103), (0, 19), (2, 104), (0, 18), (2, 105), (2, 106), (1, 4), (1, 0), (2, 109), (2, 113), (1, 0), (1, 0), (0, 21), (2, 114), (2, 115), (2, 116), (2, 117), (2, 118)]))) (bn 77 (bl 76 (.inr (1, 2000))) (bl 77 (.inr (1, 2000))))) (bn 80 (bn 79 (bl 78 (.inr (0, 403))) (bl 79 (.inr (0, 403)))) (bn 81 (bl 80 (.inr (0, 403))) (bl 81 (.inr (3, 403))))))))) (bn 107 (bn 94 (bn 88 (bn 85 (bn 83 (bl 82 (.inr (3, 21))) (bn 84 (bl 83 (.inr (3, 12))) (bl 84 (.inr (0, 2))))) (bn 86 (bl 85 (.inr (0, 80))) (bn 87 (bl 86 (.inr (0, 2))) (bl 87 (.inr (0, 14)))))) (bn 91 (bn 89 (bl 88 (.inr (0, 112))) (bn 90 (bl 89 (.inr (0, 14))) (bl 90 (.inr (0, 14))))) (bn 92 (bl 91 (.inr (0, 2))) (bn 93 (bl 92 (.inr (0, 2))) (bl 93 (.inr (0, 2))))))) (bn 100 (bn 97 (bn 95 (bl 94 (.inr (0, 8))) (bn 96 (bl 95 (.inr (0, 8))) (bl 96 (.inr (2, 260))))) (bn 98 (bl 97 (.inr (0, 260))) (bn 99 (bl 98 (.inr (0, 260))) (bl 99 (.inr (0, 260)))))) (bn 103 (bn 101 (bl 100 (.inr (0, 260))) (bn 102 (bl 101 (.inr (0, 840))) (bl 102 (.inr (0, 840))))) (bn 105 (bn 104 (bl 103 (.inr (0, 8))) (bl 104 (.inr (0, 64)))) (bn 106 (bl 105 (.inr (0, 9))) (bl 106 (.inr (0, 400)))))))) (bn 1000 (bn 113 (bn 110 (bn 108 (bl 107 (.inr (0, 390))) (bn 109 (bl 108 (.inr (0, 390))) (bl 109 (.inr (2, 40))))) (bn 111 (bl 110 (.inr (0, 40))) (bn 112 (bl 111 (.inr (0, 7))) (bl 112 (.inr (0, 11700)))))) (bn 116 (bn 114 (bl 113 (.inr (0, 390))) (bn 115 (bl 114 (.inr (0, 20))) (bl 115 (.inr (0, 20))))) (bn 117 (bl 116 (.inr (2, 20))) (bn 118 (bl 117 (.inr (2, 3))) (bl 118 (.inr (0, 1170))))))) (bn 2000 (bn 1003 (bn 1001 (bl 1000 (.inl (8, [(3, 1001), (3, 1002), (3, 1003), (3, 1004), (3, 1005), (1, 0), (1, 0), (1, 0), (1, 0), (1, 0)]))) (bn 1002 (bl 1001 (.inr (0, 40))) (bl 1002 (.inr (0, 40))))) (bn 1004 (bl 1003 (.inr (0, 40))) (bn 1005 (bl 1004 (.inr (0, 200))) (bl 1005 (.inr (0, 56)))))) (bn 2003 (bn 2001 (bl 2000 (.inl (3, [(2, 2), (2, 48), (3, 2001), (3, 2002), (3, 2003), (1, 0), (1, 0), (1, 0), (1, 0), (3, 2004), (3, 2005), (3, 2006)]))) (bn 2002 (bl 2001 (.inr (0, 40))) (bl 2002 (.inr (0, 56))))) (bn 2005 (bn 2004 (bl 2003 (.inr (0, 7))) (bl 2004 (.inr (0, 280)))) (bn 2006 (bl 2005 (.inr (0, 280))) (bl 2006 (.inr (0, 56)))))))))
noncomputable def zds (k : Nat) : zD := match zdsT k with
  | some v => v
  | none => .inr (9, 0)
noncomputable def ztbT : Nat → Option Nat := bn 87 (bn 26 (bn 14 (bn 7 (bn 4 (bn 3 (bl 1 (1)) (bl 3 (0))) (bn 5 (bl 4 (0)) (bn 6 (bl 5 (0)) (bl 6 (3))))) (bn 9 (bn 8 (bl 7 (4)) (bl 8 (0))) (bn 10 (bl 9 (5)) (bn 11 (bl 10 (0)) (bl 11 (0)))))) (bn 19 (bn 16 (bn 15 (bl 14 (0)) (bl 15 (0))) (bn 17 (bl 16 (0)) (bn 18 (bl 17 (3)) (bl 18 (4))))) (bn 22 (bn 20 (bl 19 (0)) (bn 21 (bl 20 (5)) (bl 21 (0)))) (bn 24 (bl 22 (0)) (bn 25 (bl 24 (7)) (bl 25 (8))))))) (bn 76 (bn 45 (bn 41 (bn 27 (bl 26 (8)) (bl 27 (6))) (bn 42 (bl 41 (0)) (bn 43 (bl 42 (0)) (bl 43 (2))))) (bn 49 (bn 46 (bl 45 (4)) (bn 47 (bl 46 (0)) (bl 47 (2)))) (bn 50 (bl 49 (0)) (bn 66 (bl 50 (0)) (bl 66 (0)))))) (bn 81 (bn 78 (bn 77 (bl 76 (1)) (bl 77 (1))) (bn 79 (bl 78 (12)) (bn 80 (bl 79 (0)) (bl 80 (0))))) (bn 84 (bn 82 (bl 81 (0)) (bn 83 (bl 82 (0)) (bl 83 (0)))) (bn 85 (bl 84 (10)) (bn 86 (bl 85 (0)) (bl 86 (4)))))))) (bn 108 (bn 97 (bn 92 (bn 89 (bn 88 (bl 87 (3)) (bl 88 (4))) (bn 90 (bl 89 (0)) (bn 91 (bl 90 (0)) (bl 91 (0))))) (bn 94 (bn 93 (bl 92 (0)) (bl 93 (0))) (bn 95 (bl 94 (0)) (bn 96 (bl 95 (0)) (bl 96 (2)))))) (bn 102 (bn 99 (bn 98 (bl 97 (0)) (bl 98 (0))) (bn 100 (bl 99 (0)) (bn 101 (bl 100 (0)) (bl 101 (0))))) (bn 105 (bn 103 (bl 102 (0)) (bn 104 (bl 103 (0)) (bl 104 (0)))) (bn 106 (bl 105 (0)) (bn 107 (bl 106 (0)) (bl 107 (11))))))) (bn 1001 (bn 113 (bn 110 (bn 109 (bl 108 (11)) (bl 109 (2))) (bn 111 (bl 110 (0)) (bn 112 (bl 111 (0)) (bl 112 (11))))) (bn 116 (bn 114 (bl 113 (11)) (bn 115 (bl 114 (4)) (bl 115 (0)))) (bn 117 (bl 116 (2)) (bn 118 (bl 117 (2)) (bl 118 (11)))))) (bn 2001 (bn 1003 (bn 1002 (bl 1001 (0)) (bl 1002 (0))) (bn 1004 (bl 1003 (0)) (bn 1005 (bl 1004 (0)) (bl 1005 (9))))) (bn 2004 (bn 2002 (bl 2001 (0)) (bn 2003 (bl 2002 (9)) (bl 2003 (0)))) (bn 2005 (bl 2004 (9)) (bn 2006 (bl 2005 (0)) (bl 2006 (10))))))))
noncomputable def ztb (k : Nat) : Nat := match ztbT k with
  | some v => v
  | none => 0
noncomputable def ztaT : Nat → Option aTb := bn 6 (bn 3 (bn 1 (bl 0 ((65536, []))) (bn 2 (bl 1 ((65536, [(0, 65536, (-128), 127)]))) (bl 2 ((65536, [(0, 65536, 0, 1)]))))) (bn 4 (bl 3 ((65536, [(0, 65536, 0, 8)]))) (bn 5 (bl 4 ((65536, [(0, 65536, 0, 7)]))) (bl 5 ((65536, [(0, 65536, 0, 408)])))))) (bn 9 (bn 7 (bl 6 ((65536, [(0, 65536, 0, 400)]))) (bn 8 (bl 7 ((65536, [(0, 65536, 0, 148)]))) (bl 8 ((65536, [(0, 65536, 0, 2000)]))))) (bn 11 (bn 10 (bl 9 ((65536, [(0, 65536, 0, 4)]))) (bl 10 ((65536, [(0, 65536, 0, 5)])))) (bn 12 (bl 11 ((390, [(330, 385, (-1), 4)]))) (bl 12 ((65536, [(0, 65536, 0, 40)]))))))
noncomputable def zta (k : Nat) : aTb := match ztaT k with
  | some v => v
  | none => (65536, [])
noncomputable def zfvT : Nat → Option aQ := bn 2 (bn 1 (bl 0 (((-2147483648), 2147483647))) (bl 1 ((0, 5)))) (bn 3 (bl 2 ((0, 7))) (bn 4 (bl 3 ((0, 408))) (bl 4 ((0, 1)))))
noncomputable def zfv (k : Nat) : aQ := match zfvT k with
  | some v => v
  | none => (0, 0)
noncomputable def zvsT : Nat → Option Unit := bn 84 (bn 24 (bn 17 (bn 10 (bl 6 (())) (bn 11 (bl 10 (())) (bl 11 (())))) (bn 21 (bl 17 (())) (bn 22 (bl 21 (())) (bl 22 (()))))) (bn 42 (bn 25 (bl 24 (())) (bn 26 (bl 25 (())) (bl 26 (())))) (bn 77 (bl 42 (())) (bn 78 (bl 77 (())) (bl 78 (())))))) (bn 98 (bn 95 (bn 86 (bl 84 (())) (bn 94 (bl 86 (())) (bl 94 (())))) (bn 96 (bl 95 (())) (bn 97 (bl 96 (())) (bl 97 (()))))) (bn 101 (bn 99 (bl 98 (())) (bn 100 (bl 99 (())) (bl 100 (())))) (bn 103 (bn 102 (bl 101 (())) (bl 102 (()))) (bn 104 (bl 103 (())) (bl 104 (()))))))
noncomputable def zvs (k : Nat) : Bool := match zvsT k with
  | some _ => true
  | none => false
/-- a word of at most n letters as a number: its digits to the base 27 are 1 .. 26 -/
def zword : Nat → Int → Prop
  | 0, v => v = 0
  | n + 1, v => v = 0 ∨ ∃ w d : Int, zword n w ∧ 1 ≤ d ∧ d ≤ 26 ∧ v = 27 * w + d
noncomputable def zG0 : zG := (zkn, zds, fun kd i v => eOK (zta (ztb kd)) i v.toInt, fun iv v => (zfv iv).1 ≤ v.toInt ∧ v.toInt ≤ (zfv iv).2, fun kd _ v => kd = 81 → zword 8 v.toInt, zvs)
noncomputable def zT0 : aT := (ztb, zta, zfv)
theorem zTie : aTie zG0 zT0 := ⟨fun _ _ _ => Iff.rfl, fun _ _ => Iff.rfl⟩
def zow (id : Nat) : Nat × Nat := match id with
  | 1 => (0, 6)
  | 2 => (12, 3)
  | 3 => (12, 9)
  | 4 => (13, 14)
  | 5 => (13, 0)
  | 6 => (13, 1)
  | 7 => (44, 3)
  | 8 => (40, 1)
  | 9 => (40, 2)
  | 10 => (75, 12)
  | 11 => (75, 24)
  | 12 => (75, 25)
  | 13 => (75, 27)
  | 14 => (75, 26)
  | 15 => (75, 33)
  | 16 => (75, 43)
  | 17 => (75, 49)
  | 18 => (75, 55)
  | 19 => (75, 53)
  | 20 => (75, 10)
  | 21 => (75, 64)
  | 22 => (75, 2)
  | 23 => (75, 32)
  | 24 => (75, 18)
  | _ => (0, 0)
noncomputable def zdok (kd : Nat) (d : zD) : Bool := match d with
  | .inl (_, fts) => (List.range fts.length).all fun j => match fts[j]? with
    | some (0, id) => decide (zow id = (kd, j)) && (decide (id < 4096) && decide (kd < 1000))
    | _ => true
  | .inr (_, n) => decide (kd < 1000 → n ≤ 4096) || !zvs kd
set_option maxRecDepth 100000 in
theorem zds_ok : ∀ (kd : Nat) (d : zD), zdsT kd = some d → zdok kd d = true := (xB_n (xB_n (xB_n (xB_n (xB_n (xB_n (xB_l (by decide +kernel)) (xB_n (xB_l (by decide +kernel)) (xB_l (by decide +kernel)))) (xB_n (xB_l (by decide +kernel)) (xB_n (xB_l (by decide +kernel)) (xB_l (by decide +kernel))))) (xB_n (xB_n (xB_l (by decide +kernel)) (xB_n (xB_l (by decide +kernel)) (xB_l (by decide +kernel)))) (xB_n (xB_l (by decide +kernel)) (xB_n (xB_l (by decide +kernel)) (xB_l (by decide +kernel)))))) (xB_n (xB_n (xB_n (xB_l (by decide +kernel)) (xB_n (xB_l (by decide +kernel)) (xB_l (by decide +kernel)))) (xB_n (xB_l (by decide +kernel)) (xB_n (xB_l (by decide +kernel)) (xB_l (by decide +kernel))))) (xB_n (xB_n (xB_l (by decide +kernel)) (xB_n (xB_l (by decide +kernel)) (xB_l (by decide +kernel)))) (xB_n (xB_n (xB_l (by decide +kernel)) (xB_l (by decide +kernel))) (xB_n (xB_l (by decide +kernel)) (xB_l (by decide +kernel))))))) (xB_n (xB_n (xB_n (xB_n (xB_l (by decide +kernel)) (xB_n (xB_l (by decide +kernel)) (xB_l (by decide +kernel)))) (xB_n (xB_l (by decide +kernel)) (xB_n (xB_l (by decide +kernel)) (xB_l (by decide +kernel))))) (xB_n (xB_n (xB_l (by decide +kernel)) (xB_n (xB_l (by decide +kernel)) (xB_l (by decide +kernel)))) (xB_n (xB_l (by decide +kernel)) (xB_n (xB_l (by decide +kernel)) (xB_l (by decide +kernel)))))) (xB_n (xB_n (xB_n (xB_l (by decide +kernel)) (xB_n (xB_l (by decide +kernel)) (xB_l (by decide +kernel)))) (xB_n (xB_l (by decide +kernel)) (xB_n (xB_l (by decide +kernel)) (xB_l (by decide +kernel))))) (xB_n (xB_n (xB_l (by decide +kernel)) (xB_n (xB_l (by decide +kernel)) (xB_l (by decide +kernel)))) (xB_n (xB_n (xB_l (by decide +kernel)) (xB_l (by decide +kernel))) (xB_n (xB_l (by decide +kernel)) (xB_l (by decide +kernel)))))))) (xB_n (xB_n (xB_n (xB_n (xB_n (xB_l (by decide +kernel)) (xB_n (xB_l (by decide +kernel)) (xB_l (by decide +kernel)))) (xB_n (xB_l (by decide +kernel)) (xB_n (xB_l (by decide +kernel)) (xB_l (by decide +kernel))))) (xB_n (xB_n (xB_l (by decide +kernel)) (xB_n (xB_l (by decide +kernel)) (xB_l (by decide +kernel)))) (xB_n (xB_l (by decide +kernel)) (xB_n (xB_l (by decide +kernel)) (xB_l (by decide +kernel)))))) (xB_n (xB_n (xB_n (xB_l (by decide +kernel)) (xB_n (xB_l (by decide +kernel)) (xB_l (by decide +kernel)))) (xB_n (xB_l (by decide +kernel)) (xB_n (xB_l (by decide +kernel)) (xB_l (by decide +kernel))))) (xB_n (xB_n (xB_l (by decide +kernel)) (xB_n (xB_l (by decide +kernel)) (xB_l (by decide +kernel)))) (xB_n (xB_n (xB_l (by decide +kernel)) (xB_l (by decide +kernel))) (xB_n (xB_l (by decide +kernel)) (xB_l (by decide +kernel))))))) (xB_n (xB_n (xB_n (xB_n (xB_l (by decide +kernel)) (xB_n (xB_l (by decide +kernel)) (xB_l (by decide +kernel)))) (xB_n (xB_l (by decide +kernel)) (xB_n (xB_l (by decide +kernel)) (xB_l (by decide +kernel))))) (xB_n (xB_n (xB_l (by decide +kernel)) (xB_n (xB_l (by decide +kernel)) (xB_l (by decide +kernel)))) (xB_n (xB_l (by decide +kernel)) (xB_n (xB_l (by decide +kernel)) (xB_l (by decide +kernel)))))) (xB_n (xB_n (xB_n (xB_l (by decide +kernel)) (xB_n (xB_l (by decide +kernel)) (xB_l (by decide +kernel)))) (xB_n (xB_l (by decide +kernel)) (xB_n (xB_l (by decide +kernel)) (xB_l (by decide +kernel))))) (xB_n (xB_n (xB_l (by decide +kernel)) (xB_n (xB_l (by decide +kernel)) (xB_l (by decide +kernel)))) (xB_n (xB_n (xB_l (by decide +kernel)) (xB_l (by decide +kernel))) (xB_n (xB_l (by decide +kernel)) (xB_l (by decide +kernel)))))))))
set_option maxRecDepth 100000 in
theorem zkn_lo0 : ∀ (k v : Nat), zknT k = some v → (v < 1000 → v = k) := (xB_n (xB_n (xB_n (xB_n (xB_n (xB_n (xB_l (by decide)) (xB_n (xB_l (by decide)) (xB_l (by decide)))) (xB_n (xB_n (xB_l (by decide)) (xB_l (by decide))) (xB_n (xB_l (by decide)) (xB_l (by decide))))) (xB_n (xB_n (xB_l (by decide)) (xB_n (xB_l (by decide)) (xB_l (by decide)))) (xB_n (xB_n (xB_l (by decide)) (xB_l (by decide))) (xB_n (xB_l (by decide)) (xB_l (by decide)))))) (xB_n (xB_n (xB_n (xB_l (by decide)) (xB_n (xB_l (by decide)) (xB_l (by decide)))) (xB_n (xB_n (xB_l (by decide)) (xB_l (by decide))) (xB_n (xB_l (by decide)) (xB_l (by decide))))) (xB_n (xB_n (xB_n (xB_l (by decide)) (xB_l (by decide))) (xB_n (xB_l (by decide)) (xB_l (by decide)))) (xB_n (xB_n (xB_l (by decide)) (xB_l (by decide))) (xB_n (xB_l (by decide)) (xB_l (by decide))))))) (xB_n (xB_n (xB_n (xB_n (xB_l (by decide)) (xB_n (xB_l (by decide)) (xB_l (by decide)))) (xB_n (xB_n (xB_l (by decide)) (xB_l (by decide))) (xB_n (xB_l (by decide)) (xB_l (by decide))))) (xB_n (xB_n (xB_n (xB_l (by decide)) (xB_l (by decide))) (xB_n (xB_l (by decide)) (xB_l (by decide)))) (xB_n (xB_n (xB_l (by decide)) (xB_l (by decide))) (xB_n (xB_l (by decide)) (xB_l (by decide)))))) (xB_n (xB_n (xB_n (xB_l (by decide)) (xB_n (xB_l (by decide)) (xB_l (by decide)))) (xB_n (xB_n (xB_l (by decide)) (xB_l (by decide))) (xB_n (xB_l (by decide)) (xB_l (by decide))))) (xB_n (xB_n (xB_n (xB_l (by decide)) (xB_l (by decide))) (xB_n (xB_l (by decide)) (xB_l (by decide)))) (xB_n (xB_n (xB_l (by decide)) (xB_l (by decide))) (xB_n (xB_l (by decide)) (xB_l (by decide)))))))) (xB_n (xB_n (xB_n (xB_n (xB_n (xB_l (by decide)) (xB_n (xB_l (by decide)) (xB_l (by decide)))) (xB_n (xB_n (xB_l (by decide)) (xB_l (by decide))) (xB_n (xB_l (by decide)) (xB_l (by decide))))) (xB_n (xB_n (xB_n (xB_l (by decide)) (xB_l (by decide))) (xB_n (xB_l (by decide)) (xB_l (by decide)))) (xB_n (xB_n (xB_l (by decide)) (xB_l (by decide))) (xB_n (xB_l (by decide)) (xB_l (by decide)))))) (xB_n (xB_n (xB_n (xB_l (by decide)) (xB_n (xB_l (by decide)) (xB_l (by decide)))) (xB_n (xB_n (xB_l (by decide)) (xB_l (by decide))) (xB_n (xB_l (by decide)) (xB_l (by decide))))) (xB_n (xB_n (xB_n (xB_l (by decide)) (xB_l (by decide))) (xB_n (xB_l (by decide)) (xB_l (by decide)))) (xB_n (xB_n (xB_l (by decide)) (xB_l (by decide))) (xB_n (xB_l (by decide)) (xB_l (by decide))))))) (xB_n (xB_n (xB_n (xB_n (xB_l (by decide)) (xB_n (xB_l (by decide)) (xB_l (by decide)))) (xB_n (xB_n (xB_l (by decide)) (xB_l (by decide))) (xB_n (xB_l (by decide)) (xB_l (by decide))))) (xB_n (xB_n (xB_n (xB_l (by decide)) (xB_l (by decide))) (xB_n (xB_l (by decide)) (xB_l (by decide)))) (xB_n (xB_n (xB_l (by decide)) (xB_l (by decide))) (xB_n (xB_l (by decide)) (xB_l (by decide)))))) (xB_n (xB_n (xB_n (xB_l (by decide)) (xB_n (xB_l (by decide)) (xB_l (by decide)))) (xB_n (xB_n (xB_l (by decide)) (xB_l (by decide))) (xB_n (xB_l (by decide)) (xB_l (by decide))))) (xB_n (xB_n (xB_n (xB_l (by decide)) (xB_l (by decide))) (xB_n (xB_l (by decide)) (xB_l (by decide)))) (xB_n (xB_n (xB_l (by decide)) (xB_l (by decide))) (xB_n (xB_l (by decide)) (xB_l (by decide)))))))))
theorem zkn_lo {k : Nat} (h : zkn k < 1000) : zkn k = k := by
  unfold zkn at h ⊢
  split at h
  · rename_i v hv
    exact zkn_lo0 k v hv h
  · omega
set_option maxRecDepth 100000 in
theorem zvs_lo0 : ∀ (k : Nat) (u : Unit), zvsT k = some u → k < 1000 := (xB_n (xB_n (xB_n (xB_n (xB_l (by decide)) (xB_n (xB_l (by decide)) (xB_l (by decide)))) (xB_n (xB_l (by decide)) (xB_n (xB_l (by decide)) (xB_l (by decide))))) (xB_n (xB_n (xB_l (by decide)) (xB_n (xB_l (by decide)) (xB_l (by decide)))) (xB_n (xB_l (by decide)) (xB_n (xB_l (by decide)) (xB_l (by decide)))))) (xB_n (xB_n (xB_n (xB_l (by decide)) (xB_n (xB_l (by decide)) (xB_l (by decide)))) (xB_n (xB_l (by decide)) (xB_n (xB_l (by decide)) (xB_l (by decide))))) (xB_n (xB_n (xB_l (by decide)) (xB_n (xB_l (by decide)) (xB_l (by decide)))) (xB_n (xB_n (xB_l (by decide)) (xB_l (by decide))) (xB_n (xB_l (by decide)) (xB_l (by decide)))))))
theorem zvs_lo {k : Nat} (h : zvs k = true) : k < 1000 := by
  unfold zvs at h
  split at h
  · rename_i u hu
    exact zvs_lo0 k u hu
  · cases h
theorem zds_at {kd c j id : Nat} {fts : List zT} (h : zds kd = .inl (c, fts)) (hj : fts[j]? = some (0, id)) : zow id = (kd, j) ∧ id < 4096 ∧ kd < 1000 := by
  unfold zds at h
  split at h
  · rename_i d hd
    subst h
    have h1 := zds_ok kd _ hd
    unfold zdok at h1
    have hl := (List.getElem?_eq_some_iff.mp hj).1
    have h2 := List.all_eq_true.mp h1 j (List.mem_range.mpr hl)
    rw [hj] at h2
    simp only [Bool.and_eq_true, decide_eq_true_eq] at h2
    exact ⟨h2.1, h2.2.1, h2.2.2⟩
  · cases h
theorem zInj0 : zInj zG0 := by
  refine ⟨?_, ?_, ?_, ?_⟩
  · intro k k' c c' j j' id fts fts' h1 h2 h3 h4
    obtain ⟨a1, a2, a3⟩ := zds_at h1 h3
    obtain ⟨b1, b2, b3⟩ := zds_at h2 h4
    have e1 := zkn_lo a3
    have e2 := zkn_lo b3
    have e : (zkn k, j) = (zkn k', j') := a1.symm.trans b1
    have e3 : zkn k = zkn k' := congrArg Prod.fst e
    exact ⟨by omega, congrArg Prod.snd e⟩
  · intro k c j id fts h1 h3
    exact (zds_at h1 h3).2.1
  · intro k k' h1 h2
    have l := zvs_lo (k := zkn k) h1
    have h2 : zkn k = zkn k' := h2
    have e1 := zkn_lo l
    have e2 := zkn_lo (k := k') (by omega)
    omega
  · intro k t n h1 h2
    have l := zvs_lo (k := zkn k) h1
    have h2 : zds (zkn k) = .inr (t, n) := h2
    have h1 : zvs (zkn k) = true := h1
    unfold zds at h2
    split at h2
    · rename_i d hd
      subst h2
      have h3 := zds_ok _ _ hd
      unfold zdok at h3
      rw [h1] at h3
      simp only [Bool.not_true, Bool.or_false, decide_eq_true_eq] at h3
      exact h3 l
    · cases h2
      omega
/-! ===== WHAT HOLDS OF THE KNOWN ARRAYS ===== -/
/-- a good text for the pile: m steps from a on leave D numbers on it -/
def zpx (V : Nat → Nat → Int32) (a : Nat) : Nat → Nat → Prop
  | 0, D => D = 0
  | m + 1, D => (((V 101 (a + m)).toInt = 0 ∨ ((V 101 (a + m)).toInt = 1 ∧ 0 ≤ (V 102 (a + m)).toInt ∧ (V 102 (a + m)).toInt ≤ 8)) ∧ 1 ≤ D ∧ zpx V a m (D - 1)) ∨ (2 ≤ (V 101 (a + m)).toInt ∧ (V 101 (a + m)).toInt ≤ 5 ∧ 1 ≤ D ∧ zpx V a m (D + 1))
def zpr (V : Nat → Nat → Int32) (h : Int) (a b : Int32) : Prop := h ≤ a.toInt ∧ a.toInt ≤ b.toInt ∧ b.toInt ≤ h + 420 ∧ b.toInt - a.toInt ≤ 400 ∧ zpx V a.toInt.toNat (b.toInt - a.toInt).toNat 1
def zbr (V : Nat → Nat → Int32) (s : Int) (b : Nat) : Prop := (130 * s ≤ (b : Int) ∧ (b : Int) < 130 * s + 130) ∧ (V 96 b ≠ 0 → zpr V (420 * s) (V 97 b) (V 98 b) ∧ zpr V (420 * s) (V 98 b) (V 99 b)) ∧ zpr V (420 * s) (V 99 b) (V 100 b)
def zlaws (V : Nat → Nat → Int32) (live : Int32) : Prop := (0 ≤ live.toInt ∧ live.toInt ≤ 1) ∧ ∀ k : Nat, k < 4 → 0 ≤ (V 94 (4 * live.toInt.toNat + k)).toInt ∧ ∀ b : Nat, (V 94 (4 * live.toInt.toNat + k)).toInt ≤ (b : Int) → (b : Int) < (V 95 (4 * live.toInt.toNat + k)).toInt → zbr V live.toInt b
/-- the class's steps: what a step takes from the variables is one of them -/
def zstp (V : Nat → Nat → Int32) (s o : Nat) : Prop := ∀ c : Nat, c < 408 → V s c = 1 → 0 ≤ (V o c).toInt ∧ (V o c).toInt ≤ 8
def ztok (V : Nat → Nat → Int32) : Prop := ∀ t : Nat, t < 401 → (V 25 t).toInt + (V 26 t).toInt ≤ 2000 ∧ (V 24 t = 2 → (V 26 t).toInt ≤ 8)
def zInvV (V : Nat → Nat → Int32) (live : Int32) : Prop := (∀ kd i t len : Nat, zvs kd = true → zds kd = .inr (t, len) → i < len → eOK (zta (ztb kd)) i (V kd i).toInt) ∧ zstp V 10 11 ∧ zstp V 21 22 ∧ ztok V ∧ zlaws V live
def zInv (I : zI) : Prop := zInvV (fun kd i => I (zid kd i)) (I 22)
def zprot (id : Nat) : Bool := Nat.beq id 22 || Nat.ble 4096 id
theorem zext (I I' : zI) (h : ∀ id, (4096 ≤ id ∨ zprot id = true) → I' id = I id) (hI : zInv I) : zInv I' := by
  have e : (fun kd i => I' (zid kd i)) = (fun kd i => I (zid kd i)) := by
    funext kd i
    exact h _ (Or.inl (by unfold zid; omega))
  unfold zInv
  rw [e, h 22 (Or.inr rfl)]
  exact hI
theorem zprot_lo {id : Nat} (h : zprot id = false) : id < 4096 := by
  unfold zprot at h
  simp only [Bool.or_eq_false_iff] at h
  apply Classical.byContradiction
  intro hn
  have : Nat.ble 4096 id = true := Nat.ble_eq_true_of_le (by omega)
  rw [this] at h
  exact absurd h.2 (by decide)
theorem zextp (I : zI) (id : Nat) (v : Int32) (hp : zprot id = false) (_ : id < 4096) (hI : zInv I) : zInv (zupd I id v) := by
  refine zext I _ (fun i hi => ?_) hI
  have hne : i ≠ id := by
    intro e
    subst e
    rcases hi with h | h
    · have := zprot_lo hp; omega
    · rw [hp] at h; cases h
  simp only [zupd, if_neg hne]
theorem zvisE (I : zI) (hI : zInv I) (kd i t len : Nat) (h : zG0.2.2.2.2.2 kd = true) (h1 : zG0.2.1 kd = .inr (t, len)) (h2 : i < len) : eOK (zT0.2.1 (zT0.1 kd)) i (I (zid kd i)).toInt := hI.1 kd i t len h h1 h2
