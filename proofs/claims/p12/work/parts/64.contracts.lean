/-! ===== THE METHODS BY COMPUTATION: what the printed rows use ===== -/
theorem ztsw {pc : Nat} {offs : Array Int} {ts : List Nat} (hl : offs.size = ts.length) (h : (List.range ts.length).all (fun i => decide ((pc : Int) + offs.getD i 0 = ((ts.getD i 0 : Nat) : Int))) = true) : ∀ (i t : Nat), ts[i]? = some t → ∃ off, offs[i]? = some off ∧ (pc : Int) + off = (t : Int) := fun i t hi => xTsw hl h i t (by rw [xget_eq]; exact hi)
theorem zlsw0 {pc : Nat} : ∀ {ps : List (Int × Int)} {ts : List (Int × Nat)}, (ps.zip ts).all (fun q => decide (q.1.1 = q.2.1 ∧ (pc : Int) + q.1.2 = (q.2.2 : Int))) = true → ∀ (i : Nat) (q : Int × Int) (t : Int × Nat), ps[i]? = some q → ts[i]? = some t → q.1 = t.1 ∧ (pc : Int) + q.2 = (t.2 : Int)
  | [], ts, _, i, q, t, h1, h2 => by simp at h1
  | _ :: _, [], _, i, q, t, h1, h2 => by simp at h2
  | p :: ps, u :: ts, h, i, q, t, h1, h2 => by
    simp only [List.zip_cons_cons, List.all_cons, Bool.and_eq_true, decide_eq_true_eq] at h
    cases i with
    | zero =>
      simp at h1 h2
      subst h1
      subst h2
      exact h.1
    | succ i => exact zlsw0 (ps := ps) (ts := ts) h.2 i q t (by simpa using h1) (by simpa using h2)
theorem zlsw {pc : Nat} {ps : Array (Int × Int)} {ts : List (Int × Nat)} (h : (ps.toList.zip ts).all (fun q => decide (q.1.1 = q.2.1 ∧ (pc : Int) + q.1.2 = (q.2.2 : Int))) = true) : ∀ (i : Nat) (q : Int × Int) (t : Int × Nat), ps.toList[i]? = some q → ts[i]? = some t → q.1 = t.1 ∧ (pc : Int) + q.2 = (t.2 : Int) := zlsw0 h
theorem ag_puti0 {fl : Bool × Bool} {ci j n : Nat} : aSnd zG0 zT0 zInv fl (z_puti zG0 ci j 0 n) (a_puti zG0 zT0 zprot ci j 0 n) := as_puti zTie zInj0 zextp (fun _ h => zprot_lo h) (Or.inl rfl)
theorem ag_puti1 {fl : Bool × Bool} {ci j n : Nat} : aSnd zG0 zT0 zInv fl (z_puti zG0 ci j 1 n) (a_puti zG0 zT0 zprot ci j 1 n) := as_puti zTie zInj0 zextp (fun _ h => zprot_lo h) (Or.inr rfl)
theorem ag_iald {fl : Bool × Bool} {n : Nat} : aSnd zG0 zT0 zInv fl (z_iald zG0 n) (a_ald zG0 zT0 fl ts0 n) := as_iald zTie (fun _ I hI kd i t len h h1 h2 => zvisE I hI kd i t len h h1 h2)
theorem ag_bald {fl : Bool × Bool} {n : Nat} : aSnd zG0 zT0 zInv fl (z_bald zG0 n) (a_ald zG0 zT0 fl ts12 n) := as_bald zTie (fun _ I hI kd i t len h h1 h2 => zvisE I hI kd i t len h h1 h2)
def zLe (dl d : Nat × Nat × Nat) : Prop := dl.1 ≤ d.1 ∧ dl.2.1 ≤ d.2.1 ∧ dl.2.2 ≤ d.2.2
noncomputable def PZ : xPX := bn 144 (bn 72 (bn 36 (bn 18 (bn 9 (bn 4 (bn 2 (bn 1 (bl 0 ((⟨"CapitalCase$History", "keep", "(LCapitalCase$Town;)V"⟩, prog_2_method_2_code, 3, none))) (bl 1 ((⟨"CapitalCase$History", "takeBack", "(LCapitalCase$Town;)Z"⟩, prog_2_method_3_code, 4, (some .boolean))))) (bn 3 (bl 2 ((⟨"CapitalCase$Judge", "givesLeave", "(LCapitalCase$Town;III)Z"⟩, prog_3_method_2_code, 5, (some .boolean)))) (bl 3 ((⟨"CapitalCase$Judge", "judge", "(I)I"⟩, prog_3_method_8_code, 6, (some .int)))))) (bn 6 (bn 5 (bl 4 ((⟨"CapitalCase$Judge", "lookAtHouse", "(LCapitalCase$Town;II)V"⟩, prog_3_method_7_code, 5, none))) (bl 5 ((⟨"CapitalCase$Judge", "lookAtVerse", "(I)V"⟩, prog_3_method_6_code, 2, none)))) (bn 7 (bl 6 ((⟨"CapitalCase$Judge", "pays", "(II)I"⟩, prog_3_method_5_code, 3, (some .int)))) (bn 8 (bl 7 ((⟨"CapitalCase$Judge", "rank", "(LCapitalCase$Town;III)I"⟩, prog_3_method_3_code, 5, (some .int)))) (bl 8 ((⟨"CapitalCase$Judge", "wears", "(LCapitalCase$Town;II)I"⟩, prog_3_method_4_code, 4, (some .int)))))))) (bn 13 (bn 11 (bn 10 (bl 9 ((⟨"CapitalCase$Parser", "accept", "(I)Z"⟩, prog_4_method_5_code, 2, (some .boolean)))) (bl 10 ((⟨"CapitalCase$Parser", "fail", "(I)Z"⟩, prog_4_method_4_code, 2, (some .boolean))))) (bn 12 (bl 11 ((⟨"CapitalCase$Parser", "intOf", "(III)I"⟩, prog_4_method_14_code, 6, (some .int)))) (bl 12 ((⟨"CapitalCase$Parser", "isSame", "(II)Z"⟩, prog_4_method_11_code, 4, (some .boolean)))))) (bn 15 (bn 14 (bl 13 ((⟨"CapitalCase$Parser", "next", "()I"⟩, prog_4_method_3_code, 1, (some .int)))) (bl 14 ((⟨"CapitalCase$Parser", "noteLater", "(ZII)V"⟩, prog_4_method_6_code, 4, none)))) (bn 16 (bl 15 ((⟨"CapitalCase$Parser", "noteName", "(I)V"⟩, prog_4_method_10_code, 3, none))) (bn 17 (bl 16 ((⟨"CapitalCase$Parser", "parse", "(I)I"⟩, prog_4_method_2_code, 3, (some .int)))) (bl 17 ((⟨"CapitalCase$Parser", "parseHouse", "()V"⟩, prog_4_method_7_code, 4, none)))))))) (bn 27 (bn 22 (bn 20 (bn 19 (bl 18 ((⟨"CapitalCase$Parser", "parseLaw", "(I)V"⟩, prog_4_method_15_code, 5, none))) (bl 19 ((⟨"CapitalCase$Parser", "parseNumber", "(I)V"⟩, prog_4_method_9_code, 3, none)))) (bn 21 (bl 20 ((⟨"CapitalCase$Parser", "parseVerse", "()V"⟩, prog_4_method_8_code, 5, none))) (bl 21 ((⟨"CapitalCase$Planner", "giveUp", "(II)V"⟩, prog_5_method_6_code, 5, none))))) (bn 24 (bn 23 (bl 22 ((⟨"CapitalCase$Planner", "keepIfMore", "(II)V"⟩, prog_5_method_10_code, 3, none))) (bl 23 ((⟨"CapitalCase$Planner", "lastOf", "(I)I"⟩, prog_5_method_11_code, 2, (some .int))))) (bn 25 (bl 24 ((⟨"CapitalCase$Planner", "orderGivers", "(LCapitalCase$Town;II)V"⟩, prog_5_method_3_code, 9, none))) (bn 26 (bl 25 ((⟨"CapitalCase$Planner", "pick", "(II)I"⟩, prog_5_method_5_code, 7, (some .int)))) (bl 26 ((⟨"CapitalCase$Planner", "prepare", "(LCapitalCase$Town;I)V"⟩, prog_5_method_2_code, 5, none))))))) (bn 31 (bn 29 (bn 28 (bl 27 ((⟨"CapitalCase$Planner", "search", "()V"⟩, prog_5_method_9_code, 6, none))) (bl 28 ((⟨"CapitalCase$Planner", "seek", "(LCapitalCase$Town;)V"⟩, prog_5_method_7_code, 2, none)))) (bn 30 (bl 29 ((⟨"CapitalCase$Planner", "seekWithout", "(LCapitalCase$Town;I)V"⟩, prog_5_method_8_code, 4, none))) (bl 30 ((⟨"CapitalCase$Planner", "take", "(I)Z"⟩, prog_5_method_4_code, 5, (some .boolean)))))) (bn 33 (bn 32 (bl 31 ((⟨"CapitalCase$Press", "daysTillWornOut", "(LCapitalCase$Town;II)I"⟩, prog_6_method_10_code, 5, (some .int)))) (bl 32 ((⟨"CapitalCase$Press", "lot", "(III)I"⟩, prog_6_method_8_code, 4, (some .int))))) (bn 34 (bl 33 ((⟨"CapitalCase$Press", "lot", "(III)I"⟩, prog_6_method_8_code, 4, (some .int)))) (bn 35 (bl 34 ((⟨"CapitalCase$Press", "mix", "(II)I"⟩, prog_6_method_9_code, 3, (some .int)))) (bl 35 ((⟨"CapitalCase$Press", "owed", "(LCapitalCase$Town;)I"⟩, prog_6_method_3_code, 4, (some .int)))))))))) (bn 54 (bn 45 (bn 40 (bn 38 (bn 37 (bl 36 ((⟨"CapitalCase$Press", "passDays", "(LCapitalCase$Town;II)V"⟩, prog_6_method_2_code, 5, none))) (bl 37 ((⟨"CapitalCase$Press", "steal", "(LCapitalCase$Town;I)V"⟩, prog_6_method_7_code, 6, none)))) (bn 39 (bl 38 ((⟨"CapitalCase$Press", "thievesCome", "(II)Z"⟩, prog_6_method_6_code, 3, (some .boolean)))) (bl 39 ((⟨"CapitalCase$Press", "wear", "(LCapitalCase$Town;II)Z"⟩, prog_6_method_5_code, 6, (some .boolean)))))) (bn 42 (bn 41 (bl 40 ((⟨"CapitalCase$Press", "work", "(LCapitalCase$Town;)V"⟩, prog_6_method_4_code, 4, none))) (bl 41 ((⟨"CapitalCase$Prints", "left", "(LCapitalCase$Town;II)I"⟩, prog_7_method_3_code, 8, (some .int))))) (bn 43 (bl 42 ((⟨"CapitalCase$Prints", "letterToAsk", "(LCapitalCase$Town;II)I"⟩, prog_7_method_4_code, 9, (some .int)))) (bn 44 (bl 43 ((⟨"CapitalCase$Prints", "note", "(IIZ)I"⟩, prog_7_method_2_code, 4, (some .int)))) (bl 44 ((⟨"CapitalCase$Script", "add", "(II)V"⟩, prog_8_method_4_code, 3, none))))))) (bn 49 (bn 47 (bn 46 (bl 45 ((⟨"CapitalCase$Script", "add", "(II)V"⟩, prog_8_method_4_code, 3, none))) (bl 46 ((⟨"CapitalCase$Script", "add", "(II)V"⟩, prog_8_method_4_code, 3, none)))) (bn 48 (bl 47 ((⟨"CapitalCase$Script", "become", "(LCapitalCase$Script;)V"⟩, prog_8_method_6_code, 2, none))) (bl 48 ((⟨"CapitalCase$Script", "layDown", "(III)V"⟩, prog_8_method_3_code, 4, none))))) (bn 51 (bn 50 (bl 49 ((⟨"CapitalCase$Script", "layDown", "(III)V"⟩, prog_8_method_3_code, 4, none))) (bl 50 ((⟨"CapitalCase$Script", "lettersOf", "(I)I"⟩, prog_8_method_7_code, 4, (some .int))))) (bn 52 (bl 51 ((⟨"CapitalCase$Script", "wipe", "()V"⟩, prog_8_method_2_code, 1, none))) (bn 53 (bl 52 ((⟨"CapitalCase$Tokens", "scan", "([BI)V"⟩, prog_9_method_2_code, 5, none))) (bl 53 ((⟨"CapitalCase$Town", "become", "(LCapitalCase$Town;)V"⟩, prog_10_method_3_code, 2, none)))))))) (bn 63 (bn 58 (bn 56 (bn 55 (bl 54 ((⟨"CapitalCase$Town", "begin", "(LCapitalCase$Script;)V"⟩, prog_10_method_2_code, 2, none))) (bl 55 ((⟨"CapitalCase$Town", "free", "(I)I"⟩, prog_10_method_4_code, 2, (some .int))))) (bn 57 (bl 56 ((⟨"CapitalCase$Town", "lay", "(LCapitalCase$Script;I[I)V"⟩, prog_10_method_8_code, 6, none))) (bl 57 ((⟨"CapitalCase$Town", "lentBy", "(II)I"⟩, prog_10_method_5_code, 5, (some .int)))))) (bn 60 (bn 59 (bl 58 ((⟨"CapitalCase$Town", "lentTo", "(II)I"⟩, prog_10_method_6_code, 5, (some .int)))) (bl 59 ((⟨"CapitalCase$Town", "lift", "(LCapitalCase$Script;I)V"⟩, prog_10_method_9_code, 5, none)))) (bn 61 (bl 60 ((⟨"CapitalCase$Town", "lose", "(I)Z"⟩, prog_10_method_11_code, 2, (some .boolean)))) (bn 62 (bl 61 ((⟨"CapitalCase$Town", "move", "(III)V"⟩, prog_10_method_10_code, 4, none))) (bl 62 ((⟨"CapitalCase$Town", "open", "(I)I"⟩, prog_10_method_7_code, 2, (some .int)))))))) (bn 67 (bn 65 (bn 64 (bl 63 ((⟨"CapitalCase$Trade", "freeElsewhere", "(LCapitalCase$Town;II)I"⟩, prog_11_method_3_code, 6, (some .int)))) (bl 64 ((⟨"CapitalCase$Trade", "gains", "(LCapitalCase$Town;III)Z"⟩, prog_11_method_6_code, 5, (some .boolean))))) (bn 66 (bl 65 ((⟨"CapitalCase$Trade", "loansFor", "(LCapitalCase$Town;II)I"⟩, prog_11_method_2_code, 9, (some .int)))) (bl 66 ((⟨"CapitalCase$Trade", "seekBargains", "(LCapitalCase$Town;)V"⟩, prog_11_method_4_code, 4, none))))) (bn 69 (bn 68 (bl 67 ((⟨"CapitalCase$Trade", "seekBetween", "(LCapitalCase$Town;II)V"⟩, prog_11_method_5_code, 6, none))) (bl 68 ((⟨"CapitalCase$Trade", "versesAlone", "(LCapitalCase$Town;III)I"⟩, prog_11_method_7_code, 12, (some .int))))) (bn 70 (bl 69 ((⟨"CapitalCase$TwoDays", "giveUpAll", "(I)V"⟩, prog_12_method_5_code, 3, none))) (bn 71 (bl 70 ((⟨"CapitalCase$TwoDays", "passFirst", "(LCapitalCase$Town;I)V"⟩, prog_12_method_6_code, 4, none))) (bl 71 ((⟨"CapitalCase$TwoDays", "seek", "(LCapitalCase$Town;)V"⟩, prog_12_method_2_code, 6, none)))))))))) (bn 108 (bn 90 (bn 81 (bn 76 (bn 74 (bn 73 (bl 72 ((⟨"CapitalCase$TwoDays", "takeAll", "(I)Z"⟩, prog_12_method_4_code, 3, (some .boolean)))) (bl 73 ((⟨"CapitalCase$TwoDays", "total", "([II)I"⟩, prog_12_method_3_code, 5, (some .int))))) (bn 75 (bl 74 ((⟨"CapitalCase$TwoDays", "total", "([II)I"⟩, prog_12_method_3_code, 5, (some .int)))) (bl 75 ((⟨"CapitalCase", "append", "(I)V"⟩, prog_1_method_3_code, 3, none))))) (bn 78 (bn 77 (bl 76 ((⟨"CapitalCase", "ask", "(II)I"⟩, prog_1_method_41_code, 3, (some .int)))) (bl 77 ((⟨"CapitalCase", "back", "(I)I"⟩, prog_1_method_4_code, 2, (some .int))))) (bn 79 (bl 78 ((⟨"CapitalCase", "bargains", "(I)I"⟩, prog_1_method_30_code, 2, (some .int)))) (bn 80 (bl 79 ((⟨"CapitalCase", "beginAnew", "()V"⟩, prog_1_method_6_code, 2, none))) (bl 80 ((⟨"CapitalCase", "best", "(I)I"⟩, prog_1_method_25_code, 2, (some .int)))))))) (bn 85 (bn 83 (bn 82 (bl 81 ((⟨"CapitalCase", "clash", "(I)I"⟩, prog_1_method_32_code, 2, (some .int)))) (bl 82 ((⟨"CapitalCase", "clear", "(I)Z"⟩, prog_1_method_19_code, 2, (some .boolean))))) (bn 84 (bl 83 ((⟨"CapitalCase", "couldBeSet", "(I)Z"⟩, prog_1_method_18_code, 2, (some .boolean)))) (bl 84 ((⟨"CapitalCase", "count", "(I)I"⟩, prog_1_method_44_code, 2, (some .int)))))) (bn 87 (bn 86 (bl 85 ((⟨"CapitalCase", "days", "(I)I"⟩, prog_1_method_22_code, 2, (some .int)))) (bl 86 ((⟨"CapitalCase", "feed", "(IIIII)I"⟩, prog_1_method_2_code, 6, (some .int))))) (bn 88 (bl 87 ((⟨"CapitalCase", "forget", "()I"⟩, prog_1_method_39_code, 2, (some .int)))) (bn 89 (bl 88 ((⟨"CapitalCase", "from", "(II)I"⟩, prog_1_method_24_code, 3, (some .int)))) (bl 89 ((⟨"CapitalCase", "giveBack", "(III)Z"⟩, prog_1_method_21_code, 5, (some .boolean))))))))) (bn 99 (bn 94 (bn 92 (bn 91 (bl 90 ((⟨"CapitalCase", "heldSlots", "()I"⟩, prog_1_method_46_code, 3, (some .int)))) (bl 91 ((⟨"CapitalCase", "hold", "(I)Z"⟩, prog_1_method_42_code, 2, (some .boolean))))) (bn 93 (bl 92 ((⟨"CapitalCase", "house", "(III)I"⟩, prog_1_method_12_code, 5, (some .int)))) (bl 93 ((⟨"CapitalCase", "isCell", "(II)Z"⟩, prog_1_method_9_code, 3, (some .boolean)))))) (bn 96 (bn 95 (bl 94 ((⟨"CapitalCase", "isHouse", "(I)Z"⟩, prog_1_method_8_code, 2, (some .boolean)))) (bl 95 ((⟨"CapitalCase", "isOpen", "(I)Z"⟩, prog_1_method_11_code, 2, (some .boolean))))) (bn 97 (bl 96 ((⟨"CapitalCase", "isVerse", "(I)Z"⟩, prog_1_method_10_code, 2, (some .boolean)))) (bn 98 (bl 97 ((⟨"CapitalCase", "late", "()I"⟩, prog_1_method_33_code, 3, (some .int)))) (bl 98 ((⟨"CapitalCase", "lend", "(III)Z"⟩, prog_1_method_20_code, 4, (some .boolean)))))))) (bn 103 (bn 101 (bn 100 (bl 99 ((⟨"CapitalCase", "loans", "(II)I"⟩, prog_1_method_29_code, 3, (some .int)))) (bl 100 ((⟨"CapitalCase", "paidIn", "(I)I"⟩, prog_1_method_36_code, 2, (some .int))))) (bn 102 (bl 101 ((⟨"CapitalCase", "pillar", "(I)I"⟩, prog_1_method_27_code, 5, (some .int)))) (bl 102 ((⟨"CapitalCase", "place", "()I"⟩, prog_1_method_7_code, 1, (some .int)))))) (bn 105 (bn 104 (bl 103 ((⟨"CapitalCase", "read", "()I"⟩, prog_1_method_5_code, 2, (some .int)))) (bl 104 ((⟨"CapitalCase", "restore", "(I)Z"⟩, prog_1_method_43_code, 2, (some .boolean))))) (bn 106 (bl 105 ((⟨"CapitalCase", "set", "(I)Z"⟩, prog_1_method_17_code, 2, (some .boolean)))) (bn 107 (bl 106 ((⟨"CapitalCase", "settable", "()I"⟩, prog_1_method_47_code, 3, (some .int)))) (bl 107 ((⟨"CapitalCase", "standOf", "(I)I"⟩, prog_1_method_14_code, 4, (some .int)))))))))) (bn 126 (bn 117 (bn 112 (bn 110 (bn 109 (bl 108 ((⟨"CapitalCase", "strike", "(I)I"⟩, prog_1_method_31_code, 4, (some .int)))) (bl 109 ((⟨"CapitalCase", "sum", "([I)I"⟩, prog_1_method_45_code, 6, (some .int))))) (bn 111 (bl 110 ((⟨"CapitalCase", "sum", "([I)I"⟩, prog_1_method_45_code, 6, (some .int)))) (bl 111 ((⟨"CapitalCase", "sum", "([I)I"⟩, prog_1_method_45_code, 6, (some .int)))))) (bn 114 (bn 113 (bl 112 ((⟨"CapitalCase", "tell", "(IIZ)I"⟩, prog_1_method_38_code, 4, (some .int)))) (bl 113 ((⟨"CapitalCase", "tells", "(IIII)I"⟩, prog_1_method_16_code, 5, (some .int))))) (bn 115 (bl 114 ((⟨"CapitalCase", "then", "(IIII)I"⟩, prog_1_method_35_code, 6, (some .int)))) (bn 116 (bl 115 ((⟨"CapitalCase", "twoDays", "(I)I"⟩, prog_1_method_28_code, 2, (some .int)))) (bl 116 ((⟨"CapitalCase", "undo", "()Z"⟩, prog_1_method_23_code, 1, (some .boolean)))))))) (bn 121 (bn 119 (bn 118 (bl 117 ((⟨"CapitalCase", "verse", "(II)I"⟩, prog_1_method_13_code, 3, (some .int)))) (bl 118 ((⟨"CapitalCase", "wants", "(II)I"⟩, prog_1_method_15_code, 3, (some .int))))) (bn 120 (bl 119 ((⟨"CapitalCase", "whose", "(II)I"⟩, prog_1_method_40_code, 4, (some .int)))) (bl 120 ((⟨"CapitalCase", "wornOut", "(II)I"⟩, prog_1_method_34_code, 3, (some .int)))))) (bn 123 (bn 122 (bl 121 ((⟨"CapitalCase", "worth", "(II)I"⟩, prog_1_method_26_code, 4, (some .int)))) (bl 122 ((⟨"CapitalCase", "year", "(IIII)I"⟩, prog_1_method_37_code, 7, (some .int))))) (bn 124 (bl 123 ((⟨"CapitalCaseModel", "areThieves", "()Z"⟩, prog_14_method_51_code, 1, (some .boolean)))) (bn 125 (bl 124 ((⟨"CapitalCaseModel", "areTwo", "(III)Z"⟩, prog_14_method_79_code, 4, (some .boolean)))) (bl 125 ((⟨"CapitalCaseModel", "ask", "(II)I"⟩, prog_14_method_110_code, 9, (some .int))))))))) (bn 135 (bn 130 (bn 128 (bn 127 (bl 126 ((⟨"CapitalCaseModel", "back", "(I)I"⟩, prog_14_method_5_code, 2, (some .int)))) (bl 127 ((⟨"CapitalCaseModel", "bargains", "(I)I"⟩, prog_14_method_97_code, 7, (some .int))))) (bn 129 (bl 128 ((⟨"CapitalCaseModel", "begins", "()V"⟩, prog_14_method_46_code, 2, none))) (bl 129 ((⟨"CapitalCaseModel", "best", "(I)I"⟩, prog_14_method_88_code, 2, (some .int)))))) (bn 132 (bn 131 (bl 130 ((⟨"CapitalCaseModel", "bits", "(I)I"⟩, prog_14_method_42_code, 3, (some .int)))) (bl 131 ((⟨"CapitalCaseModel", "bounded", "(II)I"⟩, prog_14_method_27_code, 4, (some .int))))) (bn 133 (bl 132 ((⟨"CapitalCaseModel", "canSet", "(I)Z"⟩, prog_14_method_86_code, 3, (some .boolean)))) (bn 134 (bl 133 ((⟨"CapitalCaseModel", "clash", "(I)I"⟩, prog_14_method_99_code, 6, (some .int)))) (bl 134 ((⟨"CapitalCaseModel", "clear", "(I)Z"⟩, prog_14_method_78_code, 2, (some .boolean)))))))) (bn 139 (bn 137 (bn 136 (bl 135 ((⟨"CapitalCaseModel", "clears", "(I)V"⟩, prog_14_method_64_code, 3, none))) (bl 136 ((⟨"CapitalCaseModel", "copies", "()V"⟩, prog_14_method_48_code, 2, none)))) (bn 138 (bl 137 ((⟨"CapitalCaseModel", "count", "(I)I"⟩, prog_14_method_115_code, 5, (some .int)))) (bl 138 ((⟨"CapitalCaseModel", "dayGoes", "()V"⟩, prog_14_method_70_code, 2, none))))) (bn 141 (bn 140 (bl 139 ((⟨"CapitalCaseModel", "days", "(I)I"⟩, prog_14_method_82_code, 2, (some .int)))) (bl 140 ((⟨"CapitalCaseModel", "fail", "(I)V"⟩, prog_14_method_15_code, 2, none)))) (bn 142 (bl 141 ((⟨"CapitalCaseModel", "feed", "(IIIII)I"⟩, prog_14_method_3_code, 6, (some .int)))) (bn 143 (bl 142 ((⟨"CapitalCaseModel", "findsBest", "()V"⟩, prog_14_method_87_code, 5, none))) (bl 143 ((⟨"CapitalCaseModel", "firstDay", "(I)I"⟩, prog_14_method_91_code, 3, (some .int)))))))))))) (bn 216 (bn 180 (bn 162 (bn 153 (bn 148 (bn 146 (bn 145 (bl 144 ((⟨"CapitalCaseModel", "forget", "()I"⟩, prog_14_method_107_code, 2, (some .int)))) (bl 145 ((⟨"CapitalCaseModel", "freeOf", "(II)I"⟩, prog_14_method_54_code, 4, (some .int))))) (bn 147 (bl 146 ((⟨"CapitalCaseModel", "from", "(II)I"⟩, prog_14_method_84_code, 3, (some .int)))) (bl 147 ((⟨"CapitalCaseModel", "giveBack", "(III)Z"⟩, prog_14_method_81_code, 5, (some .boolean)))))) (bn 150 (bn 149 (bl 148 ((⟨"CapitalCaseModel", "giverOf", "(II)I"⟩, prog_14_method_63_code, 7, (some .int)))) (bl 149 ((⟨"CapitalCaseModel", "givesLeave", "(III)Z"⟩, prog_14_method_59_code, 4, (some .boolean))))) (bn 151 (bl 150 ((⟨"CapitalCaseModel", "goes", "(I)V"⟩, prog_14_method_71_code, 3, none))) (bn 152 (bl 151 ((⟨"CapitalCaseModel", "goesOn", "()V"⟩, prog_14_method_17_code, 1, none))) (bl 152 ((⟨"CapitalCaseModel", "held", "(III)I"⟩, prog_14_method_41_code, 3, (some .int)))))))) (bn 157 (bn 155 (bn 154 (bl 153 ((⟨"CapitalCaseModel", "hold", "(I)Z"⟩, prog_14_method_111_code, 3, (some .boolean)))) (bl 154 ((⟨"CapitalCaseModel", "house", "(III)I"⟩, prog_14_method_72_code, 5, (some .int))))) (bn 156 (bl 155 ((⟨"CapitalCaseModel", "in", "(III)Z"⟩, prog_14_method_40_code, 3, (some .boolean)))) (bl 156 ((⟨"CapitalCaseModel", "in", "(III)Z"⟩, prog_14_method_40_code, 3, (some .boolean)))))) (bn 159 (bn 158 (bl 157 ((⟨"CapitalCaseModel", "in", "(III)Z"⟩, prog_14_method_40_code, 3, (some .boolean)))) (bl 158 ((⟨"CapitalCaseModel", "in", "(III)Z"⟩, prog_14_method_40_code, 3, (some .boolean))))) (bn 160 (bl 159 ((⟨"CapitalCaseModel", "in", "(III)Z"⟩, prog_14_method_40_code, 3, (some .boolean)))) (bn 161 (bl 160 ((⟨"CapitalCaseModel", "in", "(III)Z"⟩, prog_14_method_40_code, 3, (some .boolean)))) (bl 161 ((⟨"CapitalCaseModel", "in", "(III)Z"⟩, prog_14_method_40_code, 3, (some .boolean))))))))) (bn 171 (bn 166 (bn 164 (bn 163 (bl 162 ((⟨"CapitalCaseModel", "in", "(III)Z"⟩, prog_14_method_40_code, 3, (some .boolean)))) (bl 163 ((⟨"CapitalCaseModel", "in", "(III)Z"⟩, prog_14_method_40_code, 3, (some .boolean))))) (bn 165 (bl 164 ((⟨"CapitalCaseModel", "in", "(III)Z"⟩, prog_14_method_40_code, 3, (some .boolean)))) (bl 165 ((⟨"CapitalCaseModel", "in", "(III)Z"⟩, prog_14_method_40_code, 3, (some .boolean)))))) (bn 168 (bn 167 (bl 166 ((⟨"CapitalCaseModel", "in", "(III)Z"⟩, prog_14_method_40_code, 3, (some .boolean)))) (bl 167 ((⟨"CapitalCaseModel", "in", "(III)Z"⟩, prog_14_method_40_code, 3, (some .boolean))))) (bn 169 (bl 168 ((⟨"CapitalCaseModel", "in", "(III)Z"⟩, prog_14_method_40_code, 3, (some .boolean)))) (bn 170 (bl 169 ((⟨"CapitalCaseModel", "in", "(III)Z"⟩, prog_14_method_40_code, 3, (some .boolean)))) (bl 170 ((⟨"CapitalCaseModel", "in", "(III)Z"⟩, prog_14_method_40_code, 3, (some .boolean)))))))) (bn 175 (bn 173 (bn 172 (bl 171 ((⟨"CapitalCaseModel", "in", "(III)Z"⟩, prog_14_method_40_code, 3, (some .boolean)))) (bl 172 ((⟨"CapitalCaseModel", "in", "(III)Z"⟩, prog_14_method_40_code, 3, (some .boolean))))) (bn 174 (bl 173 ((⟨"CapitalCaseModel", "in", "(III)Z"⟩, prog_14_method_40_code, 3, (some .boolean)))) (bl 174 ((⟨"CapitalCaseModel", "in", "(III)Z"⟩, prog_14_method_40_code, 3, (some .boolean)))))) (bn 177 (bn 176 (bl 175 ((⟨"CapitalCaseModel", "is", "(I)Z"⟩, prog_14_method_14_code, 2, (some .boolean)))) (bl 176 ((⟨"CapitalCaseModel", "isBargain", "(IIII)Z"⟩, prog_14_method_96_code, 5, (some .boolean))))) (bn 178 (bl 177 ((⟨"CapitalCaseModel", "isHouse", "(I)Z"⟩, prog_14_method_43_code, 2, (some .boolean)))) (bn 179 (bl 178 ((⟨"CapitalCaseModel", "isLong", "(I)Z"⟩, prog_14_method_101_code, 1, (some .boolean)))) (bl 179 ((⟨"CapitalCaseModel", "isOpen", "(I)Z"⟩, prog_14_method_66_code, 2, (some .boolean)))))))))) (bn 198 (bn 189 (bn 184 (bn 182 (bn 181 (bl 180 ((⟨"CapitalCaseModel", "isSort", "(I)Z"⟩, prog_14_method_44_code, 1, (some .boolean)))) (bl 181 ((⟨"CapitalCaseModel", "isVerse", "(I)Z"⟩, prog_14_method_45_code, 2, (some .boolean))))) (bn 183 (bl 182 ((⟨"CapitalCaseModel", "keepsAhead", "()V"⟩, prog_14_method_85_code, 2, none))) (bl 183 ((⟨"CapitalCaseModel", "keepsRow", "()V"⟩, prog_14_method_47_code, 2, none))))) (bn 186 (bn 185 (bl 184 ((⟨"CapitalCaseModel", "late", "()I"⟩, prog_14_method_100_code, 3, (some .int)))) (bl 185 ((⟨"CapitalCaseModel", "lawTells", "(II)I"⟩, prog_14_method_58_code, 7, (some .int))))) (bn 187 (bl 186 ((⟨"CapitalCaseModel", "lend", "(III)Z"⟩, prog_14_method_80_code, 4, (some .boolean)))) (bn 188 (bl 187 ((⟨"CapitalCaseModel", "lentOut", "(II)I"⟩, prog_14_method_52_code, 5, (some .int)))) (bl 188 ((⟨"CapitalCaseModel", "lentTo", "(II)I"⟩, prog_14_method_53_code, 5, (some .int)))))))) (bn 193 (bn 191 (bn 190 (bl 189 ((⟨"CapitalCaseModel", "loans", "(II)I"⟩, prog_14_method_94_code, 8, (some .int)))) (bl 190 ((⟨"CapitalCaseModel", "looks", "()V"⟩, prog_14_method_55_code, 2, none)))) (bn 192 (bl 191 ((⟨"CapitalCaseModel", "looksAt", "(II)V"⟩, prog_14_method_56_code, 3, none))) (bl 192 ((⟨"CapitalCaseModel", "looksFor", "(I)V"⟩, prog_14_method_57_code, 2, none))))) (bn 195 (bn 194 (bl 193 ((⟨"CapitalCaseModel", "lotOf", "(II)I"⟩, prog_14_method_50_code, 3, (some .int)))) (bl 194 ((⟨"CapitalCaseModel", "lotOf", "(II)I"⟩, prog_14_method_50_code, 3, (some .int))))) (bn 196 (bl 195 ((⟨"CapitalCaseModel", "mixed", "(II)I"⟩, prog_14_method_49_code, 3, (some .int)))) (bn 197 (bl 196 ((⟨"CapitalCaseModel", "must", "(I)V"⟩, prog_14_method_18_code, 2, none))) (bl 197 ((⟨"CapitalCaseModel", "named", "()I"⟩, prog_14_method_25_code, 3, (some .int))))))))) (bn 207 (bn 202 (bn 200 (bn 199 (bl 198 ((⟨"CapitalCaseModel", "needsOf", "(II)I"⟩, prog_14_method_93_code, 5, (some .int)))) (bl 199 ((⟨"CapitalCaseModel", "openBits", "()I"⟩, prog_14_method_67_code, 3, (some .int))))) (bn 201 (bl 200 ((⟨"CapitalCaseModel", "ownVerses", "(III)I"⟩, prog_14_method_95_code, 8, (some .int)))) (bl 201 ((⟨"CapitalCaseModel", "paidIn", "(I)I"⟩, prog_14_method_104_code, 2, (some .int)))))) (bn 204 (bn 203 (bl 202 ((⟨"CapitalCaseModel", "paysOf", "(I)I"⟩, prog_14_method_62_code, 2, (some .int)))) (bl 203 ((⟨"CapitalCaseModel", "pillar", "(I)I"⟩, prog_14_method_90_code, 5, (some .int))))) (bn 205 (bl 204 ((⟨"CapitalCaseModel", "place", "()I"⟩, prog_14_method_21_code, 1, (some .int)))) (bn 206 (bl 205 ((⟨"CapitalCaseModel", "put", "(I)V"⟩, prog_14_method_4_code, 3, none))) (bl 206 ((⟨"CapitalCaseModel", "rankOf", "(III)I"⟩, prog_14_method_60_code, 4, (some .int)))))))) (bn 211 (bn 209 (bn 208 (bl 207 ((⟨"CapitalCaseModel", "read", "()I"⟩, prog_14_method_20_code, 2, (some .int)))) (bl 208 ((⟨"CapitalCaseModel", "records", "()V"⟩, prog_14_method_76_code, 2, none)))) (bn 210 (bl 209 ((⟨"CapitalCaseModel", "restore", "(I)Z"⟩, prog_14_method_112_code, 3, (some .boolean)))) (bl 210 ((⟨"CapitalCaseModel", "roomFor", "(II)V"⟩, prog_14_method_22_code, 3, none))))) (bn 213 (bn 212 (bl 211 ((⟨"CapitalCaseModel", "set", "(I)Z"⟩, prog_14_method_77_code, 2, (some .boolean)))) (bl 212 ((⟨"CapitalCaseModel", "sets", "(I)Z"⟩, prog_14_method_65_code, 5, (some .boolean))))) (bn 214 (bl 213 ((⟨"CapitalCaseModel", "strike", "(I)I"⟩, prog_14_method_98_code, 5, (some .int)))) (bn 215 (bl 214 ((⟨"CapitalCaseModel", "sumNow", "(II)I"⟩, prog_14_method_113_code, 5, (some .int)))) (bl 215 ((⟨"CapitalCaseModel", "tell", "(IIZ)I"⟩, prog_14_method_106_code, 4, (some .int))))))))))) (bn 253 (bn 234 (bn 225 (bn 220 (bn 218 (bn 217 (bl 216 ((⟨"CapitalCaseModel", "tells", "(IIII)I"⟩, prog_14_method_75_code, 5, (some .int)))) (bl 217 ((⟨"CapitalCaseModel", "then", "(IIII)I"⟩, prog_14_method_103_code, 5, (some .int))))) (bn 219 (bl 218 ((⟨"CapitalCaseModel", "thievesCome", "()V"⟩, prog_14_method_69_code, 4, none))) (bl 219 ((⟨"CapitalCaseModel", "toldInt", "(II)I"⟩, prog_14_method_23_code, 4, (some .int)))))) (bn 222 (bn 221 (bl 220 ((⟨"CapitalCaseModel", "twoDays", "(I)I"⟩, prog_14_method_92_code, 7, (some .int)))) (bl 221 ((⟨"CapitalCaseModel", "undo", "()Z"⟩, prog_14_method_83_code, 2, (some .boolean))))) (bn 223 (bl 222 ((⟨"CapitalCaseModel", "verse", "(II)I"⟩, prog_14_method_73_code, 3, (some .int)))) (bn 224 (bl 223 ((⟨"CapitalCaseModel", "versesSo", "(II)I"⟩, prog_14_method_114_code, 5, (some .int)))) (bl 224 ((⟨"CapitalCaseModel", "wants", "(II)I"⟩, prog_14_method_74_code, 3, (some .int)))))))) (bn 229 (bn 227 (bn 226 (bl 225 ((⟨"CapitalCaseModel", "wears", "(I)V"⟩, prog_14_method_68_code, 2, none))) (bl 226 ((⟨"CapitalCaseModel", "wearsOf", "(II)I"⟩, prog_14_method_61_code, 3, (some .int))))) (bn 228 (bl 227 ((⟨"CapitalCaseModel", "whose", "(II)I"⟩, prog_14_method_109_code, 4, (some .int)))) (bl 228 ((⟨"CapitalCaseModel", "whoseBits", "(I)I"⟩, prog_14_method_108_code, 6, (some .int)))))) (bn 231 (bn 230 (bl 229 ((⟨"CapitalCaseModel", "wornOut", "(II)I"⟩, prog_14_method_102_code, 4, (some .int)))) (bl 230 ((⟨"CapitalCaseModel", "worth", "(II)I"⟩, prog_14_method_89_code, 4, (some .int))))) (bn 232 (bl 231 ((⟨"CapitalCaseModel", "wrong", "(II)V"⟩, prog_14_method_16_code, 4, none))) (bn 233 (bl 232 ((⟨"CapitalCaseModel", "year", "(IIII)I"⟩, prog_14_method_105_code, 7, (some .int)))) (bl 233 ((⟨"java/lang/Integer", "bitCount", "(I)I"⟩, prog_16_method_49_code, 1, (some .int))))))))) (bn 244 (bn 238 (bn 236 (bn 235 (bl 234 ((⟨"java/util/Arrays", "fill", "([II)V"⟩, prog_22_method_103_code, 4, none))) (bl 235 ((⟨"java/util/Arrays", "fill", "([II)V"⟩, prog_22_method_103_code, 4, none)))) (bn 237 (bl 236 ((⟨"java/util/Arrays", "fill", "([II)V"⟩, prog_22_method_103_code, 4, none))) (bl 237 ((⟨"java/util/Arrays", "fill", "([II)V"⟩, prog_22_method_103_code, 4, none))))) (bn 240 (bn 239 (bl 238 ((⟨"java/util/Arrays", "fill", "([II)V"⟩, prog_22_method_103_code, 4, none))) (bl 239 ((⟨"java/util/Arrays", "fill", "([II)V"⟩, prog_22_method_103_code, 4, none)))) (bn 241 (bl 240 ((⟨"CapitalCase$Tokens", "isBlank", "(I)Z"⟩, prog_9_method_3_code, 1, (some .boolean)))) (bn 242 (bl 241 ((⟨"CapitalCase$Tokens", "isDigit", "(I)Z"⟩, prog_9_method_5_code, 1, (some .boolean)))) (bl 242 ((⟨"CapitalCase$Tokens", "isLower", "(I)Z"⟩, prog_9_method_4_code, 1, (some .boolean)))))))) (bn 248 (bn 246 (bn 245 (bl 244 ((⟨"CapitalCaseModel", "isDigit", "(I)Z"⟩, prog_14_method_7_code, 1, (some .boolean)))) (bl 245 ((⟨"CapitalCaseModel", "isLetter", "(I)Z"⟩, prog_14_method_8_code, 1, (some .boolean))))) (bn 247 (bl 246 ((⟨"CapitalCaseModel", "cut", "()V"⟩, prog_14_method_12_code, 8, none))) (bl 247 ((⟨"CapitalCaseModel", "token", "(IIIJ)V"⟩, prog_14_method_11_code, 6, none))))) (bn 250 (bn 249 (bl 248 ((⟨"CapitalCaseModel", "sign", "(III)I"⟩, prog_14_method_13_code, 5, (some .int)))) (bl 249 ((⟨"CapitalCaseModel", "appends", "(JI)J"⟩, prog_14_method_9_code, 3, (some .long))))) (bn 251 (bl 250 ((⟨"CapitalCaseModel", "plain", "(I)V"⟩, prog_14_method_19_code, 3, none))) (bn 252 (bl 251 ((⟨"CapitalCaseModel", "tellOne", "()V"⟩, prog_14_method_24_code, 2, none))) (bl 252 ((⟨"CapitalCaseModel", "ends", "(I)V"⟩, prog_14_method_26_code, 2, none))))))))) (bn 271 (bn 262 (bn 257 (bn 255 (bn 254 (bl 253 ((⟨"CapitalCaseModel", "takesLetters", "()V"⟩, prog_14_method_30_code, 4, none))) (bl 254 ((⟨"CapitalCaseModel", "lettersIn", "(J)I"⟩, prog_14_method_28_code, 5, (some .int))))) (bn 256 (bl 255 ((⟨"CapitalCaseModel", "letterIn", "(JI)I"⟩, prog_14_method_29_code, 6, (some .int)))) (bl 256 ((⟨"CapitalCaseModel", "tellHouse", "()V"⟩, prog_14_method_31_code, 4, none))))) (bn 259 (bn 258 (bl 257 ((⟨"CapitalCaseModel", "tellVerse", "()V"⟩, prog_14_method_32_code, 4, none))) (bl 258 ((⟨"CapitalCaseModel", "tellLaw", "(I)V"⟩, prog_14_method_33_code, 4, none)))) (bn 260 (bl 259 ((⟨"CapitalCaseModel", "term", "()V"⟩, prog_14_method_34_code, 1, none))) (bn 261 (bl 260 ((⟨"CapitalCaseModel", "emit", "(II)V"⟩, prog_14_method_35_code, 3, none))) (bl 261 ((⟨"CapitalCaseModel", "comesOut", "(Z)V"⟩, prog_14_method_36_code, 3, none))))))) (bn 266 (bn 264 (bn 263 (bl 262 ((⟨"CapitalCaseModel", "expression", "()V"⟩, prog_14_method_37_code, 3, none))) (bl 263 ((⟨"CapitalCaseModel", "unit", "()V"⟩, prog_14_method_38_code, 1, none)))) (bn 265 (bl 264 ((⟨"CapitalCaseModel", "termOf", "(II)I"⟩, prog_14_method_39_code, 8, (some .int)))) (bl 265 ((⟨"CapitalCase$Script", "leadOn", "(I)V"⟩, prog_8_method_5_code, 2, none))))) (bn 268 (bn 267 (bl 266 ((⟨"CapitalCase$Parser", "parseSum", "(I)Z"⟩, prog_4_method_16_code, 4, (some .boolean)))) (bl 267 ((⟨"CapitalCase$Parser", "parsePart", "(I)Z"⟩, prog_4_method_17_code, 4, (some .boolean))))) (bn 269 (bl 268 ((⟨"CapitalCase$Parser", "parseUnit", "(I)Z"⟩, prog_4_method_18_code, 3, (some .boolean)))) (bn 270 (bl 269 ((⟨"CapitalCase$Parser", "letterOf", "(II)I"⟩, prog_4_method_13_code, 3, (some .int)))) (bl 270 ((⟨"CapitalCase$Parser", "areLetters", "(I)Z"⟩, prog_4_method_12_code, 3, (some .boolean))))))))) (bn 280 (bn 275 (bn 273 (bn 272 (bl 271 ((⟨"CapitalCase$Tokens", "kindOf", "([BII)I"⟩, prog_9_method_7_code, 4, (some .int)))) (bl 272 ((⟨"CapitalCase$Tokens", "wordOrName", "([BII)I"⟩, prog_9_method_8_code, 4, (some .int))))) (bn 274 (bl 273 ((⟨"CapitalCase$Tokens", "isWord", "(I[BII)Z"⟩, prog_9_method_9_code, 6, (some .boolean)))) (bl 274 ((⟨"CapitalCase$Tokens", "sizeAt", "([BII)I"⟩, prog_9_method_6_code, 5, (some .int)))))) (bn 277 (bn 276 (bl 275 ((⟨"CapitalCase", "feed", "(IIIII)I"⟩, prog_1_method_2_code, 6, (some .int)))) (bl 276 ((⟨"CapitalCaseModel", "feed", "(IIIII)I"⟩, prog_14_method_3_code, 6, (some .int))))) (bn 278 (bl 277 ((⟨"CapitalCase", "back", "(I)I"⟩, prog_1_method_4_code, 2, (some .int)))) (bn 279 (bl 278 ((⟨"CapitalCaseModel", "back", "(I)I"⟩, prog_14_method_5_code, 2, (some .int)))) (bl 279 ((⟨"CapitalCaseModel", "in", "(III)Z"⟩, prog_14_method_40_code, 3, (some .boolean)))))))) (bn 284 (bn 282 (bn 281 (bl 280 ((⟨"CapitalCase$Judge", "reckon", "(III)I"⟩, prog_3_method_9_code, 3, (some .int)))) (bl 281 ((⟨"CapitalCaseModel", "named", "()I"⟩, prog_14_method_25_code, 3, (some .int))))) (bn 283 (bl 282 ((⟨"CapitalCase$Script", "add", "(II)V"⟩, prog_8_method_4_code, 3, none))) (bl 283 ((⟨"CapitalCase$Parser", "next", "()I"⟩, prog_4_method_3_code, 1, (some .int)))))) (bn 286 (bn 285 (bl 284 ((⟨"CapitalCase$Parser", "accept", "(I)Z"⟩, prog_4_method_5_code, 2, (some .boolean)))) (bl 285 ((⟨"CapitalCaseModel", "is", "(I)Z"⟩, prog_14_method_14_code, 2, (some .boolean))))) (bn 287 (bl 286 ((⟨"CapitalCaseModel", "roomFor", "(II)V"⟩, prog_14_method_22_code, 3, none))) (bn 288 (bl 287 ((⟨"CapitalCaseModel", "byteAt", "(I)I"⟩, prog_14_method_6_code, 2, (some .int)))) (bl 288 ((⟨"CapitalCaseModel", "in", "(III)Z"⟩, prog_14_method_40_code, 3, (some .boolean))))))))))))
noncomputable def zbdT : Nat → Option (Nat × Nat) := bn 89 (bn 82 (bl 0 ((6, 396))) (bn 85 (bl 82 ((6, 396))) (bl 85 ((6, 396))))) (bn 98 (bn 91 (bl 89 ((6, 396))) (bl 91 ((6, 396)))) (bn 105 (bl 98 ((6, 396))) (bl 105 ((6, 396)))))
noncomputable def zbd (j : Nat) : Nat × Nat := match zbdT j with
  | some b => b
  | none => (0, 0)
/-- CapitalCase$History.keep:(LCapitalCase$Town;)V None -/
noncomputable def zc_0 : aC := ([.inr (.inl (0, 40)), .inr (.inl (1, 1000))], [(8, (0, 29)), (9, (0, 30))], [(none, [(8, none, (0, 29)), (9, none, (1, 30))], [])], (false, false), 8)
/-- CapitalCase$History.takeBack:(LCapitalCase$Town;)Z None -/
noncomputable def zc_1 : aC := ([.inr (.inl (0, 40)), .inr (.inl (1, 1000))], [(8, (0, 29)), (9, (0, 30))], [(some (.inl (0, 0)), [], []), (some (.inl (1, 1)), [(8, none, (0, 29)), (9, some (-1), (0, 29))], [])], (false, false), 8)
/-- CapitalCase$Judge.givesLeave:(LCapitalCase$Town;III)Z None -/
noncomputable def zc_2 : aC := ([.inr (.inl (0, 48)), .inr (.inl (1, 1000)), .inl (0, 4), .inl (0, 7), .inl (0, 6)], [(4, (0, 408))], [(some (.inl (0, 0)), [], []), (some (.inl (1, 1)), [], [])], (true, false), 7)
/-- CapitalCase$Judge.judge:(I)I None -/
noncomputable def zc_3 : aC := ([.inr (.inl (0, 48)), .inl (0, 3)], [], [(some (.inl ((-2147483648), 2147483647)), [], [])], (true, false), 6)
/-- CapitalCase$Judge.lookAtHouse:(LCapitalCase$Town;II)V None -/
noncomputable def zc_4 : aC := ([.inr (.inl (0, 48)), .inr (.inl (1, 1000)), .inl (0, 4), .inl (0, 7)], [], [(none, [], [])], (false, false), 2)
/-- CapitalCase$Judge.lookAtVerse:(I)V None -/
noncomputable def zc_5 : aC := ([.inr (.inl (0, 48)), .inl (0, 6)], [], [(none, [], [])], (true, false), 1)
/-- CapitalCase$Judge.pays:(II)I None -/
noncomputable def zc_6 : aC := ([.inr (.inl (0, 48)), .inl (0, 6), .inl ((-2147483648), 2147483647)], [(4, (0, 408))], [(some (.inl (0, 99)), [], [])], (true, false), 7)
/-- CapitalCase$Judge.rank:(LCapitalCase$Town;III)I None -/
noncomputable def zc_7 : aC := ([.inr (.inl (0, 48)), .inr (.inl (1, 1000)), .inl (0, 4), .inl (0, 7), .inl (0, 6)], [(4, (0, 408))], [(some (.inl ((-2147483648), 2147483647)), [], [])], (true, false), 7)
/-- CapitalCase$Judge.wears:(LCapitalCase$Town;II)I None -/
noncomputable def zc_8 : aC := ([.inr (.inl (0, 48)), .inr (.inl (1, 1000)), .inl (0, 4), .inl (0, 7)], [(4, (0, 408))], [(some (.inl (0, 9)), [], [])], (true, false), 7)
/-- CapitalCase$Parser.accept:(I)Z None -/
noncomputable def zc_9 : aC := ([.inr (.inl (0, 12)), .inl (0, 148)], [(2, (0, 400))], [(some (.inl (0, 0)), [], []), (some (.inl (1, 1)), [(2, some 1, (1, 400))], [])], (true, false), 2)
/-- CapitalCase$Parser.fail:(I)Z None -/
noncomputable def zc_10 : aC := ([.inr (.inl (0, 12)), .inl (1, 6)], [(2, (0, 400))], [(some (.inl (0, 0)), [], [])], (true, false), 1)
/-- CapitalCase$Parser.intOf:(III)I None -/
noncomputable def zc_11 : aC := ([.inr (.inl (0, 12)), .inl (0, 400), .inl ((-2147483648), 2147483647), .inl ((-2147483648), 2147483647)], [], [(some (.inl ((-2147483648), 2147483647)), [], [])], (true, false), 6)
/-- CapitalCase$Parser.isSame:(II)Z None -/
noncomputable def zc_12 : aC := ([.inr (.inl (0, 12)), .inl (0, 400), .inl (0, 400)], [], [(some (.inl (0, 1)), [], [])], (true, false), 6)
/-- CapitalCase$Parser.next:()I None -/
noncomputable def zc_13 : aC := ([.inr (.inl (0, 12))], [(2, (0, 400))], [(some (.inl (0, 148)), [], [])], (true, false), 1)
/-- CapitalCase$Parser.noteLater:(ZII)V None -/
noncomputable def zc_14 : aC := ([.inr (.inl (0, 12)), .inl (0, 1), .inl (1, 6), .inl (0, 400)], [], [(none, [], [])], (true, false), 1)
/-- CapitalCase$Parser.noteName:(I)V None -/
noncomputable def zc_15 : aC := ([.inr (.inl (0, 12)), .inl (0, 400)], [(3, (0, 12))], [(none, [(3, some 0, (12, 12))], []), (none, [(3, some 1, (1, 12))], [])], (true, false), 7)
/-- CapitalCase$Parser.parse:(I)I None -/
noncomputable def zc_16 : aC := ([.inr (.inl (0, 12)), .inl (0, 2000)], [(2, (0, 400)), (3, (0, 12)), (4, (0, 408)), (5, (0, 5)), (6, (0, 7))], [(some (.inl ((-2147483648), 2147483647)), [(2, none, (0, 400)), (3, none, (0, 12)), (4, none, (0, 408)), (5, none, (0, 5)), (6, none, (0, 7))], [])], (true, true), 61)
/-- CapitalCase$Parser.parseHouse:()V None -/
noncomputable def zc_17 : aC := ([.inr (.inl (0, 12))], [(2, (0, 400)), (3, (0, 12)), (5, (0, 5))], [(none, [(2, none, (0, 400)), (3, none, (0, 12)), (5, none, (0, 5))], [])], (true, false), 12)
/-- CapitalCase$Parser.parseLaw:(I)V None -/
noncomputable def zc_18 : aC := ([.inr (.inl (0, 12)), .inl (0, 3)], [(2, (0, 400)), (4, (0, 408))], [(none, [(2, none, (0, 400)), (4, none, (0, 408))], [])], (true, true), 60)
/-- CapitalCase$Parser.parseNumber:(I)V None -/
noncomputable def zc_19 : aC := ([.inr (.inl (0, 12)), .inl (0, 148)], [(2, (0, 400))], [(none, [(2, some 1, (1, 400))], []), (none, [(2, some 2, (2, 400))], []), (none, [(2, some 3, (3, 400))], []), (none, [], [])], (true, false), 7)
/-- CapitalCase$Parser.parseVerse:()V None -/
noncomputable def zc_20 : aC := ([.inr (.inl (0, 12))], [(2, (0, 400)), (3, (0, 12)), (6, (0, 7))], [(none, [(2, none, (0, 400)), (3, none, (0, 12)), (6, none, (0, 7))], [])], (true, true), 12)
/-- CapitalCase$Planner.giveUp:(II)V None -/
noncomputable def zc_21 : aC := ([.inr (.inl (1, 2000)), .inl (0, 6), .inl (0, 8)], [], [(none, [], [])], (false, false), 1)
/-- CapitalCase$Planner.keepIfMore:(II)V None -/
noncomputable def zc_22 : aC := ([.inr (.inl (1, 2000)), .inl ((-2147483648), 2147483647), .inl ((-2147483648), 2147483647)], [], [(none, [], [])], (false, false), 1)
/-- CapitalCase$Planner.lastOf:(I)I None -/
noncomputable def zc_23 : aC := ([.inl ((-2147483648), 2147483647)], [], [(some (.inl (0, 0)), [], []), (some (.inl (1, 6)), [], [])], (false, false), 1)
/-- CapitalCase$Planner.orderGivers:(LCapitalCase$Town;II)V None -/
noncomputable def zc_24 : aC := ([.inr (.inl (1, 2000)), .inr (.inl (1, 1000)), .inl (0, 6), .inl (0, 7)], [(4, (0, 408))], [(none, [], [])], (true, false), 20)
/-- CapitalCase$Planner.pick:(II)I None -/
noncomputable def zc_25 : aC := ([.inr (.inl (1, 2000)), .inl (0, 6), .inl (0, 7)], [], [(some (.inl ((-1), (-1))), [], []), (some (.inl (0, 4)), [], [])], (false, false), 1)
/-- CapitalCase$Planner.prepare:(LCapitalCase$Town;I)V None -/
noncomputable def zc_26 : aC := ([.inr (.inl (1, 2000)), .inr (.inl (1, 1000)), .inl (0, 127)], [(4, (0, 408)), (5, (0, 5)), (6, (0, 7))], [(none, [], [])], (true, false), 21)
/-- CapitalCase$Planner.search:()V None -/
noncomputable def zc_27 : aC := ([.inr (.inl (1, 2000))], [(6, (0, 7))], [(none, [], [])], (true, false), 3)
/-- CapitalCase$Planner.seek:(LCapitalCase$Town;)V None -/
noncomputable def zc_28 : aC := ([.inr (.inl (1, 2000)), .inr (.inl (1, 1000))], [(4, (0, 408)), (5, (0, 5)), (6, (0, 7))], [(none, [], [])], (true, false), 22)
/-- CapitalCase$Planner.seekWithout:(LCapitalCase$Town;I)V None -/
noncomputable def zc_29 : aC := ([.inr (.inl (1, 2000)), .inr (.inl (1, 1000)), .inl (0, 4)], [(4, (0, 408)), (5, (0, 5)), (6, (0, 7))], [(none, [], [])], (true, false), 22)
/-- CapitalCase$Planner.take:(I)Z None -/
noncomputable def zc_30 : aC := ([.inr (.inl (1, 2000)), .inl (0, 6)], [], [(some (.inl (0, 0)), [], []), (some (.inl (1, 1)), [], [])], (true, false), 2)
/-- CapitalCase$Press.daysTillWornOut:(LCapitalCase$Town;II)I None -/
noncomputable def zc_31 : aC := ([.inr (.inl (0, 51)), .inr (.inl (1, 1000)), .inl (0, 4), .inl (0, 7)], [(4, (0, 408))], [(some (.inl ((-2), (-2))), [], []), (some (.inl (1, 200)), [], [])], (true, false), 9)
/-- CapitalCase$Press.lot:(III)I 100 -/
noncomputable def zc_32 : aC := ([.inl (100, 100), .inl ((-2147483648), 2147483647), .inl ((-2147483648), 2147483647)], [], [(some (.inl (0, 99)), [], [])], (false, false), 2)
/-- CapitalCase$Press.lot:(III)I 8 -/
noncomputable def zc_33 : aC := ([.inl (8, 8), .inl ((-2147483648), 2147483647), .inl ((-2147483648), 2147483647)], [], [(some (.inl (0, 7)), [], [])], (false, false), 2)
/-- CapitalCase$Press.mix:(II)I None -/
noncomputable def zc_34 : aC := ([.inl ((-2147483648), 2147483647), .inl ((-2147483648), 2147483647)], [], [(some (.inl ((-2147483648), 2147483647)), [], [])], (false, false), 1)
/-- CapitalCase$Press.owed:(LCapitalCase$Town;)I None -/
noncomputable def zc_35 : aC := ([.inr (.inl (0, 51)), .inr (.inl (1, 1000))], [(4, (0, 408)), (6, (0, 7))], [(some (.inl ((-2147483648), 2147483647)), [], [])], (true, false), 8)
/-- CapitalCase$Press.passDays:(LCapitalCase$Town;II)V None -/
noncomputable def zc_36 : aC := ([.inr (.inl (0, 51)), .inr (.inl (1, 1000)), .inl (0, 60), .inl ((-2147483648), 2147483647)], [(4, (0, 408)), (5, (0, 5)), (6, (0, 7))], [(none, [], [])], (true, false), 10)
/-- CapitalCase$Press.steal:(LCapitalCase$Town;I)V None -/
noncomputable def zc_37 : aC := ([.inr (.inl (0, 51)), .inr (.inl (1, 1000)), .inl ((-2147483648), 2147483647)], [(5, (0, 5))], [(none, [], [])], (false, false), 4)
/-- CapitalCase$Press.thievesCome:(II)Z None -/
noncomputable def zc_38 : aC := ([.inr (.inl (0, 51)), .inl ((-2147483648), 2147483647), .inl ((-2147483648), 2147483647)], [], [(some (.inl (0, 0)), [], []), (some (.inl (1, 1)), [], [])], (false, false), 3)
/-- CapitalCase$Press.wear:(LCapitalCase$Town;II)Z None -/
noncomputable def zc_39 : aC := ([.inr (.inl (0, 51)), .inr (.inl (1, 1000)), .inl (0, 4), .inl (0, 7)], [(4, (0, 408))], [(some (.inl (0, 0)), [], []), (some (.inl (1, 1)), [], [])], (true, false), 8)
/-- CapitalCase$Press.work:(LCapitalCase$Town;)V None -/
noncomputable def zc_40 : aC := ([.inr (.inl (0, 51)), .inr (.inl (1, 1000))], [(4, (0, 408)), (5, (0, 5)), (6, (0, 7))], [(none, [], [])], (true, false), 9)
/-- CapitalCase$Prints.left:(LCapitalCase$Town;II)I None -/
noncomputable def zc_41 : aC := ([.inr (.inl (0, 44)), .inr (.inl (1, 1000)), .inl (0, 5), .inl (0, 20)], [], [(some (.inl ((-2147483648), 2147483647)), [], [])], (false, false), 1)
/-- CapitalCase$Prints.letterToAsk:(LCapitalCase$Town;II)I None -/
noncomputable def zc_42 : aC := ([.inr (.inl (0, 44)), .inr (.inl (1, 1000)), .inl ((-2147483648), 2147483647), .inl (0, 999)], [], [(some (.inl ((-2), 7)), [], [])], (false, false), 2)
/-- CapitalCase$Prints.note:(IIZ)I None -/
noncomputable def zc_43 : aC := ([.inr (.inl (0, 44)), .inl (0, 7), .inl (0, 999), .inl (0, 1)], [(7, (0, 20))], [(some (.inl ((-1), (-1))), [(7, some 0, (20, 20))], []), (some (.inl (0, 19)), [(7, some 1, (1, 20))], [])], (false, false), 1)
/-- CapitalCase$Script.add:(II)V 0 -/
noncomputable def zc_44 : aC := ([.inr (.inl (0, 13)), .inl (0, 0), .inl ((-2147483648), 2147483647)], [(4, (0, 408))], [(none, [(4, none, (0, 408))], [])], (true, true), 2)
/-- CapitalCase$Script.add:(II)V 1 -/
noncomputable def zc_45 : aC := ([.inr (.inl (0, 13)), .inl (1, 1), .inl (0, 8)], [(4, (0, 408))], [(none, [(4, none, (0, 408))], [])], (true, true), 2)
/-- CapitalCase$Script.add:(II)V 7 -/
noncomputable def zc_46 : aC := ([.inr (.inl (0, 13)), .inl (7, 7), .inl ((-2147483648), 2147483647)], [(4, (0, 408))], [(none, [(4, none, (0, 408))], [])], (true, true), 2)
/-- CapitalCase$Script.become:(LCapitalCase$Script;)V None -/
noncomputable def zc_47 : aC := ([.inr (.inl (0, 2)), .inr (.inl (0, 13))], [(4, (0, 408)), (5, (0, 5)), (6, (0, 7))], [(none, [], [])], (true, true), 4)
/-- CapitalCase$Script.layDown:(III)V 0 -/
noncomputable def zc_48 : aC := ([.inr (.inl (0, 13)), .inl (0, 2), .inl (0, 0), .inl (0, 1)], [(4, (0, 408))], [(none, [(4, none, (0, 408))], [])], (true, true), 3)
/-- CapitalCase$Script.layDown:(III)V 1 -/
noncomputable def zc_49 : aC := ([.inr (.inl (0, 13)), .inl (3, 3), .inl (1, 1), .inl (0, 0)], [(4, (0, 408))], [(none, [(4, none, (0, 408))], [])], (true, true), 3)
/-- CapitalCase$Script.lettersOf:(I)I None -/
noncomputable def zc_50 : aC := ([.inr (.inl (0, 2)), .inl (0, 6)], [], [(some (.inl ((-2147483648), 2147483647)), [], [])], (false, false), 1)
/-- CapitalCase$Script.wipe:()V None -/
noncomputable def zc_51 : aC := ([.inr (.inl (0, 13))], [(4, (0, 408)), (5, (0, 5)), (6, (0, 7))], [(none, [(4, none, (0, 408)), (5, none, (0, 0)), (6, none, (0, 0))], [])], (true, true), 4)
/-- CapitalCase$Tokens.scan:([BI)V None -/
noncomputable def zc_52 : aC := ([.inr (.inl (0, 23)), .inr (.inl (0, 1)), .inl (0, 2000)], [], [(none, [], [])], (true, true), 14)
/-- CapitalCase$Town.become:(LCapitalCase$Town;)V None -/
noncomputable def zc_53 : aC := ([.inr (.inl (1, 1000)), .inr (.inl (1, 1000))], [], [(none, [], [])], (false, false), 1)
/-- CapitalCase$Town.begin:(LCapitalCase$Script;)V None -/
noncomputable def zc_54 : aC := ([.inr (.inl (1, 1000)), .inr (.inl (0, 2))], [], [(none, [], [])], (false, false), 2)
/-- CapitalCase$Town.free:(I)I None -/
noncomputable def zc_55 : aC := ([.inr (.inl (1, 1000)), .inl (0, 39)], [], [(some (.inl (0, 2147483647)), [], [])], (false, false), 1)
/-- CapitalCase$Town.lay:(LCapitalCase$Script;I[I)V None -/
noncomputable def zc_56 : aC := ([.inr (.inl (1, 1000)), .inr (.inl (0, 2)), .inl (0, 6), .inr (.inl (1, 2002))], [], [(none, [], [])], (true, false), 1)
/-- CapitalCase$Town.lentBy:(II)I None -/
noncomputable def zc_57 : aC := ([.inr (.inl (1, 1000)), .inl (0, 4), .inl (0, 7)], [], [(some (.inl ((-2147483648), 2147483647)), [], [])], (false, false), 1)
/-- CapitalCase$Town.lentTo:(II)I None -/
noncomputable def zc_58 : aC := ([.inr (.inl (1, 1000)), .inl (0, 4), .inl (0, 7)], [], [(some (.inl ((-2147483648), 2147483647)), [], [])], (false, false), 1)
/-- CapitalCase$Town.lift:(LCapitalCase$Script;I)V None -/
noncomputable def zc_59 : aC := ([.inr (.inl (1, 1000)), .inr (.inl (0, 2)), .inl (0, 6)], [], [(none, [], [])], (true, false), 1)
/-- CapitalCase$Town.lose:(I)Z None -/
noncomputable def zc_60 : aC := ([.inr (.inl (1, 1000)), .inl (0, 39)], [], [(some (.inl (0, 0)), [], []), (some (.inl (1, 1)), [], [])], (false, false), 1)
/-- CapitalCase$Town.move:(III)V None -/
noncomputable def zc_61 : aC := ([.inr (.inl (1, 1000)), .inl (0, 4), .inl (0, 4), .inl (0, 7)], [], [(none, [], [])], (false, false), 1)
/-- CapitalCase$Town.open:(I)I None -/
noncomputable def zc_62 : aC := ([.inr (.inl (1, 1000)), .inl (0, 7)], [], [(some (.inl (0, 127)), [], [])], (false, false), 1)
/-- CapitalCase$Trade.freeElsewhere:(LCapitalCase$Town;II)I None -/
noncomputable def zc_63 : aC := ([.inr (.inl (0, 74)), .inr (.inl (1, 1000)), .inl (0, 4), .inl (0, 7)], [(5, (0, 5))], [(some (.inl ((-2147483648), 2147483647)), [], [])], (false, false), 2)
/-- CapitalCase$Trade.gains:(LCapitalCase$Town;III)Z None -/
noncomputable def zc_64 : aC := ([.inr (.inl (0, 74)), .inr (.inl (1, 1000)), .inl (0, 4), .inl (0, 7), .inl (0, 7)], [(6, (0, 7))], [(some (.inl (0, 0)), [], []), (some (.inl (1, 1)), [], [])], (false, false), 3)
/-- CapitalCase$Trade.loansFor:(LCapitalCase$Town;II)I None -/
noncomputable def zc_65 : aC := ([.inr (.inl (0, 74)), .inr (.inl (1, 1000)), .inl (0, 4), .inl (0, 6)], [(5, (0, 5))], [(some (.inl ((-2), (-2))), [], []), (some (.inl ((-2147483648), 2147483647)), [], [])], (false, false), 3)
/-- CapitalCase$Trade.seekBargains:(LCapitalCase$Town;)V None -/
noncomputable def zc_66 : aC := ([.inr (.inl (0, 74)), .inr (.inl (1, 1000))], [(5, (0, 5)), (6, (0, 7))], [(none, [], [])], (false, false), 5)
/-- CapitalCase$Trade.seekBetween:(LCapitalCase$Town;II)V None -/
noncomputable def zc_67 : aC := ([.inr (.inl (0, 74)), .inr (.inl (1, 1000)), .inl (0, 4), .inl (1, 4)], [(6, (0, 7))], [(none, [], [])], (false, false), 4)
/-- CapitalCase$Trade.versesAlone:(LCapitalCase$Town;III)I None -/
noncomputable def zc_68 : aC := ([.inr (.inl (0, 74)), .inr (.inl (1, 1000)), .inl (0, 4), .inl ((-1), 7), .inl ((-1), 7)], [(6, (0, 7))], [(some (.inl ((-2147483648), 2147483647)), [], [])], (false, false), 2)
/-- CapitalCase$TwoDays.giveUpAll:(I)V None -/
noncomputable def zc_69 : aC := ([.inr (.inl (0, 59)), .inl (0, 127)], [(6, (0, 7))], [(none, [], [])], (true, false), 2)
/-- CapitalCase$TwoDays.passFirst:(LCapitalCase$Town;I)V None -/
noncomputable def zc_70 : aC := ([.inr (.inl (0, 59)), .inr (.inl (1, 1000)), .inl (0, 127)], [(4, (0, 408)), (5, (0, 5)), (6, (0, 7))], [(none, [], [])], (true, false), 10)
/-- CapitalCase$TwoDays.seek:(LCapitalCase$Town;)V None -/
noncomputable def zc_71 : aC := ([.inr (.inl (0, 59)), .inr (.inl (1, 1000))], [(4, (0, 408)), (5, (0, 5)), (6, (0, 7))], [(none, [], [])], (true, false), 23)
/-- CapitalCase$TwoDays.takeAll:(I)Z None -/
noncomputable def zc_72 : aC := ([.inr (.inl (0, 59)), .inl (0, 127)], [(6, (0, 7))], [(some (.inl (0, 0)), [], []), (some (.inl (1, 1)), [], [])], (true, false), 3)
/-- CapitalCase$TwoDays.total:([II)I None -/
noncomputable def zc_73 : aC := ([.inr (.inl (0, 59)), .inr (.inl (1, 2003)), .inl (0, 127)], [(6, (0, 7))], [(some (.inl ((-2147483648), 2147483647)), [], [])], (false, false), 1)
/-- CapitalCase$TwoDays.total:([II)I None -/
noncomputable def zc_74 : aC := ([.inr (.inl (0, 59)), .inr (.inl (0, 66)), .inl (0, 127)], [(6, (0, 7))], [(some (.inl ((-2147483648), 2147483647)), [], [])], (false, false), 1)
/-- CapitalCase.append:(I)V None -/
noncomputable def zc_75 : aC := ([.inr (.inl (0, 0)), .inl ((-2147483648), 2147483647)], [(1, (0, 1996))], [(none, [(1, some 4, (4, 2000))], [])], (false, false), 1)
/-- CapitalCase.ask:(II)I None -/
noncomputable def zc_76 : aC := ([.inr (.inl (0, 0)), .inl ((-2147483648), 2147483647), .inl ((-2147483648), 2147483647)], [(5, (0, 5)), (7, (0, 20))], [(some (.inl ((-1), (-1))), [], []), (some (.inl ((-2), 7)), [], [(1, (0, 20)), (2, (0, 999))])], (false, false), 3)
/-- CapitalCase.back:(I)I None -/
noncomputable def zc_77 : aC := ([.inr (.inl (0, 0)), .inl ((-2147483648), 2147483647)], [(1, (0, 2000))], [(some (.inl ((-2147483648), 2147483647)), [(1, none, (0, 2000))], [])], (false, false), 2)
/-- CapitalCase.bargains:(I)I None -/
noncomputable def zc_78 : aC := ([.inr (.inl (0, 0)), .inl ((-2147483648), 2147483647)], [(5, (0, 5)), (6, (0, 7))], [(some (.inl ((-1), (-1))), [], []), (some (.inl ((-2147483648), 2147483647)), [], [(1, (0, 1))])], (false, false), 6)
/-- CapitalCase.beginAnew:()V None -/
noncomputable def zc_79 : aC := ([.inr (.inl (0, 0))], [(7, (0, 20)), (9, (0, 30))], [(none, [(7, none, (0, 0)), (9, none, (0, 0))], [])], (false, false), 3)
/-- CapitalCase.best:(I)I None -/
noncomputable def zc_80 : aC := ([.inr (.inl (0, 0)), .inl ((-2147483648), 2147483647)], [(4, (0, 408)), (5, (0, 5)), (6, (0, 7))], [(some (.inl ((-1), (-1))), [], []), (some (.inl ((-2147483648), 2147483647)), [], [(1, (0, 1))])], (true, false), 23)
/-- CapitalCase.clash:(I)I None -/
noncomputable def zc_81 : aC := ([.inr (.inl (0, 0)), .inl ((-2147483648), 2147483647)], [(4, (0, 408)), (5, (0, 5)), (6, (0, 7))], [(some (.inl ((-1), (-1))), [], []), (some (.inl ((-2), (-2))), [], [(1, (0, 6))]), (some (.inl ((-2147483648), 2147483647)), [], [(1, (0, 6))])], (true, false), 23)
/-- CapitalCase.clear:(I)Z None -/
noncomputable def zc_82 : aC := ([.inr (.inl (0, 0)), .inl ((-2147483648), 2147483647)], [(6, (0, 7)), (8, (0, 29)), (9, (0, 30))], [(some (.inl (0, 0)), [], []), (some (.inl (1, 1)), [(8, none, (0, 29)), (9, none, (1, 30))], [(1, (0, 6))])], (true, false), 9)
/-- CapitalCase.couldBeSet:(I)Z None -/
noncomputable def zc_83 : aC := ([.inr (.inl (0, 0)), .inl (0, 6)], [(4, (0, 408)), (5, (0, 5)), (6, (0, 7))], [(some (.inl (0, 0)), [], []), (some (.inl (1, 1)), [], [])], (true, false), 22)
/-- CapitalCase.count:(I)I None -/
noncomputable def zc_84 : aC := ([.inr (.inl (0, 0)), .inl ((-2147483648), 2147483647)], [(1, (0, 2000)), (4, (0, 408)), (5, (0, 5)), (6, (0, 7)), (7, (0, 20)), (9, (0, 30))], [(some (.inl ((-1), (-1))), [], []), (some (.inl ((-2147483648), 2147483647)), [], [(1, (0, 15))]), (some (.inl (0, 0)), [], [(1, (13, 13))]), (some (.inl (1, 1)), [], [(1, (13, 13))])], (true, false), 24)
/-- CapitalCase.days:(I)I None -/
noncomputable def zc_85 : aC := ([.inr (.inl (0, 0)), .inl ((-2147483648), 2147483647)], [(4, (0, 408)), (5, (0, 5)), (6, (0, 7)), (8, (0, 29)), (9, (0, 30))], [(some (.inl ((-1), (-1))), [], []), (some (.inl ((-2147483648), 2147483647)), [(8, none, (0, 29)), (9, none, (1, 30))], [(1, (1, 60))]), (some (.inl ((-2147483648), 2147483647)), [], [(1, (0, 0))])], (true, false), 11)
/-- CapitalCase.feed:(IIIII)I None -/
noncomputable def zc_86 : aC := ([.inr (.inl (0, 0)), .inl ((-2147483648), 2147483647), .inl ((-2147483648), 2147483647), .inl ((-2147483648), 2147483647), .inl ((-2147483648), 2147483647), .inl ((-2147483648), 2147483647)], [(1, (0, 2000))], [(some (.inl ((-1), (-1))), [(1, some 0, (1981, 2000))], []), (some (.inl (20, 2000)), [(1, some 20, (20, 2000))], [])], (false, false), 2)
/-- CapitalCase.forget:()I None -/
noncomputable def zc_87 : aC := ([.inr (.inl (0, 0))], [(7, (0, 20))], [(some (.inl (0, 20)), [(7, none, (0, 0))], [])], (false, false), 1)
/-- CapitalCase.from:(II)I None -/
noncomputable def zc_88 : aC := ([.inr (.inl (0, 0)), .inl ((-2147483648), 2147483647), .inl ((-2147483648), 2147483647)], [(4, (0, 408)), (5, (0, 5)), (6, (0, 7))], [(some (.inl ((-1), (-1))), [], []), (some (.inl ((-2), (-2))), [], [(1, (0, 6)), (2, (0, 7))]), (some (.inl ((-3), (-3))), [], [(1, (0, 6)), (2, (0, 7))]), (some (.inl (0, 4)), [], [(1, (0, 6)), (2, (0, 7))])], (true, false), 23)
/-- CapitalCase.giveBack:(III)Z None -/
noncomputable def zc_89 : aC := ([.inr (.inl (0, 0)), .inl ((-2147483648), 2147483647), .inl ((-2147483648), 2147483647), .inl ((-2147483648), 2147483647)], [(5, (0, 5)), (8, (0, 29)), (9, (0, 30))], [(some (.inl (0, 0)), [], []), (some (.inl (1, 1)), [(8, none, (0, 29)), (9, none, (1, 30))], [(1, (0, 4)), (2, (0, 4)), (3, (0, 7))])], (false, false), 9)
/-- CapitalCase.heldSlots:()I None -/
noncomputable def zc_90 : aC := ([.inr (.inl (0, 0))], [], [(some (.inl ((-2147483648), 2147483647)), [], [])], (false, false), 1)
/-- CapitalCase.hold:(I)Z None -/
noncomputable def zc_91 : aC := ([.inr (.inl (0, 0)), .inl ((-2147483648), 2147483647)], [], [(some (.inl (1, 1)), [], [(1, (0, 2))]), (some (.inl (0, 0)), [], [(1, ((-2147483648), (-1)))]), (some (.inl (0, 0)), [], [(1, (3, 2147483647))])], (true, true), 8)
/-- CapitalCase.house:(III)I None -/
noncomputable def zc_92 : aC := ([.inr (.inl (0, 0)), .inl ((-2147483648), 2147483647), .inl ((-2147483648), 2147483647), .inl ((-2147483648), 2147483647)], [(4, (0, 408)), (5, (0, 5))], [(some (.inl ((-1), (-1))), [], []), (some (.inl ((-2147483648), 2147483647)), [], [(1, (0, 4)), (2, (0, 7)), (3, (0, 6))])], (true, false), 8)
/-- CapitalCase.isCell:(II)Z None -/
noncomputable def zc_93 : aC := ([.inr (.inl (0, 0)), .inl ((-2147483648), 2147483647), .inl ((-2147483648), 2147483647)], [(5, (0, 5))], [(some (.inl (0, 0)), [], []), (some (.inl (1, 1)), [], [(1, (0, 4)), (2, (0, 7))])], (false, false), 2)
/-- CapitalCase.isHouse:(I)Z None -/
noncomputable def zc_94 : aC := ([.inr (.inl (0, 0)), .inl ((-2147483648), 2147483647)], [(5, (0, 5))], [(some (.inl (0, 0)), [], []), (some (.inl (1, 1)), [], [(1, (0, 4))])], (false, false), 1)
/-- CapitalCase.isOpen:(I)Z None -/
noncomputable def zc_95 : aC := ([.inr (.inl (0, 0)), .inl (0, 6)], [(6, (0, 7))], [(some (.inl (0, 0)), [], []), (some (.inl (1, 1)), [], [])], (false, false), 2)
/-- CapitalCase.isVerse:(I)Z None -/
noncomputable def zc_96 : aC := ([.inr (.inl (0, 0)), .inl ((-2147483648), 2147483647)], [(6, (0, 7))], [(some (.inl (0, 0)), [], []), (some (.inl (1, 1)), [], [(1, (0, 6))])], (false, false), 1)
/-- CapitalCase.late:()I None -/
noncomputable def zc_97 : aC := ([.inr (.inl (0, 0))], [(6, (0, 7))], [(some (.inl (0, 127)), [], [])], (false, false), 2)
/-- CapitalCase.lend:(III)Z None -/
noncomputable def zc_98 : aC := ([.inr (.inl (0, 0)), .inl ((-2147483648), 2147483647), .inl ((-2147483648), 2147483647), .inl ((-2147483648), 2147483647)], [(5, (0, 5)), (8, (0, 29)), (9, (0, 30))], [(some (.inl (0, 0)), [], []), (some (.inl (1, 1)), [(8, none, (0, 29)), (9, none, (1, 30))], [(1, (0, 4)), (2, (0, 4)), (3, (0, 7))])], (false, false), 9)
/-- CapitalCase.loans:(II)I None -/
noncomputable def zc_99 : aC := ([.inr (.inl (0, 0)), .inl ((-2147483648), 2147483647), .inl ((-2147483648), 2147483647)], [(5, (0, 5)), (6, (0, 7))], [(some (.inl ((-1), (-1))), [], []), (some (.inl ((-2), (-2))), [], [(1, (0, 4)), (2, (0, 6))]), (some (.inl ((-2147483648), 2147483647)), [], [(1, (0, 4)), (2, (0, 6))])], (false, false), 4)
/-- CapitalCase.paidIn:(I)I None -/
noncomputable def zc_100 : aC := ([.inr (.inl (0, 0)), .inl ((-2147483648), 2147483647)], [(4, (0, 408)), (5, (0, 5)), (6, (0, 7))], [(some (.inl ((-1), (-1))), [], []), (some (.inl ((-2147483648), 2147483647)), [], [(1, (0, 60))])], (true, false), 11)
/-- CapitalCase.pillar:(I)I None -/
noncomputable def zc_101 : aC := ([.inr (.inl (0, 0)), .inl ((-2147483648), 2147483647)], [(4, (0, 408)), (5, (0, 5)), (6, (0, 7))], [(some (.inl ((-1), (-1))), [], []), (some (.inl ((-2147483648), 2147483647)), [], [(1, (0, 1))])], (true, false), 23)
/-- CapitalCase.place:()I None -/
noncomputable def zc_102 : aC := ([.inr (.inl (0, 0))], [], [(some (.inl ((-2147483648), 2147483647)), [], [])], (false, false), 1)
/-- CapitalCase.read:()I None -/
noncomputable def zc_103 : aC := ([.inr (.inl (0, 0))], [(1, (0, 2000)), (2, (0, 400)), (3, (0, 12)), (4, (0, 408)), (5, (0, 5)), (6, (0, 7)), (7, (0, 20)), (9, (0, 30))], [(some (.inl ((-2147483648), 2147483647)), [(1, none, (0, 0)), (2, none, (0, 400)), (3, none, (0, 12)), (4, none, (0, 408)), (5, none, (0, 5)), (6, none, (0, 7))], []), (some (.inl (0, 0)), [(1, none, (0, 0)), (2, none, (0, 400)), (3, none, (0, 12)), (4, none, (0, 408)), (5, none, (0, 5)), (6, none, (0, 7)), (7, none, (0, 0)), (9, none, (0, 0))], [])], (true, true), 62)
/-- CapitalCase.restore:(I)Z None -/
noncomputable def zc_104 : aC := ([.inr (.inl (0, 0)), .inl ((-2147483648), 2147483647)], [(9, (0, 30))], [(some (.inl (0, 1)), [(9, none, (0, 30))], [])], (false, false), 8)
/-- CapitalCase.set:(I)Z None -/
noncomputable def zc_105 : aC := ([.inr (.inl (0, 0)), .inl ((-2147483648), 2147483647)], [(4, (0, 408)), (5, (0, 5)), (6, (0, 7)), (8, (0, 29)), (9, (0, 30))], [(some (.inl (0, 0)), [], []), (some (.inl (1, 1)), [(8, none, (0, 29)), (9, none, (1, 30))], [(1, (0, 6))])], (true, false), 23)
/-- CapitalCase.settable:()I None -/
noncomputable def zc_106 : aC := ([.inr (.inl (0, 0))], [(4, (0, 408)), (5, (0, 5)), (6, (0, 7))], [(some (.inl ((-2147483648), 2147483647)), [], [])], (true, false), 23)
/-- CapitalCase.standOf:(I)I None -/
noncomputable def zc_107 : aC := ([.inr (.inl (0, 0)), .inl (0, 6)], [], [(some (.inl (0, 0)), [], []), (some (.inl (1, 1)), [], []), (some (.inl (2, 2)), [], []), (some (.inl (3, 3)), [], [])], (false, false), 1)
/-- CapitalCase.strike:(I)I None -/
noncomputable def zc_108 : aC := ([.inr (.inl (0, 0)), .inl ((-2147483648), 2147483647)], [(6, (0, 7))], [(some (.inl ((-1), (-1))), [], []), (some (.inl (0, 127)), [], [(1, (0, 255))])], (false, false), 2)
/-- CapitalCase.sum:([I)I None -/
noncomputable def zc_109 : aC := ([.inr (.inl (1, 1001))], [], [(some (.inl ((-2147483648), 2147483647)), [], [])], (false, false), 1)
/-- CapitalCase.sum:([I)I None -/
noncomputable def zc_110 : aC := ([.inr (.inl (1, 1002))], [], [(some (.inl ((-2147483648), 2147483647)), [], [])], (false, false), 1)
/-- CapitalCase.sum:([I)I None -/
noncomputable def zc_111 : aC := ([.inr (.inl (1, 1004))], [], [(some (.inl ((-2147483648), 2147483647)), [], [])], (false, false), 1)
/-- CapitalCase.tell:(IIZ)I None -/
noncomputable def zc_112 : aC := ([.inr (.inl (0, 0)), .inl ((-2147483648), 2147483647), .inl ((-2147483648), 2147483647), .inl (0, 1)], [(7, (0, 20))], [(some (.inl ((-1), (-1))), [], []), (some (.inl (0, 19)), [(7, some 1, (1, 20))], [(1, (0, 7)), (2, (0, 999))])], (false, false), 2)
/-- CapitalCase.tells:(IIII)I None -/
noncomputable def zc_113 : aC := ([.inr (.inl (0, 0)), .inl ((-2147483648), 2147483647), .inl ((-2147483648), 2147483647), .inl ((-2147483648), 2147483647), .inl ((-2147483648), 2147483647)], [(4, (0, 408)), (5, (0, 5)), (6, (0, 7))], [(some (.inl ((-1000000000), (-1000000000))), [], []), (some (.inl ((-2147483648), 2147483647)), [], [(1, (0, 4)), (2, (0, 7)), (3, (0, 6)), (4, (1, 1))]), (some (.inl (0, 0)), [], [(1, (0, 4)), (2, (0, 7)), (3, (0, 6)), (4, (0, 0))]), (some (.inl (1, 1)), [], [(1, (0, 4)), (2, (0, 7)), (3, (0, 6)), (4, (0, 0))])], (true, false), 8)
/-- CapitalCase.then:(IIII)I None -/
noncomputable def zc_114 : aC := ([.inr (.inl (0, 0)), .inl ((-2147483648), 2147483647), .inl ((-2147483648), 2147483647), .inl ((-2147483648), 2147483647), .inl ((-2147483648), 2147483647)], [(4, (0, 408)), (5, (0, 5)), (6, (0, 7))], [(some (.inl ((-1), (-1))), [], []), (some (.inl ((-2147483648), 2147483647)), [], [(1, (0, 4)), (2, (0, 7)), (3, (0, 60)), (4, (0, 1))])], (true, false), 11)
/-- CapitalCase.twoDays:(I)I None -/
noncomputable def zc_115 : aC := ([.inr (.inl (0, 0)), .inl ((-2147483648), 2147483647)], [(4, (0, 408)), (5, (0, 5)), (6, (0, 7))], [(some (.inl ((-1), (-1))), [], []), (some (.inl ((-2147483648), 2147483647)), [], [(1, (0, 1))])], (true, false), 24)
/-- CapitalCase.undo:()Z None -/
noncomputable def zc_116 : aC := ([.inr (.inl (0, 0))], [(8, (0, 29)), (9, (0, 30))], [(some (.inl (0, 0)), [], []), (some (.inl (1, 1)), [(8, none, (0, 29)), (9, some (-1), (0, 29))], [])], (false, false), 9)
/-- CapitalCase.verse:(II)I None -/
noncomputable def zc_117 : aC := ([.inr (.inl (0, 0)), .inl ((-2147483648), 2147483647), .inl ((-2147483648), 2147483647)], [(4, (0, 408)), (6, (0, 7))], [(some (.inl ((-2147483648), 2147483647)), [], [])], (true, false), 8)
/-- CapitalCase.wants:(II)I None -/
noncomputable def zc_118 : aC := ([.inr (.inl (0, 0)), .inl ((-2147483648), 2147483647), .inl ((-2147483648), 2147483647)], [(6, (0, 7))], [(some (.inl ((-1), (-1))), [], []), (some (.inl (0, 7)), [], [(1, (0, 6)), (2, (0, 7))])], (true, false), 2)
/-- CapitalCase.whose:(II)I None -/
noncomputable def zc_119 : aC := ([.inr (.inl (0, 0)), .inl ((-2147483648), 2147483647), .inl ((-2147483648), 2147483647)], [(5, (0, 5)), (7, (0, 20))], [(some (.inl ((-1), (-1))), [], []), (some (.inl ((-2147483648), 2147483647)), [], [(1, (0, 20)), (2, (0, 1))])], (false, false), 2)
/-- CapitalCase.wornOut:(II)I None -/
noncomputable def zc_120 : aC := ([.inr (.inl (0, 0)), .inl ((-2147483648), 2147483647), .inl ((-2147483648), 2147483647)], [(4, (0, 408)), (5, (0, 5))], [(some (.inl ((-1), (-1))), [], []), (some (.inl ((-2), (-2))), [], [(1, (0, 4)), (2, (0, 7))]), (some (.inl (1, 200)), [], [(1, (0, 4)), (2, (0, 7))])], (true, false), 10)
/-- CapitalCase.worth:(II)I None -/
noncomputable def zc_121 : aC := ([.inr (.inl (0, 0)), .inl ((-2147483648), 2147483647), .inl ((-2147483648), 2147483647)], [(4, (0, 408)), (5, (0, 5)), (6, (0, 7))], [(some (.inl ((-1), (-1))), [], []), (some (.inl ((-2147483648), 2147483647)), [], [(1, (0, 4)), (2, (0, 7))])], (true, false), 23)
/-- CapitalCase.year:(IIII)I None -/
noncomputable def zc_122 : aC := ([.inr (.inl (0, 0)), .inl ((-2147483648), 2147483647), .inl ((-2147483648), 2147483647), .inl ((-2147483648), 2147483647), .inl ((-2147483648), 2147483647)], [(4, (0, 408)), (5, (0, 5)), (6, (0, 7))], [(some (.inl ((-1), (-1))), [], []), (some (.inl ((-2147483648), 2147483647)), [], [(1, (0, 4)), (2, (0, 7)), (3, (0, 60)), (4, (1, 20))])], (true, false), 11)
/-- CapitalCaseModel.areThieves:()Z None -/
noncomputable def zc_123 : aC := ([.inr (.inl (0, 75))], [(22, (0, 1))], [(some (.inl (0, 0)), [], []), (some (.inl (1, 1)), [], [])], (false, false), 3)
/-- CapitalCaseModel.areTwo:(III)Z None -/
noncomputable def zc_124 : aC := ([.inr (.inl (0, 75)), .inl ((-2147483648), 2147483647), .inl ((-2147483648), 2147483647), .inl ((-2147483648), 2147483647)], [(22, (0, 1))], [(some (.inl (0, 0)), [], []), (some (.inl (1, 1)), [], [(1, (0, 4)), (2, (0, 4)), (3, (0, 7))])], (true, false), 3)
/-- CapitalCaseModel.ask:(II)I None -/
noncomputable def zc_125 : aC := ([.inr (.inl (0, 75)), .inl ((-2147483648), 2147483647), .inl ((-2147483648), 2147483647)], [(21, (0, 20)), (22, (0, 1))], [(some (.inl ((-1), (-1))), [], []), (some (.inl ((-2), 7)), [], [(1, (0, 20)), (2, (0, 999))])], (true, false), 2)
/-- CapitalCaseModel.back:(I)I None -/
noncomputable def zc_126 : aC := ([.inr (.inl (0, 75)), .inl ((-2147483648), 2147483647)], [(10, (0, 2000))], [(some (.inl ((-2147483648), 2147483647)), [(10, none, (0, 2000))], [])], (false, false), 2)
/-- CapitalCaseModel.bargains:(I)I None -/
noncomputable def zc_127 : aC := ([.inr (.inl (0, 75)), .inl ((-2147483648), 2147483647)], [(22, (0, 1))], [(some (.inl ((-1), (-1))), [], []), (some (.inl ((-2147483648), 2147483647)), [], [(1, (0, 1))])], (true, false), 4)
/-- CapitalCaseModel.begins:()V None -/
noncomputable def zc_128 : aC := ([.inr (.inl (0, 75))], [(22, (0, 1))], [(none, [], [])], (true, false), 1)
/-- CapitalCaseModel.best:(I)I None -/
noncomputable def zc_129 : aC := ([.inr (.inl (0, 75)), .inl ((-2147483648), 2147483647)], [(22, (0, 1))], [(some (.inl ((-1), (-1))), [], []), (some (.inl ((-2147483648), 2147483647)), [], [(1, (0, 1))])], (true, false), 12)
/-- CapitalCaseModel.bits:(I)I None -/
noncomputable def zc_130 : aC := ([.inl ((-2147483648), 2147483647)], [], [(some (.inl ((-2147483648), 2147483647)), [], [])], (false, false), 1)
/-- CapitalCaseModel.bounded:(II)I None -/
noncomputable def zc_131 : aC := ([.inr (.inl (0, 75)), .inl ((-2147483648), 2147483647), .inl ((-2147483648), 2147483647)], [(12, (0, 400)), (13, (0, 2147483647))], [(some (.inl ((-2147483648), 2147483647)), [(12, some 1, (1, 400)), (13, some 0, (0, 0))], []), (some (.inl ((-2147483648), 2147483647)), [(13, some 0, (1, 2147483647))], []), (some (.inl ((-2147483648), 2147483647)), [(13, none, (1, 6))], [])], (true, false), 3)
/-- CapitalCaseModel.canSet:(I)Z None -/
noncomputable def zc_132 : aC := ([.inr (.inl (0, 75)), .inl (1, 127)], [(22, (0, 1))], [(some (.inl (0, 0)), [], []), (some (.inl (1, 1)), [], [])], (true, false), 10)
/-- CapitalCaseModel.clash:(I)I None -/
noncomputable def zc_133 : aC := ([.inr (.inl (0, 75)), .inl ((-2147483648), 2147483647)], [(22, (0, 1))], [(some (.inl ((-1), (-1))), [], []), (some (.inl ((-2), (-2))), [], [(1, (0, 6))]), (some (.inl ((-2147483648), 2147483647)), [], [(1, (0, 6))])], (true, false), 9)
/-- CapitalCaseModel.clear:(I)Z None -/
noncomputable def zc_134 : aC := ([.inr (.inl (0, 75)), .inl ((-2147483648), 2147483647)], [(20, (0, 30)), (22, (0, 1))], [(some (.inl (0, 0)), [], []), (some (.inl (1, 1)), [(20, none, (1, 30))], [(1, (0, 6))])], (true, false), 4)
/-- CapitalCaseModel.clears:(I)V None -/
noncomputable def zc_135 : aC := ([.inr (.inl (0, 75)), .inl (0, 6)], [(22, (0, 1))], [(none, [], [])], (false, false), 1)
/-- CapitalCaseModel.copies:()V None -/
noncomputable def zc_136 : aC := ([.inr (.inl (0, 75))], [(22, (0, 1))], [(none, [], [])], (false, false), 1)
/-- CapitalCaseModel.count:(I)I None -/
noncomputable def zc_137 : aC := ([.inr (.inl (0, 75)), .inl ((-2147483648), 2147483647)], [(10, (0, 2000)), (20, (0, 30)), (21, (0, 20)), (22, (0, 1))], [(some (.inl ((-2147483648), 2147483647)), [], [])], (true, false), 11)
/-- CapitalCaseModel.dayGoes:()V None -/
noncomputable def zc_138 : aC := ([.inr (.inl (0, 75))], [(22, (0, 1))], [(none, [], [])], (true, false), 8)
/-- CapitalCaseModel.days:(I)I None -/
noncomputable def zc_139 : aC := ([.inr (.inl (0, 75)), .inl ((-2147483648), 2147483647)], [(20, (0, 30)), (22, (0, 1))], [(some (.inl ((-1), (-1))), [], []), (some (.inl ((-2147483648), 2147483647)), [(20, none, (1, 30))], [(1, (1, 60))]), (some (.inl ((-2147483648), 2147483647)), [], [(1, (0, 0))])], (true, false), 10)
/-- CapitalCaseModel.fail:(I)V None -/
noncomputable def zc_140 : aC := ([.inr (.inl (0, 75)), .inl (1, 6)], [(12, (0, 400)), (13, (0, 2147483647))], [(none, [(13, some 0, (1, 2147483647))], []), (none, [(13, none, (1, 6))], [])], (false, false), 1)
/-- CapitalCaseModel.feed:(IIIII)I None -/
noncomputable def zc_141 : aC := ([.inr (.inl (0, 75)), .inl ((-2147483648), 2147483647), .inl ((-2147483648), 2147483647), .inl ((-2147483648), 2147483647), .inl ((-2147483648), 2147483647), .inl ((-2147483648), 2147483647)], [(10, (0, 2000))], [(some (.inl ((-1), (-1))), [(10, some 0, (1981, 2000))], []), (some (.inl (20, 2000)), [(10, some 20, (20, 2000))], [])], (false, false), 2)
/-- CapitalCaseModel.findsBest:()V None -/
noncomputable def zc_142 : aC := ([.inr (.inl (0, 75))], [(22, (0, 1))], [(none, [], [])], (true, false), 11)
/-- CapitalCaseModel.firstDay:(I)I None -/
noncomputable def zc_143 : aC := ([.inr (.inl (0, 75)), .inl (0, 127)], [(22, (0, 1))], [(some (.inl ((-1), (-1))), [], []), (some (.inl ((-2147483648), 2147483647)), [], [])], (true, false), 10)
/-- CapitalCaseModel.forget:()I None -/
noncomputable def zc_144 : aC := ([.inr (.inl (0, 75))], [(21, (0, 20))], [(some (.inl (0, 20)), [(21, none, (0, 0))], [])], (false, false), 1)
/-- CapitalCaseModel.freeOf:(II)I None -/
noncomputable def zc_145 : aC := ([.inr (.inl (0, 75)), .inl (0, 4), .inl (0, 7)], [], [(some (.inl (0, 0)), [], []), (some (.inl (0, 2147483647)), [], [])], (false, false), 1)
/-- CapitalCaseModel.from:(II)I None -/
noncomputable def zc_146 : aC := ([.inr (.inl (0, 75)), .inl ((-2147483648), 2147483647), .inl ((-2147483648), 2147483647)], [(22, (0, 1))], [(some (.inl ((-1), (-1))), [], []), (some (.inl ((-1), 4)), [], [(1, (0, 6)), (2, (0, 7))]), (some (.inl ((-2), (-2))), [], [(1, (0, 6)), (2, (0, 7))]), (some (.inl ((-3), (-3))), [], [(1, (0, 6)), (2, (0, 7))])], (true, false), 10)
/-- CapitalCaseModel.giveBack:(III)Z None -/
noncomputable def zc_147 : aC := ([.inr (.inl (0, 75)), .inl ((-2147483648), 2147483647), .inl ((-2147483648), 2147483647), .inl ((-2147483648), 2147483647)], [(20, (0, 30)), (22, (0, 1))], [(some (.inl (0, 0)), [], []), (some (.inl (1, 1)), [(20, none, (1, 30))], [(1, (0, 4)), (2, (0, 4)), (3, (0, 7))])], (true, false), 4)
/-- CapitalCaseModel.giverOf:(II)I None -/
noncomputable def zc_148 : aC := ([.inr (.inl (0, 75)), .inl (0, 7), .inl (0, 6)], [(22, (0, 1))], [(some (.inl ((-1), 4)), [], [])], (true, false), 8)
/-- CapitalCaseModel.givesLeave:(III)Z None -/
noncomputable def zc_149 : aC := ([.inr (.inl (0, 75)), .inl (0, 4), .inl (0, 7), .inl (0, 6)], [(22, (0, 1))], [(some (.inl (0, 0)), [], []), (some (.inl (1, 1)), [], [])], (true, false), 7)
/-- CapitalCaseModel.goes:(I)V None -/
noncomputable def zc_150 : aC := ([.inr (.inl (0, 75)), .inl (0, 60)], [(22, (0, 1))], [(none, [], [])], (true, false), 9)
/-- CapitalCaseModel.goesOn:()V None -/
noncomputable def zc_151 : aC := ([.inr (.inl (0, 75))], [(12, (0, 400)), (13, (0, 2147483647))], [(none, [(12, some 0, (400, 400)), (13, some 0, (1, 2147483647))], []), (none, [(12, some 0, (400, 400)), (13, none, (1, 6))], []), (none, [(12, some 1, (1, 400))], [])], (false, false), 2)
/-- CapitalCaseModel.held:(III)I None -/
noncomputable def zc_152 : aC := ([.inl ((-2147483648), 2147483647), .inl (0, 0), .inl (9, 999)], [], [(some (.inl (0, 0)), [], [(0, ((-2147483648), (-1)))]), (some (.inl (0, 999)), [], [(0, (0, 2147483647))])], (false, false), 1)
/-- CapitalCaseModel.hold:(I)Z None -/
noncomputable def zc_153 : aC := ([.inr (.inl (0, 75)), .inl ((-2147483648), 2147483647)], [], [(some (.inl (1, 1)), [], [(1, (0, 2))]), (some (.inl (0, 0)), [], [(1, ((-2147483648), (-1)))]), (some (.inl (0, 0)), [], [(1, (3, 2147483647))])], (false, false), 8)
/-- CapitalCaseModel.house:(III)I None -/
noncomputable def zc_154 : aC := ([.inr (.inl (0, 75)), .inl ((-2147483648), 2147483647), .inl ((-2147483648), 2147483647), .inl ((-2147483648), 2147483647)], [(22, (0, 1))], [(some (.inl ((-1), (-1))), [], []), (some (.inl ((-2147483648), 2147483647)), [], [(1, (0, 4)), (2, (0, 7)), (3, (0, 6))]), (some (.inl (0, 0)), [], [(1, (0, 4)), (2, (0, 7)), (3, (2, 6))])], (true, false), 8)
/-- CapitalCaseModel.in:(III)Z (('CapitalCaseModel.ask:(II)I', (75, None, None), None), 17) -/
noncomputable def zc_155 : aC := ([.inl ((-2147483648), 2147483647), .inl (0, 0), .inl (999, 999)], [], [(some (.inl (0, 0)), [], []), (some (.inl (1, 1)), [], [(0, (0, 999))])], (false, false), 1)
/-- CapitalCaseModel.in:(III)Z (('CapitalCaseModel.ask:(II)I', (75, None, None), None), 6) -/
noncomputable def zc_156 : aC := ([.inl ((-2147483648), 2147483647), .inl (0, 0), .inl (0, 20)], [], [(some (.inl (0, 0)), [], []), (some (.inl (1, 1)), [], [(0, (0, 20))])], (false, false), 1)
/-- CapitalCaseModel.in:(III)Z (('CapitalCaseModel.bargains:(I)I', (75, None), None), 3) -/
noncomputable def zc_157 : aC := ([.inl ((-2147483648), 2147483647), .inl (0, 0), .inl (1, 1)], [], [(some (.inl (0, 0)), [], []), (some (.inl (1, 1)), [], [(0, (0, 1))])], (false, false), 1)
/-- CapitalCaseModel.in:(III)Z (('CapitalCaseModel.best:(I)I', (75, None), None), 3) -/
noncomputable def zc_158 : aC := ([.inl ((-2147483648), 2147483647), .inl (0, 0), .inl (1, 1)], [], [(some (.inl (0, 0)), [], []), (some (.inl (1, 1)), [], [(0, (0, 1))])], (false, false), 1)
/-- CapitalCaseModel.in:(III)Z (('CapitalCaseModel.from:(II)I', (75, None, None), None), 26) -/
noncomputable def zc_159 : aC := ([.inl ((-2147483648), 2147483647), .inl (0, 0), .inl ((-1), 7)], [], [(some (.inl (0, 0)), [], []), (some (.inl (1, 1)), [], [(0, (0, 7)), (2, (0, 7))])], (false, false), 1)
/-- CapitalCaseModel.in:(III)Z (('CapitalCaseModel.isHouse:(I)Z', (75, None), None), 13) -/
noncomputable def zc_160 : aC := ([.inl ((-2147483648), 2147483647), .inl (0, 0), .inl ((-1), 4)], [], [(some (.inl (0, 0)), [], []), (some (.inl (1, 1)), [], [(0, (0, 4)), (2, (0, 4))])], (false, false), 1)
/-- CapitalCaseModel.in:(III)Z (('CapitalCaseModel.isLong:(I)Z', (None,), None), 4) -/
noncomputable def zc_161 : aC := ([.inl ((-2147483648), 2147483647), .inl (0, 0), .inl (60, 60)], [], [(some (.inl (0, 0)), [], []), (some (.inl (1, 1)), [], [(0, (0, 60))])], (false, false), 1)
/-- CapitalCaseModel.in:(III)Z (('CapitalCaseModel.isSort:(I)Z', (None,), None), 4) -/
noncomputable def zc_162 : aC := ([.inl ((-2147483648), 2147483647), .inl (0, 0), .inl (7, 7)], [], [(some (.inl (0, 0)), [], []), (some (.inl (1, 1)), [], [(0, (0, 7))])], (false, false), 1)
/-- CapitalCaseModel.in:(III)Z (('CapitalCaseModel.isVerse:(I)Z', (75, None), None), 13) -/
noncomputable def zc_163 : aC := ([.inl ((-2147483648), 2147483647), .inl (0, 0), .inl ((-1), 6)], [], [(some (.inl (0, 0)), [], []), (some (.inl (1, 1)), [], [(0, (0, 6)), (2, (0, 6))])], (false, false), 1)
/-- CapitalCaseModel.in:(III)Z (('CapitalCaseModel.pillar:(I)I', (75, None), None), 3) -/
noncomputable def zc_164 : aC := ([.inl ((-2147483648), 2147483647), .inl (0, 0), .inl (1, 1)], [], [(some (.inl (0, 0)), [], []), (some (.inl (1, 1)), [], [(0, (0, 1))])], (false, false), 1)
/-- CapitalCaseModel.in:(III)Z (('CapitalCaseModel.strike:(I)I', (75, None), None), 5) -/
noncomputable def zc_165 : aC := ([.inl ((-2147483648), 2147483647), .inl (0, 0), .inl (255, 255)], [], [(some (.inl (0, 0)), [], []), (some (.inl (1, 1)), [], [(0, (0, 255))])], (false, false), 1)
/-- CapitalCaseModel.in:(III)Z (('CapitalCaseModel.tell:(IIZ)I', (75, None, None, None), None), 21) -/
noncomputable def zc_166 : aC := ([.inl ((-2147483648), 2147483647), .inl (0, 0), .inl (999, 999)], [], [(some (.inl (0, 0)), [], []), (some (.inl (1, 1)), [], [(0, (0, 999))])], (false, false), 1)
/-- CapitalCaseModel.in:(III)Z (('CapitalCaseModel.tells:(IIII)I', (75, None, None, None, None), None), 27) -/
noncomputable def zc_167 : aC := ([.inl ((-2147483648), 2147483647), .inl (0, 0), .inl (1, 1)], [], [(some (.inl (0, 0)), [], []), (some (.inl (1, 1)), [], [(0, (0, 1))])], (false, false), 1)
/-- CapitalCaseModel.in:(III)Z (('CapitalCaseModel.then:(IIII)I', (75, None, None, None, None), None), 26) -/
noncomputable def zc_168 : aC := ([.inl ((-2147483648), 2147483647), .inl (0, 0), .inl (1, 1)], [], [(some (.inl (0, 0)), [], []), (some (.inl (1, 1)), [], [(0, (0, 1))])], (false, false), 1)
/-- CapitalCaseModel.in:(III)Z (('CapitalCaseModel.twoDays:(I)I', (75, None), None), 3) -/
noncomputable def zc_169 : aC := ([.inl ((-2147483648), 2147483647), .inl (0, 0), .inl (1, 1)], [], [(some (.inl (0, 0)), [], []), (some (.inl (1, 1)), [], [(0, (0, 1))])], (false, false), 1)
/-- CapitalCaseModel.in:(III)Z (('CapitalCaseModel.versesSo:(II)I', (75, None, None), None), 32) -/
noncomputable def zc_170 : aC := ([.inl ((-2147483648), 2147483647), .inl (1, 2), .inl (2, 3)], [], [(some (.inl (0, 0)), [], []), (some (.inl (1, 1)), [], [(0, (1, 3))])], (false, false), 1)
/-- CapitalCaseModel.in:(III)Z (('CapitalCaseModel.wants:(II)I', (75, None, None), None), 26) -/
noncomputable def zc_171 : aC := ([.inl ((-2147483648), 2147483647), .inl (0, 0), .inl ((-1), 7)], [], [(some (.inl (0, 0)), [], []), (some (.inl (1, 1)), [], [(0, (0, 7)), (2, (0, 7))])], (false, false), 1)
/-- CapitalCaseModel.in:(III)Z (('CapitalCaseModel.whose:(II)I', (75, None, None), None), 15) -/
noncomputable def zc_172 : aC := ([.inl ((-2147483648), 2147483647), .inl (0, 0), .inl (1, 1)], [], [(some (.inl (0, 0)), [], []), (some (.inl (1, 1)), [], [(0, (0, 1))])], (false, false), 1)
/-- CapitalCaseModel.in:(III)Z (('CapitalCaseModel.whose:(II)I', (75, None, None), None), 6) -/
noncomputable def zc_173 : aC := ([.inl ((-2147483648), 2147483647), .inl (0, 0), .inl (0, 20)], [], [(some (.inl (0, 0)), [], []), (some (.inl (1, 1)), [], [(0, (0, 20))])], (false, false), 1)
/-- CapitalCaseModel.in:(III)Z (('CapitalCaseModel.year:(IIII)I', (75, None, None, None, None), None), 27) -/
noncomputable def zc_174 : aC := ([.inl ((-2147483648), 2147483647), .inl (1, 1), .inl (20, 20)], [], [(some (.inl (0, 0)), [], []), (some (.inl (1, 1)), [], [(0, (1, 20))])], (false, false), 1)
/-- CapitalCaseModel.is:(I)Z None -/
noncomputable def zc_175 : aC := ([.inr (.inl (0, 75)), .inl (0, 40)], [(12, (0, 400)), (13, (0, 2147483647))], [(some (.inl (0, 0)), [], []), (some (.inl (1, 1)), [(13, some 0, (0, 0))], [])], (true, false), 1)
/-- CapitalCaseModel.isBargain:(IIII)Z None -/
noncomputable def zc_176 : aC := ([.inr (.inl (0, 75)), .inl (0, 4), .inl (1, 4), .inl (0, 7), .inl (0, 7)], [(22, (0, 1))], [(some (.inl (0, 0)), [], []), (some (.inl (1, 1)), [], [])], (true, false), 3)
/-- CapitalCaseModel.isHouse:(I)Z None -/
noncomputable def zc_177 : aC := ([.inr (.inl (0, 75)), .inl ((-2147483648), 2147483647)], [(22, (0, 1))], [(some (.inl (0, 0)), [], []), (some (.inl (1, 1)), [], [(1, (0, 4))])], (true, false), 2)
/-- CapitalCaseModel.isLong:(I)Z None -/
noncomputable def zc_178 : aC := ([.inl ((-2147483648), 2147483647)], [], [(some (.inl (0, 0)), [], []), (some (.inl (1, 1)), [], [(0, (0, 60))])], (false, false), 2)
/-- CapitalCaseModel.isOpen:(I)Z None -/
noncomputable def zc_179 : aC := ([.inr (.inl (0, 75)), .inl (0, 6)], [], [(some (.inl (0, 0)), [], []), (some (.inl (1, 1)), [], [])], (false, false), 1)
/-- CapitalCaseModel.isSort:(I)Z None -/
noncomputable def zc_180 : aC := ([.inl ((-2147483648), 2147483647)], [], [(some (.inl (0, 0)), [], []), (some (.inl (1, 1)), [], [(0, (0, 7))])], (false, false), 2)
/-- CapitalCaseModel.isVerse:(I)Z None -/
noncomputable def zc_181 : aC := ([.inr (.inl (0, 75)), .inl ((-2147483648), 2147483647)], [(22, (0, 1))], [(some (.inl (0, 0)), [], []), (some (.inl (1, 1)), [], [(1, (0, 6))])], (true, false), 2)
/-- CapitalCaseModel.keepsAhead:()V None -/
noncomputable def zc_182 : aC := ([.inr (.inl (0, 75))], [], [(none, [], [])], (false, false), 1)
/-- CapitalCaseModel.keepsRow:()V None -/
noncomputable def zc_183 : aC := ([.inr (.inl (0, 75))], [], [(none, [], [])], (false, false), 1)
/-- CapitalCaseModel.late:()I None -/
noncomputable def zc_184 : aC := ([.inr (.inl (0, 75))], [(22, (0, 1))], [(some (.inl ((-2147483648), 2147483647)), [], [])], (true, false), 3)
/-- CapitalCaseModel.lawTells:(II)I None -/
noncomputable def zc_185 : aC := ([.inr (.inl (0, 75)), .inl (0, 3), .inl ((-2147483648), 2147483647)], [(22, (0, 1))], [(some (.inl ((-2147483648), 2147483647)), [], [])], (true, false), 6)
/-- CapitalCaseModel.lend:(III)Z None -/
noncomputable def zc_186 : aC := ([.inr (.inl (0, 75)), .inl ((-2147483648), 2147483647), .inl ((-2147483648), 2147483647), .inl ((-2147483648), 2147483647)], [(20, (0, 30)), (22, (0, 1))], [(some (.inl (0, 0)), [], []), (some (.inl (1, 1)), [(20, none, (1, 30))], [(1, (0, 4)), (2, (0, 4)), (3, (0, 7))])], (true, false), 4)
/-- CapitalCaseModel.lentOut:(II)I None -/
noncomputable def zc_187 : aC := ([.inr (.inl (0, 75)), .inl (0, 4), .inl (0, 7)], [], [(some (.inl ((-2147483648), 2147483647)), [], [])], (false, false), 1)
/-- CapitalCaseModel.lentTo:(II)I None -/
noncomputable def zc_188 : aC := ([.inr (.inl (0, 75)), .inl (0, 4), .inl (0, 7)], [], [(some (.inl ((-2147483648), 2147483647)), [], [])], (false, false), 1)
/-- CapitalCaseModel.loans:(II)I None -/
noncomputable def zc_189 : aC := ([.inr (.inl (0, 75)), .inl ((-2147483648), 2147483647), .inl ((-2147483648), 2147483647)], [(22, (0, 1))], [(some (.inl ((-1), (-1))), [], []), (some (.inl ((-2), (-2))), [], [(1, (0, 4)), (2, (0, 6))]), (some (.inl ((-2147483648), 2147483647)), [], [(1, (0, 4)), (2, (0, 6))])], (true, false), 3)
/-- CapitalCaseModel.looks:()V None -/
noncomputable def zc_190 : aC := ([.inr (.inl (0, 75))], [], [(none, [], [])], (false, false), 1)
/-- CapitalCaseModel.looksAt:(II)V None -/
noncomputable def zc_191 : aC := ([.inr (.inl (0, 75)), .inl (0, 4), .inl (0, 7)], [], [(none, [], [])], (false, false), 2)
/-- CapitalCaseModel.looksFor:(I)V None -/
noncomputable def zc_192 : aC := ([.inr (.inl (0, 75)), .inl (0, 6)], [(22, (0, 1))], [(none, [], [])], (false, false), 1)
/-- CapitalCaseModel.lotOf:(II)I 100 -/
noncomputable def zc_193 : aC := ([.inr (.inl (0, 75)), .inl ((-2147483648), 2147483647), .inl (100, 100)], [], [(some (.inl (0, 99)), [], [])], (false, false), 2)
/-- CapitalCaseModel.lotOf:(II)I 8 -/
noncomputable def zc_194 : aC := ([.inr (.inl (0, 75)), .inl ((-2147483648), 2147483647), .inl (8, 8)], [], [(some (.inl (0, 7)), [], [])], (false, false), 2)
/-- CapitalCaseModel.mixed:(II)I None -/
noncomputable def zc_195 : aC := ([.inl ((-2147483648), 2147483647), .inl ((-2147483648), 2147483647)], [], [(some (.inl ((-2147483648), 2147483647)), [], [])], (false, false), 1)
/-- CapitalCaseModel.must:(I)V None -/
noncomputable def zc_196 : aC := ([.inr (.inl (0, 75)), .inl (0, 40)], [(12, (0, 400)), (13, (0, 2147483647))], [(none, [(12, some 1, (1, 400)), (13, some 0, (0, 0))], []), (none, [(13, some 0, (1, 2147483647))], []), (none, [(13, none, (1, 6))], [])], (true, false), 3)
/-- CapitalCaseModel.named:()I None -/
noncomputable def zc_197 : aC := ([.inr (.inl (0, 75))], [(12, (0, 400)), (13, (0, 2147483647)), (15, (0, 12))], [(some (.inl (0, 400)), [(12, none, (0, 400)), (13, none, (0, 2147483647))], [])], (true, false), 4)
/-- CapitalCaseModel.needsOf:(II)I None -/
noncomputable def zc_198 : aC := ([.inr (.inl (0, 75)), .inl (0, 6), .inl (0, 7)], [(22, (0, 1))], [(some (.inl ((-2147483648), 2147483647)), [], [])], (false, false), 1)
/-- CapitalCaseModel.openBits:()I None -/
noncomputable def zc_199 : aC := ([.inr (.inl (0, 75))], [(22, (0, 1))], [(some (.inl ((-2147483648), 2147483647)), [], [])], (true, false), 2)
/-- CapitalCaseModel.ownVerses:(III)I None -/
noncomputable def zc_200 : aC := ([.inr (.inl (0, 75)), .inl (0, 4), .inl ((-1), 7), .inl ((-1), 7)], [(22, (0, 1))], [(some (.inl ((-2147483648), 2147483647)), [], [])], (true, false), 2)
/-- CapitalCaseModel.paidIn:(I)I None -/
noncomputable def zc_201 : aC := ([.inr (.inl (0, 75)), .inl ((-2147483648), 2147483647)], [(22, (0, 1))], [(some (.inl ((-1), (-1))), [], []), (some (.inl ((-2147483648), 2147483647)), [], [(1, (0, 60))])], (true, false), 10)
/-- CapitalCaseModel.paysOf:(I)I None -/
noncomputable def zc_202 : aC := ([.inr (.inl (0, 75)), .inl (0, 6)], [(22, (0, 1))], [(some (.inl (0, 0)), [], []), (some (.inl (0, 999)), [], [])], (true, false), 7)
/-- CapitalCaseModel.pillar:(I)I None -/
noncomputable def zc_203 : aC := ([.inr (.inl (0, 75)), .inl ((-2147483648), 2147483647)], [(22, (0, 1))], [(some (.inl ((-1), (-1))), [], []), (some (.inl ((-2147483648), 2147483647)), [], [(1, (0, 1))])], (true, false), 12)
/-- CapitalCaseModel.place:()I None -/
noncomputable def zc_204 : aC := ([.inr (.inl (0, 75))], [], [(some (.inl ((-2147483648), 2147483647)), [], [])], (false, false), 1)
/-- CapitalCaseModel.put:(I)V None -/
noncomputable def zc_205 : aC := ([.inr (.inl (0, 75)), .inl ((-2147483648), 2147483647)], [(10, (0, 1996))], [(none, [(10, some 4, (4, 2000))], [])], (false, false), 1)
/-- CapitalCaseModel.rankOf:(III)I None -/
noncomputable def zc_206 : aC := ([.inr (.inl (0, 75)), .inl (0, 4), .inl (0, 7), .inl (0, 6)], [(22, (0, 1))], [(some (.inl ((-2147483648), 2147483647)), [], [])], (true, false), 7)
/-- CapitalCaseModel.read:()I None -/
noncomputable def zc_207 : aC := ([.inr (.inl (0, 75))], [(10, (0, 2000)), (20, (0, 30)), (21, (0, 20)), (22, (0, 1))], [(some (.inl ((-2147483648), 2147483647)), [(10, none, (0, 0)), (20, none, (0, 30)), (21, none, (0, 20)), (22, none, (0, 1)), (11, none, ((-2147483648), 2147483647)), (12, none, ((-2147483648), 2147483647)), (13, none, ((-2147483648), 2147483647)), (14, none, ((-2147483648), 2147483647)), (15, none, ((-2147483648), 2147483647)), (16, none, ((-2147483648), 2147483647)), (17, none, ((-2147483648), 2147483647)), (18, none, ((-2147483648), 2147483647)), (19, none, ((-2147483648), 2147483647)), (23, none, ((-2147483648), 2147483647)), (24, none, ((-2147483648), 2147483647))], [])], (true, true), 60)
/-- CapitalCaseModel.records:()V None -/
noncomputable def zc_208 : aC := ([.inr (.inl (0, 75))], [(20, (0, 30))], [(none, [(20, none, (1, 30))], [])], (false, false), 3)
/-- CapitalCaseModel.restore:(I)Z None -/
noncomputable def zc_209 : aC := ([.inr (.inl (0, 75)), .inl ((-2147483648), 2147483647)], [(20, (0, 30))], [(some (.inl (0, 1)), [(20, none, (0, 30))], [])], (false, false), 8)
/-- CapitalCaseModel.roomFor:(II)V None -/
noncomputable def zc_210 : aC := ([.inr (.inl (0, 75)), .inl ((-2147483648), 2147483647), .inl ((-2147483648), 2147483647)], [(12, (0, 400)), (13, (0, 2147483647))], [(none, [(12, some 1, (1, 400)), (13, some 0, (0, 0))], []), (none, [(13, some 0, (1, 2147483647))], []), (none, [(13, none, (1, 6))], [])], (false, false), 3)
/-- CapitalCaseModel.set:(I)Z None -/
noncomputable def zc_211 : aC := ([.inr (.inl (0, 75)), .inl ((-2147483648), 2147483647)], [(20, (0, 30)), (22, (0, 1))], [(some (.inl (0, 0)), [], []), (some (.inl (1, 1)), [(20, none, (1, 30))], [(1, (0, 6))])], (true, false), 10)
/-- CapitalCaseModel.sets:(I)Z None -/
noncomputable def zc_212 : aC := ([.inr (.inl (0, 75)), .inl (0, 6)], [(22, (0, 1))], [(some (.inl (0, 0)), [], []), (some (.inl (1, 1)), [], [])], (true, false), 9)
/-- CapitalCaseModel.strike:(I)I None -/
noncomputable def zc_213 : aC := ([.inr (.inl (0, 75)), .inl ((-2147483648), 2147483647)], [(22, (0, 1))], [(some (.inl ((-1), (-1))), [], []), (some (.inl ((-2147483648), 2147483647)), [], [(1, (0, 255))])], (true, false), 3)
/-- CapitalCaseModel.sumNow:(II)I None -/
noncomputable def zc_214 : aC := ([.inr (.inl (0, 75)), .inl (0, 120), .inl (40, 200)], [], [(some (.inl ((-2147483648), 2147483647)), [], [])], (false, false), 1)
/-- CapitalCaseModel.tell:(IIZ)I None -/
noncomputable def zc_215 : aC := ([.inr (.inl (0, 75)), .inl ((-2147483648), 2147483647), .inl ((-2147483648), 2147483647), .inl (0, 1)], [(21, (0, 20))], [(some (.inl ((-1), (-1))), [], []), (some (.inl (0, 19)), [(21, some 1, (1, 20))], [(1, (0, 7)), (2, (0, 999))])], (false, false), 3)
/-- CapitalCaseModel.tells:(IIII)I None -/
noncomputable def zc_216 : aC := ([.inr (.inl (0, 75)), .inl ((-2147483648), 2147483647), .inl ((-2147483648), 2147483647), .inl ((-2147483648), 2147483647), .inl ((-2147483648), 2147483647)], [(22, (0, 1))], [(some (.inl ((-1000000000), (-1000000000))), [], []), (some (.inl ((-2147483648), 2147483647)), [], [(1, (0, 4)), (2, (0, 7)), (3, (0, 6)), (4, (1, 1))]), (some (.inl (0, 0)), [], [(1, (0, 4)), (2, (0, 7)), (3, (0, 6)), (4, (0, 0))]), (some (.inl (1, 1)), [], [(1, (0, 4)), (2, (0, 7)), (3, (0, 6)), (4, (0, 0))])], (true, false), 8)
/-- CapitalCaseModel.then:(IIII)I None -/
noncomputable def zc_217 : aC := ([.inr (.inl (0, 75)), .inl ((-2147483648), 2147483647), .inl ((-2147483648), 2147483647), .inl ((-2147483648), 2147483647), .inl ((-2147483648), 2147483647)], [(22, (0, 1))], [(some (.inl ((-1), (-1))), [], []), (some (.inl ((-2147483648), 2147483647)), [], [(1, (0, 4)), (2, (0, 7)), (3, (0, 60)), (4, (0, 1))])], (true, false), 10)
/-- CapitalCaseModel.thievesCome:()V None -/
noncomputable def zc_218 : aC := ([.inr (.inl (0, 75))], [(22, (0, 1))], [(none, [], [])], (true, false), 3)
/-- CapitalCaseModel.toldInt:(II)I None -/
noncomputable def zc_219 : aC := ([.inr (.inl (0, 75)), .inl ((-2147483648), 2147483647), .inl ((-2147483648), 2147483647)], [(12, (0, 400)), (13, (0, 2147483647))], [(some (.inl ((-2147483648), 2147483647)), [(12, some 3, (3, 400)), (13, some 0, (0, 0))], []), (some (.inl ((-2147483648), 2147483647)), [(12, none, (0, 400)), (13, none, (1, 2147483647))], [])], (true, false), 5)
/-- CapitalCaseModel.twoDays:(I)I None -/
noncomputable def zc_220 : aC := ([.inr (.inl (0, 75)), .inl ((-2147483648), 2147483647)], [(22, (0, 1))], [(some (.inl ((-1), (-1))), [], []), (some (.inl ((-2147483648), 2147483647)), [], [(1, (0, 1))])], (true, false), 12)
/-- CapitalCaseModel.undo:()Z None -/
noncomputable def zc_221 : aC := ([.inr (.inl (0, 75))], [(20, (0, 30))], [(some (.inl (0, 0)), [], []), (some (.inl (1, 1)), [(20, some (-1), (0, 29))], [])], (false, false), 4)
/-- CapitalCaseModel.verse:(II)I None -/
noncomputable def zc_222 : aC := ([.inr (.inl (0, 75)), .inl ((-2147483648), 2147483647), .inl ((-2147483648), 2147483647)], [(22, (0, 1))], [(some (.inl ((-1), (-1))), [], []), (some (.inl ((-2147483648), 2147483647)), [], [(1, (0, 6)), (2, (0, 4))]), (some (.inl (0, 0)), [], [(1, (0, 6)), (2, (4, 4))])], (true, false), 8)
/-- CapitalCaseModel.versesSo:(II)I None -/
noncomputable def zc_223 : aC := ([.inr (.inl (0, 75)), .inl (1, 2), .inl (2, 3)], [(22, (0, 1))], [(some (.inl ((-2147483648), 2147483647)), [], [])], (true, false), 2)
/-- CapitalCaseModel.wants:(II)I None -/
noncomputable def zc_224 : aC := ([.inr (.inl (0, 75)), .inl ((-2147483648), 2147483647), .inl ((-2147483648), 2147483647)], [(22, (0, 1))], [(some (.inl ((-1), (-1))), [], []), (some (.inl (0, 7)), [], [(1, (0, 6)), (2, (0, 7))])], (true, false), 3)
/-- CapitalCaseModel.wears:(I)V None -/
noncomputable def zc_225 : aC := ([.inr (.inl (0, 75)), .inl (0, 39)], [(22, (0, 1))], [(none, [], [])], (false, false), 2)
/-- CapitalCaseModel.wearsOf:(II)I None -/
noncomputable def zc_226 : aC := ([.inr (.inl (0, 75)), .inl (0, 4), .inl (0, 7)], [(22, (0, 1))], [(some (.inl (0, 0)), [], []), (some (.inl (0, 999)), [], [])], (true, false), 7)
/-- CapitalCaseModel.whose:(II)I None -/
noncomputable def zc_227 : aC := ([.inr (.inl (0, 75)), .inl ((-2147483648), 2147483647), .inl ((-2147483648), 2147483647)], [(21, (0, 20)), (22, (0, 1))], [(some (.inl ((-1), (-1))), [], []), (some (.inl ((-2147483648), 2147483647)), [], [(1, (0, 20)), (2, (0, 1))])], (true, false), 2)
/-- CapitalCaseModel.whoseBits:(I)I None -/
noncomputable def zc_228 : aC := ([.inr (.inl (0, 75)), .inl (0, 20)], [(22, (0, 1))], [(some (.inl ((-2147483648), 2147483647)), [], [])], (true, false), 1)
/-- CapitalCaseModel.wornOut:(II)I None -/
noncomputable def zc_229 : aC := ([.inr (.inl (0, 75)), .inl ((-2147483648), 2147483647), .inl ((-2147483648), 2147483647)], [(22, (0, 1))], [(some (.inl ((-1), (-1))), [], []), (some (.inl ((-2), (-2))), [], [(1, (0, 4)), (2, (0, 7))]), (some (.inl (1, 200)), [], [(1, (0, 4)), (2, (0, 7))])], (true, false), 9)
/-- CapitalCaseModel.worth:(II)I None -/
noncomputable def zc_230 : aC := ([.inr (.inl (0, 75)), .inl ((-2147483648), 2147483647), .inl ((-2147483648), 2147483647)], [(22, (0, 1))], [(some (.inl ((-1), (-1))), [], []), (some (.inl ((-2147483648), 2147483647)), [], [(1, (0, 4)), (2, (0, 7))])], (true, false), 12)
/-- CapitalCaseModel.wrong:(II)V None -/
noncomputable def zc_231 : aC := ([.inr (.inl (0, 75)), .inl (1, 6), .inl (0, 400)], [(13, (0, 2147483647))], [(none, [], [])], (false, false), 1)
/-- CapitalCaseModel.year:(IIII)I None -/
noncomputable def zc_232 : aC := ([.inr (.inl (0, 75)), .inl ((-2147483648), 2147483647), .inl ((-2147483648), 2147483647), .inl ((-2147483648), 2147483647), .inl ((-2147483648), 2147483647)], [(22, (0, 1))], [(some (.inl ((-1), (-1))), [], []), (some (.inl ((-2147483648), 2147483647)), [], [(1, (0, 4)), (2, (0, 7)), (3, (0, 60)), (4, (1, 20))])], (true, false), 10)
/-- java/lang/Integer.bitCount:(I)I None -/
noncomputable def zc_233 : aC := ([.inl ((-2147483648), 2147483647)], [], [(some (.inl (0, 63)), [], [])], (false, false), 1)
/-- java/util/Arrays.fill:([II)V None -/
noncomputable def zc_234 : aC := ([.inr (.inl (1, 1002)), .inl (0, 0)], [], [(none, [], [])], (false, false), 1)
/-- java/util/Arrays.fill:([II)V None -/
noncomputable def zc_235 : aC := ([.inr (.inl (1, 1003)), .inl (0, 0)], [], [(none, [], [])], (false, false), 1)
/-- java/util/Arrays.fill:([II)V None -/
noncomputable def zc_236 : aC := ([.inr (.inl (1, 1004)), .inl (0, 0)], [], [(none, [], [])], (false, false), 1)
/-- java/util/Arrays.fill:([II)V None -/
noncomputable def zc_237 : aC := ([.inr (.inl (0, 14)), .inl (0, 0)], [], [(none, [], [])], (false, false), 1)
/-- java/util/Arrays.fill:([II)V None -/
noncomputable def zc_238 : aC := ([.inr (.inl (0, 19)), .inl (0, 0)], [], [(none, [], [])], (false, false), 1)
/-- java/util/Arrays.fill:([II)V None -/
noncomputable def zc_239 : aC := ([.inr (.inl (0, 49)), .inl (0, 0)], [], [(none, [], [])], (false, false), 1)
/-- CapitalCase$Tokens.isBlank:(I)Z None -/
noncomputable def zc_240 : aC := ([.inl ((-2147483648), 2147483647)], [], [(some (.inl (0, 0)), [], []), (some (.inl (1, 1)), [], [(0, (9, 32))])], (false, false), 1)
/-- CapitalCase$Tokens.isDigit:(I)Z None -/
noncomputable def zc_241 : aC := ([.inl ((-2147483648), 2147483647)], [], [(some (.inl (0, 0)), [], []), (some (.inl (1, 1)), [], [(0, (48, 57))])], (false, false), 1)
/-- CapitalCase$Tokens.isLower:(I)Z None -/
noncomputable def zc_242 : aC := ([.inl ((-2147483648), 2147483647)], [], [(some (.inl (0, 0)), [], []), (some (.inl (1, 1)), [], [(0, (97, 122))])], (false, false), 1)
/-- CapitalCaseModel.isDigit:(I)Z None -/
noncomputable def zc_244 : aC := ([.inl ((-2147483648), 2147483647)], [], [(some (.inl (0, 0)), [], []), (some (.inl (1, 1)), [], [(0, (48, 57))])], (false, false), 1)
/-- CapitalCaseModel.isLetter:(I)Z None -/
noncomputable def zc_245 : aC := ([.inl ((-2147483648), 2147483647)], [], [(some (.inl (0, 0)), [], []), (some (.inl (1, 1)), [], [(0, (97, 122))])], (false, false), 1)
/-- CapitalCaseModel.in:(III)Z None -/
noncomputable def zc_279 : aC := ([.inl ((-2147483648), 2147483647), .inl (0, 0), .inl (2, 2)], [], [(some (.inl (0, 0)), [], []), (some (.inl (1, 1)), [], [(0, (0, 2))])], (false, false), 1)
noncomputable def ZC : Nat → Option aC := bn 123 (bn 61 (bn 30 (bn 15 (bn 7 (bn 3 (bn 1 (bl 0 (zc_0)) (bn 2 (bl 1 (zc_1)) (bl 2 (zc_2)))) (bn 5 (bn 4 (bl 3 (zc_3)) (bl 4 (zc_4))) (bn 6 (bl 5 (zc_5)) (bl 6 (zc_6))))) (bn 11 (bn 9 (bn 8 (bl 7 (zc_7)) (bl 8 (zc_8))) (bn 10 (bl 9 (zc_9)) (bl 10 (zc_10)))) (bn 13 (bn 12 (bl 11 (zc_11)) (bl 12 (zc_12))) (bn 14 (bl 13 (zc_13)) (bl 14 (zc_14)))))) (bn 22 (bn 18 (bn 16 (bl 15 (zc_15)) (bn 17 (bl 16 (zc_16)) (bl 17 (zc_17)))) (bn 20 (bn 19 (bl 18 (zc_18)) (bl 19 (zc_19))) (bn 21 (bl 20 (zc_20)) (bl 21 (zc_21))))) (bn 26 (bn 24 (bn 23 (bl 22 (zc_22)) (bl 23 (zc_23))) (bn 25 (bl 24 (zc_24)) (bl 25 (zc_25)))) (bn 28 (bn 27 (bl 26 (zc_26)) (bl 27 (zc_27))) (bn 29 (bl 28 (zc_28)) (bl 29 (zc_29))))))) (bn 45 (bn 37 (bn 33 (bn 31 (bl 30 (zc_30)) (bn 32 (bl 31 (zc_31)) (bl 32 (zc_32)))) (bn 35 (bn 34 (bl 33 (zc_33)) (bl 34 (zc_34))) (bn 36 (bl 35 (zc_35)) (bl 36 (zc_36))))) (bn 41 (bn 39 (bn 38 (bl 37 (zc_37)) (bl 38 (zc_38))) (bn 40 (bl 39 (zc_39)) (bl 40 (zc_40)))) (bn 43 (bn 42 (bl 41 (zc_41)) (bl 42 (zc_42))) (bn 44 (bl 43 (zc_43)) (bl 44 (zc_44)))))) (bn 53 (bn 49 (bn 47 (bn 46 (bl 45 (zc_45)) (bl 46 (zc_46))) (bn 48 (bl 47 (zc_47)) (bl 48 (zc_48)))) (bn 51 (bn 50 (bl 49 (zc_49)) (bl 50 (zc_50))) (bn 52 (bl 51 (zc_51)) (bl 52 (zc_52))))) (bn 57 (bn 55 (bn 54 (bl 53 (zc_53)) (bl 54 (zc_54))) (bn 56 (bl 55 (zc_55)) (bl 56 (zc_56)))) (bn 59 (bn 58 (bl 57 (zc_57)) (bl 58 (zc_58))) (bn 60 (bl 59 (zc_59)) (bl 60 (zc_60)))))))) (bn 92 (bn 76 (bn 68 (bn 64 (bn 62 (bl 61 (zc_61)) (bn 63 (bl 62 (zc_62)) (bl 63 (zc_63)))) (bn 66 (bn 65 (bl 64 (zc_64)) (bl 65 (zc_65))) (bn 67 (bl 66 (zc_66)) (bl 67 (zc_67))))) (bn 72 (bn 70 (bn 69 (bl 68 (zc_68)) (bl 69 (zc_69))) (bn 71 (bl 70 (zc_70)) (bl 71 (zc_71)))) (bn 74 (bn 73 (bl 72 (zc_72)) (bl 73 (zc_73))) (bn 75 (bl 74 (zc_74)) (bl 75 (zc_75)))))) (bn 84 (bn 80 (bn 78 (bn 77 (bl 76 (zc_76)) (bl 77 (zc_77))) (bn 79 (bl 78 (zc_78)) (bl 79 (zc_79)))) (bn 82 (bn 81 (bl 80 (zc_80)) (bl 81 (zc_81))) (bn 83 (bl 82 (zc_82)) (bl 83 (zc_83))))) (bn 88 (bn 86 (bn 85 (bl 84 (zc_84)) (bl 85 (zc_85))) (bn 87 (bl 86 (zc_86)) (bl 87 (zc_87)))) (bn 90 (bn 89 (bl 88 (zc_88)) (bl 89 (zc_89))) (bn 91 (bl 90 (zc_90)) (bl 91 (zc_91))))))) (bn 107 (bn 99 (bn 95 (bn 93 (bl 92 (zc_92)) (bn 94 (bl 93 (zc_93)) (bl 94 (zc_94)))) (bn 97 (bn 96 (bl 95 (zc_95)) (bl 96 (zc_96))) (bn 98 (bl 97 (zc_97)) (bl 98 (zc_98))))) (bn 103 (bn 101 (bn 100 (bl 99 (zc_99)) (bl 100 (zc_100))) (bn 102 (bl 101 (zc_101)) (bl 102 (zc_102)))) (bn 105 (bn 104 (bl 103 (zc_103)) (bl 104 (zc_104))) (bn 106 (bl 105 (zc_105)) (bl 106 (zc_106)))))) (bn 115 (bn 111 (bn 109 (bn 108 (bl 107 (zc_107)) (bl 108 (zc_108))) (bn 110 (bl 109 (zc_109)) (bl 110 (zc_110)))) (bn 113 (bn 112 (bl 111 (zc_111)) (bl 112 (zc_112))) (bn 114 (bl 113 (zc_113)) (bl 114 (zc_114))))) (bn 119 (bn 117 (bn 116 (bl 115 (zc_115)) (bl 116 (zc_116))) (bn 118 (bl 117 (zc_117)) (bl 118 (zc_118)))) (bn 121 (bn 120 (bl 119 (zc_119)) (bl 120 (zc_120))) (bn 122 (bl 121 (zc_121)) (bl 122 (zc_122))))))))) (bn 184 (bn 153 (bn 138 (bn 130 (bn 126 (bn 124 (bl 123 (zc_123)) (bn 125 (bl 124 (zc_124)) (bl 125 (zc_125)))) (bn 128 (bn 127 (bl 126 (zc_126)) (bl 127 (zc_127))) (bn 129 (bl 128 (zc_128)) (bl 129 (zc_129))))) (bn 134 (bn 132 (bn 131 (bl 130 (zc_130)) (bl 131 (zc_131))) (bn 133 (bl 132 (zc_132)) (bl 133 (zc_133)))) (bn 136 (bn 135 (bl 134 (zc_134)) (bl 135 (zc_135))) (bn 137 (bl 136 (zc_136)) (bl 137 (zc_137)))))) (bn 145 (bn 141 (bn 139 (bl 138 (zc_138)) (bn 140 (bl 139 (zc_139)) (bl 140 (zc_140)))) (bn 143 (bn 142 (bl 141 (zc_141)) (bl 142 (zc_142))) (bn 144 (bl 143 (zc_143)) (bl 144 (zc_144))))) (bn 149 (bn 147 (bn 146 (bl 145 (zc_145)) (bl 146 (zc_146))) (bn 148 (bl 147 (zc_147)) (bl 148 (zc_148)))) (bn 151 (bn 150 (bl 149 (zc_149)) (bl 150 (zc_150))) (bn 152 (bl 151 (zc_151)) (bl 152 (zc_152))))))) (bn 168 (bn 160 (bn 156 (bn 154 (bl 153 (zc_153)) (bn 155 (bl 154 (zc_154)) (bl 155 (zc_155)))) (bn 158 (bn 157 (bl 156 (zc_156)) (bl 157 (zc_157))) (bn 159 (bl 158 (zc_158)) (bl 159 (zc_159))))) (bn 164 (bn 162 (bn 161 (bl 160 (zc_160)) (bl 161 (zc_161))) (bn 163 (bl 162 (zc_162)) (bl 163 (zc_163)))) (bn 166 (bn 165 (bl 164 (zc_164)) (bl 165 (zc_165))) (bn 167 (bl 166 (zc_166)) (bl 167 (zc_167)))))) (bn 176 (bn 172 (bn 170 (bn 169 (bl 168 (zc_168)) (bl 169 (zc_169))) (bn 171 (bl 170 (zc_170)) (bl 171 (zc_171)))) (bn 174 (bn 173 (bl 172 (zc_172)) (bl 173 (zc_173))) (bn 175 (bl 174 (zc_174)) (bl 175 (zc_175))))) (bn 180 (bn 178 (bn 177 (bl 176 (zc_176)) (bl 177 (zc_177))) (bn 179 (bl 178 (zc_178)) (bl 179 (zc_179)))) (bn 182 (bn 181 (bl 180 (zc_180)) (bl 181 (zc_181))) (bn 183 (bl 182 (zc_182)) (bl 183 (zc_183)))))))) (bn 215 (bn 199 (bn 191 (bn 187 (bn 185 (bl 184 (zc_184)) (bn 186 (bl 185 (zc_185)) (bl 186 (zc_186)))) (bn 189 (bn 188 (bl 187 (zc_187)) (bl 188 (zc_188))) (bn 190 (bl 189 (zc_189)) (bl 190 (zc_190))))) (bn 195 (bn 193 (bn 192 (bl 191 (zc_191)) (bl 192 (zc_192))) (bn 194 (bl 193 (zc_193)) (bl 194 (zc_194)))) (bn 197 (bn 196 (bl 195 (zc_195)) (bl 196 (zc_196))) (bn 198 (bl 197 (zc_197)) (bl 198 (zc_198)))))) (bn 207 (bn 203 (bn 201 (bn 200 (bl 199 (zc_199)) (bl 200 (zc_200))) (bn 202 (bl 201 (zc_201)) (bl 202 (zc_202)))) (bn 205 (bn 204 (bl 203 (zc_203)) (bl 204 (zc_204))) (bn 206 (bl 205 (zc_205)) (bl 206 (zc_206))))) (bn 211 (bn 209 (bn 208 (bl 207 (zc_207)) (bl 208 (zc_208))) (bn 210 (bl 209 (zc_209)) (bl 210 (zc_210)))) (bn 213 (bn 212 (bl 211 (zc_211)) (bl 212 (zc_212))) (bn 214 (bl 213 (zc_213)) (bl 214 (zc_214))))))) (bn 230 (bn 222 (bn 218 (bn 216 (bl 215 (zc_215)) (bn 217 (bl 216 (zc_216)) (bl 217 (zc_217)))) (bn 220 (bn 219 (bl 218 (zc_218)) (bl 219 (zc_219))) (bn 221 (bl 220 (zc_220)) (bl 221 (zc_221))))) (bn 226 (bn 224 (bn 223 (bl 222 (zc_222)) (bl 223 (zc_223))) (bn 225 (bl 224 (zc_224)) (bl 225 (zc_225)))) (bn 228 (bn 227 (bl 226 (zc_226)) (bl 227 (zc_227))) (bn 229 (bl 228 (zc_228)) (bl 229 (zc_229)))))) (bn 238 (bn 234 (bn 232 (bn 231 (bl 230 (zc_230)) (bl 231 (zc_231))) (bn 233 (bl 232 (zc_232)) (bl 233 (zc_233)))) (bn 236 (bn 235 (bl 234 (zc_234)) (bl 235 (zc_235))) (bn 237 (bl 236 (zc_236)) (bl 237 (zc_237))))) (bn 242 (bn 240 (bn 239 (bl 238 (zc_238)) (bl 239 (zc_239))) (bn 241 (bl 240 (zc_240)) (bl 241 (zc_241)))) (bn 245 (bn 244 (bl 242 (zc_242)) (bl 244 (zc_244))) (bn 279 (bl 245 (zc_245)) (bl 279 (zc_279)))))))))
/-- the calls' contracts say what the tables say -/
def zTieC (pre : zPre) (post : zPost) : Prop := ∀ (j : Nat) (c : aC), ZC j = some c → (∀ d as I, aPre zG0 zInv c d as I → pre d j as I) ∧ (∀ as I r I', post j as I r I' → aPost zInv c as I r I')
theorem ag_inv {pre : zPre} {post : zPost} (H : zTieC pre post) {c : aC} {d dl : Nat × Nat × Nat} {fl : Bool × Bool} {j na n : Nat} (hj : ZC j = some c) (hd : zLe dl d) (hcv : c.2.2.2.1.1 = false → c.2.2.2.1.2 = false) : aSnd zG0 zT0 zInv fl (z_inv zbd pre post d j na n) (a_inv zG0 zprot fl c (zbd j) dl na n) := as_inv zext hd hcv ((H j c hj).1 d.1) (H j c hj).2
theorem ag_invV {pre : zPre} {post : zPost} (H : zTieC pre post) {c : aC} {d dl : Nat × Nat × Nat} {fl : Bool × Bool} {ci j na n : Nat} (hj : ZC j = some c) (hd : zLe dl d) (hcv : c.2.2.2.1.1 = false → c.2.2.2.1.2 = false) : aSnd zG0 zT0 zInv fl (z_invV zG0 zbd pre post d ci j na n) (a_invV zG0 zprot fl c (zbd j) dl ci na n) := as_invV zext hd hcv ((H j c hj).1 d.1) (H j c hj).2
/-- a method keeps its contract, where the calls keep theirs -/
def zOKa (j : Nat) (c : aC) : Prop := ∀ (pre : zPre) (post : zPost), zTieC pre post → ∀ d, zCalls zG0 PZ zbd pre post d → ∀ (as : List zV) (I : zI) (q : xP), aPre zG0 zInv c (d + 1) as I → PZ j = some q → zMet zG0 q (d + 1) (zbd j) as I (fun r I' => aPost zInv c as I r I')
theorem z_auto {j : Nat} {c : aC} {y : MethodName} {cc : ByteArray} {maxL fuel : Nat} {ret : Option FieldType} {b : Nat × Nat} {Tr : Nat → Option aF} {cuts : List aCut} {rets : List (Nat × Nat)} (hpx : PZ j = some (y, cc, maxL, ret)) (hb : zbd j = b) (hpl : plainName y.cls = true) (hr : ∀ pc, ¬ xrt rets pc = 0 → xretok cc ret pc (xrt rets pc))
    (hT : ∀ (pre : zPre) (post : zPost), zTieC pre post → ∀ d : Nat × Nat × Nat, zLe (c.2.2.2.2 - 1, b.1, b.2) d → aTr zG0 zT0 zInv c.2.2.2.1 PZ zbd pre post d cc y.cls Tr) (hchk : amchk zG0 Tr fuel cuts rets c b maxL = true) : zOKa j c := by
  intro pre post H d hc as I q hpre hq
  cases hpx.symm.trans hq
  rw [hb]
  obtain ⟨h1, h2⟩ := ameth_ok (d := (d, b.1, b.2)) hchk (hT pre post H (d, b.1, b.2) ⟨by have := hpre.1; show c.2.2.2.2 - 1 ≤ d; omega, Nat.le_refl _, Nat.le_refl _⟩) hr hpre
  exact zmet_ok hpl h1 h2 hc
theorem zh_0 : ZC 0 = some zc_0 := rfl
theorem zh_1 : ZC 1 = some zc_1 := rfl
theorem zh_2 : ZC 2 = some zc_2 := rfl
theorem zh_3 : ZC 3 = some zc_3 := rfl
theorem zh_4 : ZC 4 = some zc_4 := rfl
theorem zh_5 : ZC 5 = some zc_5 := rfl
theorem zh_6 : ZC 6 = some zc_6 := rfl
theorem zh_7 : ZC 7 = some zc_7 := rfl
theorem zh_8 : ZC 8 = some zc_8 := rfl
theorem zh_9 : ZC 9 = some zc_9 := rfl
theorem zh_10 : ZC 10 = some zc_10 := rfl
theorem zh_11 : ZC 11 = some zc_11 := rfl
theorem zh_12 : ZC 12 = some zc_12 := rfl
theorem zh_13 : ZC 13 = some zc_13 := rfl
theorem zh_14 : ZC 14 = some zc_14 := rfl
theorem zh_15 : ZC 15 = some zc_15 := rfl
theorem zh_16 : ZC 16 = some zc_16 := rfl
theorem zh_17 : ZC 17 = some zc_17 := rfl
theorem zh_18 : ZC 18 = some zc_18 := rfl
theorem zh_19 : ZC 19 = some zc_19 := rfl
theorem zh_20 : ZC 20 = some zc_20 := rfl
theorem zh_21 : ZC 21 = some zc_21 := rfl
theorem zh_22 : ZC 22 = some zc_22 := rfl
theorem zh_23 : ZC 23 = some zc_23 := rfl
theorem zh_24 : ZC 24 = some zc_24 := rfl
theorem zh_25 : ZC 25 = some zc_25 := rfl
theorem zh_26 : ZC 26 = some zc_26 := rfl
theorem zh_27 : ZC 27 = some zc_27 := rfl
theorem zh_28 : ZC 28 = some zc_28 := rfl
theorem zh_29 : ZC 29 = some zc_29 := rfl
theorem zh_30 : ZC 30 = some zc_30 := rfl
theorem zh_31 : ZC 31 = some zc_31 := rfl
theorem zh_32 : ZC 32 = some zc_32 := rfl
theorem zh_33 : ZC 33 = some zc_33 := rfl
theorem zh_34 : ZC 34 = some zc_34 := rfl
theorem zh_35 : ZC 35 = some zc_35 := rfl
theorem zh_36 : ZC 36 = some zc_36 := rfl
theorem zh_37 : ZC 37 = some zc_37 := rfl
theorem zh_38 : ZC 38 = some zc_38 := rfl
theorem zh_39 : ZC 39 = some zc_39 := rfl
theorem zh_40 : ZC 40 = some zc_40 := rfl
theorem zh_41 : ZC 41 = some zc_41 := rfl
theorem zh_42 : ZC 42 = some zc_42 := rfl
theorem zh_43 : ZC 43 = some zc_43 := rfl
theorem zh_44 : ZC 44 = some zc_44 := rfl
theorem zh_45 : ZC 45 = some zc_45 := rfl
theorem zh_46 : ZC 46 = some zc_46 := rfl
theorem zh_47 : ZC 47 = some zc_47 := rfl
theorem zh_48 : ZC 48 = some zc_48 := rfl
theorem zh_49 : ZC 49 = some zc_49 := rfl
theorem zh_50 : ZC 50 = some zc_50 := rfl
theorem zh_51 : ZC 51 = some zc_51 := rfl
theorem zh_52 : ZC 52 = some zc_52 := rfl
theorem zh_53 : ZC 53 = some zc_53 := rfl
theorem zh_54 : ZC 54 = some zc_54 := rfl
theorem zh_55 : ZC 55 = some zc_55 := rfl
theorem zh_56 : ZC 56 = some zc_56 := rfl
theorem zh_57 : ZC 57 = some zc_57 := rfl
theorem zh_58 : ZC 58 = some zc_58 := rfl
theorem zh_59 : ZC 59 = some zc_59 := rfl
theorem zh_60 : ZC 60 = some zc_60 := rfl
theorem zh_61 : ZC 61 = some zc_61 := rfl
theorem zh_62 : ZC 62 = some zc_62 := rfl
theorem zh_63 : ZC 63 = some zc_63 := rfl
theorem zh_64 : ZC 64 = some zc_64 := rfl
theorem zh_65 : ZC 65 = some zc_65 := rfl
theorem zh_66 : ZC 66 = some zc_66 := rfl
theorem zh_67 : ZC 67 = some zc_67 := rfl
theorem zh_68 : ZC 68 = some zc_68 := rfl
theorem zh_69 : ZC 69 = some zc_69 := rfl
theorem zh_70 : ZC 70 = some zc_70 := rfl
theorem zh_71 : ZC 71 = some zc_71 := rfl
theorem zh_72 : ZC 72 = some zc_72 := rfl
theorem zh_73 : ZC 73 = some zc_73 := rfl
theorem zh_74 : ZC 74 = some zc_74 := rfl
theorem zh_75 : ZC 75 = some zc_75 := rfl
theorem zh_76 : ZC 76 = some zc_76 := rfl
theorem zh_77 : ZC 77 = some zc_77 := rfl
theorem zh_78 : ZC 78 = some zc_78 := rfl
theorem zh_79 : ZC 79 = some zc_79 := rfl
theorem zh_80 : ZC 80 = some zc_80 := rfl
theorem zh_81 : ZC 81 = some zc_81 := rfl
theorem zh_82 : ZC 82 = some zc_82 := rfl
theorem zh_83 : ZC 83 = some zc_83 := rfl
theorem zh_84 : ZC 84 = some zc_84 := rfl
theorem zh_85 : ZC 85 = some zc_85 := rfl
theorem zh_86 : ZC 86 = some zc_86 := rfl
theorem zh_87 : ZC 87 = some zc_87 := rfl
theorem zh_88 : ZC 88 = some zc_88 := rfl
theorem zh_89 : ZC 89 = some zc_89 := rfl
theorem zh_90 : ZC 90 = some zc_90 := rfl
theorem zh_91 : ZC 91 = some zc_91 := rfl
theorem zh_92 : ZC 92 = some zc_92 := rfl
theorem zh_93 : ZC 93 = some zc_93 := rfl
theorem zh_94 : ZC 94 = some zc_94 := rfl
theorem zh_95 : ZC 95 = some zc_95 := rfl
theorem zh_96 : ZC 96 = some zc_96 := rfl
theorem zh_97 : ZC 97 = some zc_97 := rfl
theorem zh_98 : ZC 98 = some zc_98 := rfl
theorem zh_99 : ZC 99 = some zc_99 := rfl
theorem zh_100 : ZC 100 = some zc_100 := rfl
theorem zh_101 : ZC 101 = some zc_101 := rfl
theorem zh_102 : ZC 102 = some zc_102 := rfl
theorem zh_103 : ZC 103 = some zc_103 := rfl
theorem zh_104 : ZC 104 = some zc_104 := rfl
theorem zh_105 : ZC 105 = some zc_105 := rfl
theorem zh_106 : ZC 106 = some zc_106 := rfl
theorem zh_107 : ZC 107 = some zc_107 := rfl
theorem zh_108 : ZC 108 = some zc_108 := rfl
theorem zh_109 : ZC 109 = some zc_109 := rfl
theorem zh_110 : ZC 110 = some zc_110 := rfl
theorem zh_111 : ZC 111 = some zc_111 := rfl
theorem zh_112 : ZC 112 = some zc_112 := rfl
theorem zh_113 : ZC 113 = some zc_113 := rfl
theorem zh_114 : ZC 114 = some zc_114 := rfl
theorem zh_115 : ZC 115 = some zc_115 := rfl
theorem zh_116 : ZC 116 = some zc_116 := rfl
theorem zh_117 : ZC 117 = some zc_117 := rfl
theorem zh_118 : ZC 118 = some zc_118 := rfl
theorem zh_119 : ZC 119 = some zc_119 := rfl
theorem zh_120 : ZC 120 = some zc_120 := rfl
theorem zh_121 : ZC 121 = some zc_121 := rfl
theorem zh_122 : ZC 122 = some zc_122 := rfl
theorem zh_123 : ZC 123 = some zc_123 := rfl
theorem zh_124 : ZC 124 = some zc_124 := rfl
theorem zh_125 : ZC 125 = some zc_125 := rfl
theorem zh_126 : ZC 126 = some zc_126 := rfl
theorem zh_127 : ZC 127 = some zc_127 := rfl
theorem zh_128 : ZC 128 = some zc_128 := rfl
theorem zh_129 : ZC 129 = some zc_129 := rfl
theorem zh_130 : ZC 130 = some zc_130 := rfl
theorem zh_131 : ZC 131 = some zc_131 := rfl
theorem zh_132 : ZC 132 = some zc_132 := rfl
theorem zh_133 : ZC 133 = some zc_133 := rfl
theorem zh_134 : ZC 134 = some zc_134 := rfl
theorem zh_135 : ZC 135 = some zc_135 := rfl
theorem zh_136 : ZC 136 = some zc_136 := rfl
theorem zh_137 : ZC 137 = some zc_137 := rfl
theorem zh_138 : ZC 138 = some zc_138 := rfl
theorem zh_139 : ZC 139 = some zc_139 := rfl
theorem zh_140 : ZC 140 = some zc_140 := rfl
theorem zh_141 : ZC 141 = some zc_141 := rfl
theorem zh_142 : ZC 142 = some zc_142 := rfl
theorem zh_143 : ZC 143 = some zc_143 := rfl
theorem zh_144 : ZC 144 = some zc_144 := rfl
theorem zh_145 : ZC 145 = some zc_145 := rfl
theorem zh_146 : ZC 146 = some zc_146 := rfl
theorem zh_147 : ZC 147 = some zc_147 := rfl
theorem zh_148 : ZC 148 = some zc_148 := rfl
theorem zh_149 : ZC 149 = some zc_149 := rfl
theorem zh_150 : ZC 150 = some zc_150 := rfl
theorem zh_151 : ZC 151 = some zc_151 := rfl
theorem zh_152 : ZC 152 = some zc_152 := rfl
theorem zh_153 : ZC 153 = some zc_153 := rfl
theorem zh_154 : ZC 154 = some zc_154 := rfl
theorem zh_155 : ZC 155 = some zc_155 := rfl
theorem zh_156 : ZC 156 = some zc_156 := rfl
theorem zh_157 : ZC 157 = some zc_157 := rfl
theorem zh_158 : ZC 158 = some zc_158 := rfl
theorem zh_159 : ZC 159 = some zc_159 := rfl
theorem zh_160 : ZC 160 = some zc_160 := rfl
theorem zh_161 : ZC 161 = some zc_161 := rfl
theorem zh_162 : ZC 162 = some zc_162 := rfl
theorem zh_163 : ZC 163 = some zc_163 := rfl
theorem zh_164 : ZC 164 = some zc_164 := rfl
theorem zh_165 : ZC 165 = some zc_165 := rfl
theorem zh_166 : ZC 166 = some zc_166 := rfl
theorem zh_167 : ZC 167 = some zc_167 := rfl
theorem zh_168 : ZC 168 = some zc_168 := rfl
theorem zh_169 : ZC 169 = some zc_169 := rfl
theorem zh_170 : ZC 170 = some zc_170 := rfl
theorem zh_171 : ZC 171 = some zc_171 := rfl
theorem zh_172 : ZC 172 = some zc_172 := rfl
theorem zh_173 : ZC 173 = some zc_173 := rfl
theorem zh_174 : ZC 174 = some zc_174 := rfl
theorem zh_175 : ZC 175 = some zc_175 := rfl
theorem zh_176 : ZC 176 = some zc_176 := rfl
theorem zh_177 : ZC 177 = some zc_177 := rfl
theorem zh_178 : ZC 178 = some zc_178 := rfl
theorem zh_179 : ZC 179 = some zc_179 := rfl
theorem zh_180 : ZC 180 = some zc_180 := rfl
theorem zh_181 : ZC 181 = some zc_181 := rfl
theorem zh_182 : ZC 182 = some zc_182 := rfl
theorem zh_183 : ZC 183 = some zc_183 := rfl
theorem zh_184 : ZC 184 = some zc_184 := rfl
theorem zh_185 : ZC 185 = some zc_185 := rfl
theorem zh_186 : ZC 186 = some zc_186 := rfl
theorem zh_187 : ZC 187 = some zc_187 := rfl
theorem zh_188 : ZC 188 = some zc_188 := rfl
theorem zh_189 : ZC 189 = some zc_189 := rfl
theorem zh_190 : ZC 190 = some zc_190 := rfl
theorem zh_191 : ZC 191 = some zc_191 := rfl
theorem zh_192 : ZC 192 = some zc_192 := rfl
theorem zh_193 : ZC 193 = some zc_193 := rfl
theorem zh_194 : ZC 194 = some zc_194 := rfl
theorem zh_195 : ZC 195 = some zc_195 := rfl
theorem zh_196 : ZC 196 = some zc_196 := rfl
theorem zh_197 : ZC 197 = some zc_197 := rfl
theorem zh_198 : ZC 198 = some zc_198 := rfl
theorem zh_199 : ZC 199 = some zc_199 := rfl
theorem zh_200 : ZC 200 = some zc_200 := rfl
theorem zh_201 : ZC 201 = some zc_201 := rfl
theorem zh_202 : ZC 202 = some zc_202 := rfl
theorem zh_203 : ZC 203 = some zc_203 := rfl
theorem zh_204 : ZC 204 = some zc_204 := rfl
theorem zh_205 : ZC 205 = some zc_205 := rfl
theorem zh_206 : ZC 206 = some zc_206 := rfl
theorem zh_207 : ZC 207 = some zc_207 := rfl
theorem zh_208 : ZC 208 = some zc_208 := rfl
theorem zh_209 : ZC 209 = some zc_209 := rfl
theorem zh_210 : ZC 210 = some zc_210 := rfl
theorem zh_211 : ZC 211 = some zc_211 := rfl
theorem zh_212 : ZC 212 = some zc_212 := rfl
theorem zh_213 : ZC 213 = some zc_213 := rfl
theorem zh_214 : ZC 214 = some zc_214 := rfl
theorem zh_215 : ZC 215 = some zc_215 := rfl
theorem zh_216 : ZC 216 = some zc_216 := rfl
theorem zh_217 : ZC 217 = some zc_217 := rfl
theorem zh_218 : ZC 218 = some zc_218 := rfl
theorem zh_219 : ZC 219 = some zc_219 := rfl
theorem zh_220 : ZC 220 = some zc_220 := rfl
theorem zh_221 : ZC 221 = some zc_221 := rfl
theorem zh_222 : ZC 222 = some zc_222 := rfl
theorem zh_223 : ZC 223 = some zc_223 := rfl
theorem zh_224 : ZC 224 = some zc_224 := rfl
theorem zh_225 : ZC 225 = some zc_225 := rfl
theorem zh_226 : ZC 226 = some zc_226 := rfl
theorem zh_227 : ZC 227 = some zc_227 := rfl
theorem zh_228 : ZC 228 = some zc_228 := rfl
theorem zh_229 : ZC 229 = some zc_229 := rfl
theorem zh_230 : ZC 230 = some zc_230 := rfl
theorem zh_231 : ZC 231 = some zc_231 := rfl
theorem zh_232 : ZC 232 = some zc_232 := rfl
theorem zh_233 : ZC 233 = some zc_233 := rfl
theorem zh_234 : ZC 234 = some zc_234 := rfl
theorem zh_235 : ZC 235 = some zc_235 := rfl
theorem zh_236 : ZC 236 = some zc_236 := rfl
theorem zh_237 : ZC 237 = some zc_237 := rfl
theorem zh_238 : ZC 238 = some zc_238 := rfl
theorem zh_239 : ZC 239 = some zc_239 := rfl
theorem zh_240 : ZC 240 = some zc_240 := rfl
theorem zh_241 : ZC 241 = some zc_241 := rfl
theorem zh_242 : ZC 242 = some zc_242 := rfl
theorem zh_244 : ZC 244 = some zc_244 := rfl
theorem zh_245 : ZC 245 = some zc_245 := rfl
theorem zh_279 : ZC 279 = some zc_279 := rfl
