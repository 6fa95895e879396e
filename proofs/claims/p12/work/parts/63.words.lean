/-! words of the tables -/
set_option maxRecDepth 100000 in
theorem wd_1 : Cond.selects "CapitalCase" ⟨"CapitalCase", "append", "(I)V"⟩ ⟨"CapitalCase", "append", "(I)V"⟩ ∈ xTB := xw 1 (by decide +kernel) (by decide +kernel)
set_option maxRecDepth 100000 in
theorem wd_2 : Cond.selects "CapitalCase$Parser" ⟨"CapitalCase$Parser", "next", "()I"⟩ ⟨"CapitalCase$Parser", "next", "()I"⟩ ∈ xTB := xw 2 (by decide +kernel) (by decide +kernel)
set_option maxRecDepth 100000 in
theorem wd_3 : Cond.selects "CapitalCase$Parser" ⟨"CapitalCase$Parser", "parseHouse", "()V"⟩ ⟨"CapitalCase$Parser", "parseHouse", "()V"⟩ ∈ xTB := xw 3 (by decide +kernel) (by decide +kernel)
set_option maxRecDepth 100000 in
theorem wd_4 : Cond.selects "CapitalCase$Parser" ⟨"CapitalCase$Parser", "fail", "(I)Z"⟩ ⟨"CapitalCase$Parser", "fail", "(I)Z"⟩ ∈ xTB := xw 4 (by decide +kernel) (by decide +kernel)
set_option maxRecDepth 100000 in
theorem wd_5 : Cond.selects "CapitalCase$Parser" ⟨"CapitalCase$Parser", "accept", "(I)Z"⟩ ⟨"CapitalCase$Parser", "accept", "(I)Z"⟩ ∈ xTB := xw 5 (by decide +kernel) (by decide +kernel)
set_option maxRecDepth 100000 in
theorem wd_6 : Cond.selects "CapitalCase$Parser" ⟨"CapitalCase$Parser", "noteName", "(I)V"⟩ ⟨"CapitalCase$Parser", "noteName", "(I)V"⟩ ∈ xTB := xw 6 (by decide +kernel) (by decide +kernel)
set_option maxRecDepth 100000 in
theorem wd_7 : Cond.selects "CapitalCase$Parser" ⟨"CapitalCase$Parser", "isSame", "(II)Z"⟩ ⟨"CapitalCase$Parser", "isSame", "(II)Z"⟩ ∈ xTB := xw 7 (by decide +kernel) (by decide +kernel)
set_option maxRecDepth 100000 in
theorem wd_8 : Cond.selects "CapitalCase$Parser" ⟨"CapitalCase$Parser", "noteLater", "(ZII)V"⟩ ⟨"CapitalCase$Parser", "noteLater", "(ZII)V"⟩ ∈ xTB := xw 8 (by decide +kernel) (by decide +kernel)
set_option maxRecDepth 100000 in
theorem wd_9 : Cond.selects "CapitalCase$Parser" ⟨"CapitalCase$Parser", "areLetters", "(I)Z"⟩ ⟨"CapitalCase$Parser", "areLetters", "(I)Z"⟩ ∈ xTB := xw 9 (by decide +kernel) (by decide +kernel)
set_option maxRecDepth 100000 in
theorem wd_10 : Cond.selects "CapitalCase$Parser" ⟨"CapitalCase$Parser", "letterOf", "(II)I"⟩ ⟨"CapitalCase$Parser", "letterOf", "(II)I"⟩ ∈ xTB := xw 10 (by decide +kernel) (by decide +kernel)
set_option maxRecDepth 100000 in
theorem wd_11 : Cond.selects "CapitalCase$Parser" ⟨"CapitalCase$Parser", "parseVerse", "()V"⟩ ⟨"CapitalCase$Parser", "parseVerse", "()V"⟩ ∈ xTB := xw 11 (by decide +kernel) (by decide +kernel)
set_option maxRecDepth 100000 in
theorem wd_12 : Cond.selects "CapitalCase$Parser" ⟨"CapitalCase$Parser", "intOf", "(III)I"⟩ ⟨"CapitalCase$Parser", "intOf", "(III)I"⟩ ∈ xTB := xw 12 (by decide +kernel) (by decide +kernel)
set_option maxRecDepth 100000 in
theorem wd_13 : Cond.selects "CapitalCase$Parser" ⟨"CapitalCase$Parser", "parseLaw", "(I)V"⟩ ⟨"CapitalCase$Parser", "parseLaw", "(I)V"⟩ ∈ xTB := xw 13 (by decide +kernel) (by decide +kernel)
set_option maxRecDepth 100000 in
theorem wd_14 : Cond.selects "CapitalCase$Parser" ⟨"CapitalCase$Parser", "parseSum", "(I)Z"⟩ ⟨"CapitalCase$Parser", "parseSum", "(I)Z"⟩ ∈ xTB := xw 14 (by decide +kernel) (by decide +kernel)
set_option maxRecDepth 100000 in
theorem wd_15 : Cond.selects "CapitalCase$Parser" ⟨"CapitalCase$Parser", "parsePart", "(I)Z"⟩ ⟨"CapitalCase$Parser", "parsePart", "(I)Z"⟩ ∈ xTB := xw 15 (by decide +kernel) (by decide +kernel)
set_option maxRecDepth 100000 in
theorem wd_16 : Cond.selects "CapitalCase$Parser" ⟨"CapitalCase$Parser", "parseUnit", "(I)Z"⟩ ⟨"CapitalCase$Parser", "parseUnit", "(I)Z"⟩ ∈ xTB := xw 16 (by decide +kernel) (by decide +kernel)
set_option maxRecDepth 100000 in
theorem wd_17 : Cond.selects "CapitalCase$Parser" ⟨"CapitalCase$Parser", "parseNumber", "(I)V"⟩ ⟨"CapitalCase$Parser", "parseNumber", "(I)V"⟩ ∈ xTB := xw 17 (by decide +kernel) (by decide +kernel)
set_option maxRecDepth 100000 in
theorem wd_18 : Cond.selects "CapitalCase" ⟨"CapitalCase", "beginAnew", "()V"⟩ ⟨"CapitalCase", "beginAnew", "()V"⟩ ∈ xTB := xw 18 (by decide +kernel) (by decide +kernel)
set_option maxRecDepth 100000 in
theorem wd_19 : Cond.selects "CapitalCase" ⟨"CapitalCase", "isCell", "(II)Z"⟩ ⟨"CapitalCase", "isCell", "(II)Z"⟩ ∈ xTB := xw 19 (by decide +kernel) (by decide +kernel)
set_option maxRecDepth 100000 in
theorem wd_20 : Cond.selects "CapitalCase" ⟨"CapitalCase", "isHouse", "(I)Z"⟩ ⟨"CapitalCase", "isHouse", "(I)Z"⟩ ∈ xTB := xw 20 (by decide +kernel) (by decide +kernel)
set_option maxRecDepth 100000 in
theorem wd_21 : Cond.selects "CapitalCase$Judge" ⟨"CapitalCase$Judge", "lookAtHouse", "(LCapitalCase$Town;II)V"⟩ ⟨"CapitalCase$Judge", "lookAtHouse", "(LCapitalCase$Town;II)V"⟩ ∈ xTB := xw 21 (by decide +kernel) (by decide +kernel)
set_option maxRecDepth 100000 in
theorem wd_22 : Cond.selects "CapitalCase$Judge" ⟨"CapitalCase$Judge", "judge", "(I)I"⟩ ⟨"CapitalCase$Judge", "judge", "(I)I"⟩ ∈ xTB := xw 22 (by decide +kernel) (by decide +kernel)
set_option maxRecDepth 100000 in
theorem wd_23 : Cond.selects "CapitalCase" ⟨"CapitalCase", "isVerse", "(I)Z"⟩ ⟨"CapitalCase", "isVerse", "(I)Z"⟩ ∈ xTB := xw 23 (by decide +kernel) (by decide +kernel)
set_option maxRecDepth 100000 in
theorem wd_24 : Cond.selects "CapitalCase" ⟨"CapitalCase", "standOf", "(I)I"⟩ ⟨"CapitalCase", "standOf", "(I)I"⟩ ∈ xTB := xw 24 (by decide +kernel) (by decide +kernel)
set_option maxRecDepth 100000 in
theorem wd_25 : Cond.selects "CapitalCase$Judge" ⟨"CapitalCase$Judge", "lookAtVerse", "(I)V"⟩ ⟨"CapitalCase$Judge", "lookAtVerse", "(I)V"⟩ ∈ xTB := xw 25 (by decide +kernel) (by decide +kernel)
set_option maxRecDepth 100000 in
theorem wd_26 : Cond.selects "CapitalCase" ⟨"CapitalCase", "isOpen", "(I)Z"⟩ ⟨"CapitalCase", "isOpen", "(I)Z"⟩ ∈ xTB := xw 26 (by decide +kernel) (by decide +kernel)
set_option maxRecDepth 100000 in
theorem wd_27 : Cond.selects "CapitalCase" ⟨"CapitalCase", "couldBeSet", "(I)Z"⟩ ⟨"CapitalCase", "couldBeSet", "(I)Z"⟩ ∈ xTB := xw 27 (by decide +kernel) (by decide +kernel)
set_option maxRecDepth 100000 in
theorem wd_28 : Cond.selects "CapitalCase$Planner" ⟨"CapitalCase$Planner", "orderGivers", "(LCapitalCase$Town;II)V"⟩ ⟨"CapitalCase$Planner", "orderGivers", "(LCapitalCase$Town;II)V"⟩ ∈ xTB := xw 28 (by decide +kernel) (by decide +kernel)
set_option maxRecDepth 100000 in
theorem wd_29 : Cond.selects "CapitalCase$Planner" ⟨"CapitalCase$Planner", "pick", "(II)I"⟩ ⟨"CapitalCase$Planner", "pick", "(II)I"⟩ ∈ xTB := xw 29 (by decide +kernel) (by decide +kernel)
set_option maxRecDepth 100000 in
theorem wd_30 : Cond.selects "CapitalCase$Press" ⟨"CapitalCase$Press", "wear", "(LCapitalCase$Town;II)Z"⟩ ⟨"CapitalCase$Press", "wear", "(LCapitalCase$Town;II)Z"⟩ ∈ xTB := xw 30 (by decide +kernel) (by decide +kernel)
set_option maxRecDepth 100000 in
theorem wd_31 : Cond.selects "CapitalCase$Press" ⟨"CapitalCase$Press", "steal", "(LCapitalCase$Town;I)V"⟩ ⟨"CapitalCase$Press", "steal", "(LCapitalCase$Town;I)V"⟩ ∈ xTB := xw 31 (by decide +kernel) (by decide +kernel)
set_option maxRecDepth 100000 in
theorem wd_32 : Cond.selects "CapitalCase$Planner" ⟨"CapitalCase$Planner", "search", "()V"⟩ ⟨"CapitalCase$Planner", "search", "()V"⟩ ∈ xTB := xw 32 (by decide +kernel) (by decide +kernel)
set_option maxRecDepth 100000 in
theorem wd_33 : Cond.selects "CapitalCase$Planner" ⟨"CapitalCase$Planner", "keepIfMore", "(II)V"⟩ ⟨"CapitalCase$Planner", "keepIfMore", "(II)V"⟩ ∈ xTB := xw 33 (by decide +kernel) (by decide +kernel)
set_option maxRecDepth 100000 in
theorem wd_34 : Cond.selects "CapitalCase$TwoDays" ⟨"CapitalCase$TwoDays", "total", "([II)I"⟩ ⟨"CapitalCase$TwoDays", "total", "([II)I"⟩ ∈ xTB := xw 34 (by decide +kernel) (by decide +kernel)
set_option maxRecDepth 100000 in
theorem wd_35 : Cond.selects "CapitalCase$TwoDays" ⟨"CapitalCase$TwoDays", "takeAll", "(I)Z"⟩ ⟨"CapitalCase$TwoDays", "takeAll", "(I)Z"⟩ ∈ xTB := xw 35 (by decide +kernel) (by decide +kernel)
set_option maxRecDepth 100000 in
theorem wd_36 : Cond.selects "CapitalCase$TwoDays" ⟨"CapitalCase$TwoDays", "giveUpAll", "(I)V"⟩ ⟨"CapitalCase$TwoDays", "giveUpAll", "(I)V"⟩ ∈ xTB := xw 36 (by decide +kernel) (by decide +kernel)
set_option maxRecDepth 100000 in
theorem wd_37 : Cond.selects "CapitalCase$TwoDays" ⟨"CapitalCase$TwoDays", "passFirst", "(LCapitalCase$Town;I)V"⟩ ⟨"CapitalCase$TwoDays", "passFirst", "(LCapitalCase$Town;I)V"⟩ ∈ xTB := xw 37 (by decide +kernel) (by decide +kernel)
set_option maxRecDepth 100000 in
theorem wd_38 : Cond.selects "CapitalCase$Trade" ⟨"CapitalCase$Trade", "freeElsewhere", "(LCapitalCase$Town;II)I"⟩ ⟨"CapitalCase$Trade", "freeElsewhere", "(LCapitalCase$Town;II)I"⟩ ∈ xTB := xw 38 (by decide +kernel) (by decide +kernel)
set_option maxRecDepth 100000 in
theorem wd_39 : Cond.selects "CapitalCase$Trade" ⟨"CapitalCase$Trade", "seekBetween", "(LCapitalCase$Town;II)V"⟩ ⟨"CapitalCase$Trade", "seekBetween", "(LCapitalCase$Town;II)V"⟩ ∈ xTB := xw 39 (by decide +kernel) (by decide +kernel)
set_option maxRecDepth 100000 in
theorem wd_40 : Cond.selects "CapitalCase$Trade" ⟨"CapitalCase$Trade", "gains", "(LCapitalCase$Town;III)Z"⟩ ⟨"CapitalCase$Trade", "gains", "(LCapitalCase$Town;III)Z"⟩ ∈ xTB := xw 40 (by decide +kernel) (by decide +kernel)
set_option maxRecDepth 100000 in
theorem wd_41 : Cond.selects "CapitalCase$Trade" ⟨"CapitalCase$Trade", "versesAlone", "(LCapitalCase$Town;III)I"⟩ ⟨"CapitalCase$Trade", "versesAlone", "(LCapitalCase$Town;III)I"⟩ ∈ xTB := xw 41 (by decide +kernel) (by decide +kernel)
set_option maxRecDepth 100000 in
theorem wd_42 : Cond.selects "CapitalCase" ⟨"CapitalCase", "heldSlots", "()I"⟩ ⟨"CapitalCase", "heldSlots", "()I"⟩ ∈ xTB := xw 42 (by decide +kernel) (by decide +kernel)
set_option maxRecDepth 100000 in
theorem wd_43 : Cond.selects "CapitalCase" ⟨"CapitalCase", "settable", "()I"⟩ ⟨"CapitalCase", "settable", "()I"⟩ ∈ xTB := xw 43 (by decide +kernel) (by decide +kernel)
set_option maxRecDepth 100000 in
theorem wd_47 : Cond.selects "CapitalCaseModel" ⟨"CapitalCaseModel", "put", "(I)V"⟩ ⟨"CapitalCaseModel", "put", "(I)V"⟩ ∈ xTB := xw 47 (by decide +kernel) (by decide +kernel)
set_option maxRecDepth 100000 in
theorem wd_48 : Cond.selects "CapitalCaseModel" ⟨"CapitalCaseModel", "cut", "()V"⟩ ⟨"CapitalCaseModel", "cut", "()V"⟩ ∈ xTB := xw 48 (by decide +kernel) (by decide +kernel)
set_option maxRecDepth 100000 in
theorem wd_49 : Cond.selects "CapitalCaseModel" ⟨"CapitalCaseModel", "byteAt", "(I)I"⟩ ⟨"CapitalCaseModel", "byteAt", "(I)I"⟩ ∈ xTB := xw 49 (by decide +kernel) (by decide +kernel)
set_option maxRecDepth 100000 in
theorem wd_50 : Cond.selects "CapitalCaseModel" ⟨"CapitalCaseModel", "token", "(IIIJ)V"⟩ ⟨"CapitalCaseModel", "token", "(IIIJ)V"⟩ ∈ xTB := xw 50 (by decide +kernel) (by decide +kernel)
set_option maxRecDepth 100000 in
theorem wd_51 : Cond.selects "CapitalCaseModel" ⟨"CapitalCaseModel", "sign", "(III)I"⟩ ⟨"CapitalCaseModel", "sign", "(III)I"⟩ ∈ xTB := xw 51 (by decide +kernel) (by decide +kernel)
set_option maxRecDepth 100000 in
theorem wd_52 : Cond.selects "CapitalCaseModel" ⟨"CapitalCaseModel", "is", "(I)Z"⟩ ⟨"CapitalCaseModel", "is", "(I)Z"⟩ ∈ xTB := xw 52 (by decide +kernel) (by decide +kernel)
set_option maxRecDepth 100000 in
theorem wd_53 : Cond.selects "CapitalCaseModel" ⟨"CapitalCaseModel", "tellOne", "()V"⟩ ⟨"CapitalCaseModel", "tellOne", "()V"⟩ ∈ xTB := xw 53 (by decide +kernel) (by decide +kernel)
set_option maxRecDepth 100000 in
theorem wd_54 : Cond.selects "CapitalCaseModel" ⟨"CapitalCaseModel", "roomFor", "(II)V"⟩ ⟨"CapitalCaseModel", "roomFor", "(II)V"⟩ ∈ xTB := xw 54 (by decide +kernel) (by decide +kernel)
set_option maxRecDepth 100000 in
theorem wd_55 : Cond.selects "CapitalCaseModel" ⟨"CapitalCaseModel", "fail", "(I)V"⟩ ⟨"CapitalCaseModel", "fail", "(I)V"⟩ ∈ xTB := xw 55 (by decide +kernel) (by decide +kernel)
set_option maxRecDepth 100000 in
theorem wd_56 : Cond.selects "CapitalCaseModel" ⟨"CapitalCaseModel", "goesOn", "()V"⟩ ⟨"CapitalCaseModel", "goesOn", "()V"⟩ ∈ xTB := xw 56 (by decide +kernel) (by decide +kernel)
set_option maxRecDepth 100000 in
theorem wd_57 : Cond.selects "CapitalCaseModel" ⟨"CapitalCaseModel", "tellHouse", "()V"⟩ ⟨"CapitalCaseModel", "tellHouse", "()V"⟩ ∈ xTB := xw 57 (by decide +kernel) (by decide +kernel)
set_option maxRecDepth 100000 in
theorem wd_58 : Cond.selects "CapitalCaseModel" ⟨"CapitalCaseModel", "named", "()I"⟩ ⟨"CapitalCaseModel", "named", "()I"⟩ ∈ xTB := xw 58 (by decide +kernel) (by decide +kernel)
set_option maxRecDepth 100000 in
theorem wd_59 : Cond.selects "CapitalCaseModel" ⟨"CapitalCaseModel", "must", "(I)V"⟩ ⟨"CapitalCaseModel", "must", "(I)V"⟩ ∈ xTB := xw 59 (by decide +kernel) (by decide +kernel)
set_option maxRecDepth 100000 in
theorem wd_60 : Cond.selects "CapitalCaseModel" ⟨"CapitalCaseModel", "wrong", "(II)V"⟩ ⟨"CapitalCaseModel", "wrong", "(II)V"⟩ ∈ xTB := xw 60 (by decide +kernel) (by decide +kernel)
set_option maxRecDepth 100000 in
theorem wd_61 : Cond.selects "CapitalCaseModel" ⟨"CapitalCaseModel", "takesLetters", "()V"⟩ ⟨"CapitalCaseModel", "takesLetters", "()V"⟩ ∈ xTB := xw 61 (by decide +kernel) (by decide +kernel)
set_option maxRecDepth 100000 in
theorem wd_62 : Cond.selects "CapitalCaseModel" ⟨"CapitalCaseModel", "ends", "(I)V"⟩ ⟨"CapitalCaseModel", "ends", "(I)V"⟩ ∈ xTB := xw 62 (by decide +kernel) (by decide +kernel)
set_option maxRecDepth 100000 in
theorem wd_63 : Cond.selects "CapitalCaseModel" ⟨"CapitalCaseModel", "tellVerse", "()V"⟩ ⟨"CapitalCaseModel", "tellVerse", "()V"⟩ ∈ xTB := xw 63 (by decide +kernel) (by decide +kernel)
set_option maxRecDepth 100000 in
theorem wd_64 : Cond.selects "CapitalCaseModel" ⟨"CapitalCaseModel", "bounded", "(II)I"⟩ ⟨"CapitalCaseModel", "bounded", "(II)I"⟩ ∈ xTB := xw 64 (by decide +kernel) (by decide +kernel)
set_option maxRecDepth 100000 in
theorem wd_65 : Cond.selects "CapitalCaseModel" ⟨"CapitalCaseModel", "toldInt", "(II)I"⟩ ⟨"CapitalCaseModel", "toldInt", "(II)I"⟩ ∈ xTB := xw 65 (by decide +kernel) (by decide +kernel)
set_option maxRecDepth 100000 in
theorem wd_66 : Cond.selects "CapitalCaseModel" ⟨"CapitalCaseModel", "tellLaw", "(I)V"⟩ ⟨"CapitalCaseModel", "tellLaw", "(I)V"⟩ ∈ xTB := xw 66 (by decide +kernel) (by decide +kernel)
set_option maxRecDepth 100000 in
theorem wd_67 : Cond.selects "CapitalCaseModel" ⟨"CapitalCaseModel", "expression", "()V"⟩ ⟨"CapitalCaseModel", "expression", "()V"⟩ ∈ xTB := xw 67 (by decide +kernel) (by decide +kernel)
set_option maxRecDepth 100000 in
theorem wd_68 : Cond.selects "CapitalCaseModel" ⟨"CapitalCaseModel", "unit", "()V"⟩ ⟨"CapitalCaseModel", "unit", "()V"⟩ ∈ xTB := xw 68 (by decide +kernel) (by decide +kernel)
set_option maxRecDepth 100000 in
theorem wd_69 : Cond.selects "CapitalCaseModel" ⟨"CapitalCaseModel", "emit", "(II)V"⟩ ⟨"CapitalCaseModel", "emit", "(II)V"⟩ ∈ xTB := xw 69 (by decide +kernel) (by decide +kernel)
set_option maxRecDepth 100000 in
theorem wd_70 : Cond.selects "CapitalCaseModel" ⟨"CapitalCaseModel", "comesOut", "(Z)V"⟩ ⟨"CapitalCaseModel", "comesOut", "(Z)V"⟩ ∈ xTB := xw 70 (by decide +kernel) (by decide +kernel)
set_option maxRecDepth 100000 in
theorem wd_71 : Cond.selects "CapitalCaseModel" ⟨"CapitalCaseModel", "term", "()V"⟩ ⟨"CapitalCaseModel", "term", "()V"⟩ ∈ xTB := xw 71 (by decide +kernel) (by decide +kernel)
set_option maxRecDepth 100000 in
theorem wd_72 : Cond.selects "CapitalCaseModel" ⟨"CapitalCaseModel", "isHouse", "(I)Z"⟩ ⟨"CapitalCaseModel", "isHouse", "(I)Z"⟩ ∈ xTB := xw 72 (by decide +kernel) (by decide +kernel)
set_option maxRecDepth 100000 in
theorem wd_73 : Cond.selects "CapitalCaseModel" ⟨"CapitalCaseModel", "copies", "()V"⟩ ⟨"CapitalCaseModel", "copies", "()V"⟩ ∈ xTB := xw 73 (by decide +kernel) (by decide +kernel)
set_option maxRecDepth 100000 in
theorem wd_74 : Cond.selects "CapitalCaseModel" ⟨"CapitalCaseModel", "freeOf", "(II)I"⟩ ⟨"CapitalCaseModel", "freeOf", "(II)I"⟩ ∈ xTB := xw 74 (by decide +kernel) (by decide +kernel)
set_option maxRecDepth 100000 in
theorem wd_75 : Cond.selects "CapitalCaseModel" ⟨"CapitalCaseModel", "lentOut", "(II)I"⟩ ⟨"CapitalCaseModel", "lentOut", "(II)I"⟩ ∈ xTB := xw 75 (by decide +kernel) (by decide +kernel)
set_option maxRecDepth 100000 in
theorem wd_76 : Cond.selects "CapitalCaseModel" ⟨"CapitalCaseModel", "lentTo", "(II)I"⟩ ⟨"CapitalCaseModel", "lentTo", "(II)I"⟩ ∈ xTB := xw 76 (by decide +kernel) (by decide +kernel)
set_option maxRecDepth 100000 in
theorem wd_77 : Cond.selects "CapitalCaseModel" ⟨"CapitalCaseModel", "wearsOf", "(II)I"⟩ ⟨"CapitalCaseModel", "wearsOf", "(II)I"⟩ ∈ xTB := xw 77 (by decide +kernel) (by decide +kernel)
set_option maxRecDepth 100000 in
theorem wd_78 : Cond.selects "CapitalCaseModel" ⟨"CapitalCaseModel", "looksAt", "(II)V"⟩ ⟨"CapitalCaseModel", "looksAt", "(II)V"⟩ ∈ xTB := xw 78 (by decide +kernel) (by decide +kernel)
set_option maxRecDepth 100000 in
theorem wd_79 : Cond.selects "CapitalCaseModel" ⟨"CapitalCaseModel", "looks", "()V"⟩ ⟨"CapitalCaseModel", "looks", "()V"⟩ ∈ xTB := xw 79 (by decide +kernel) (by decide +kernel)
set_option maxRecDepth 100000 in
theorem wd_80 : Cond.selects "CapitalCaseModel" ⟨"CapitalCaseModel", "lawTells", "(II)I"⟩ ⟨"CapitalCaseModel", "lawTells", "(II)I"⟩ ∈ xTB := xw 80 (by decide +kernel) (by decide +kernel)
set_option maxRecDepth 100000 in
theorem wd_81 : Cond.selects "CapitalCaseModel" ⟨"CapitalCaseModel", "termOf", "(II)I"⟩ ⟨"CapitalCaseModel", "termOf", "(II)I"⟩ ∈ xTB := xw 81 (by decide +kernel) (by decide +kernel)
set_option maxRecDepth 100000 in
theorem wd_82 : Cond.selects "CapitalCaseModel" ⟨"CapitalCaseModel", "isVerse", "(I)Z"⟩ ⟨"CapitalCaseModel", "isVerse", "(I)Z"⟩ ∈ xTB := xw 82 (by decide +kernel) (by decide +kernel)
set_option maxRecDepth 100000 in
theorem wd_83 : Cond.selects "CapitalCaseModel" ⟨"CapitalCaseModel", "paysOf", "(I)I"⟩ ⟨"CapitalCaseModel", "paysOf", "(I)I"⟩ ∈ xTB := xw 83 (by decide +kernel) (by decide +kernel)
set_option maxRecDepth 100000 in
theorem wd_84 : Cond.selects "CapitalCaseModel" ⟨"CapitalCaseModel", "looksFor", "(I)V"⟩ ⟨"CapitalCaseModel", "looksFor", "(I)V"⟩ ∈ xTB := xw 84 (by decide +kernel) (by decide +kernel)
set_option maxRecDepth 100000 in
theorem wd_85 : Cond.selects "CapitalCaseModel" ⟨"CapitalCaseModel", "rankOf", "(III)I"⟩ ⟨"CapitalCaseModel", "rankOf", "(III)I"⟩ ∈ xTB := xw 85 (by decide +kernel) (by decide +kernel)
set_option maxRecDepth 100000 in
theorem wd_86 : Cond.selects "CapitalCaseModel" ⟨"CapitalCaseModel", "givesLeave", "(III)Z"⟩ ⟨"CapitalCaseModel", "givesLeave", "(III)Z"⟩ ∈ xTB := xw 86 (by decide +kernel) (by decide +kernel)
set_option maxRecDepth 100000 in
theorem wd_87 : Cond.selects "CapitalCaseModel" ⟨"CapitalCaseModel", "isOpen", "(I)Z"⟩ ⟨"CapitalCaseModel", "isOpen", "(I)Z"⟩ ∈ xTB := xw 87 (by decide +kernel) (by decide +kernel)
set_option maxRecDepth 100000 in
theorem wd_88 : Cond.selects "CapitalCaseModel" ⟨"CapitalCaseModel", "sets", "(I)Z"⟩ ⟨"CapitalCaseModel", "sets", "(I)Z"⟩ ∈ xTB := xw 88 (by decide +kernel) (by decide +kernel)
set_option maxRecDepth 100000 in
theorem wd_89 : Cond.selects "CapitalCaseModel" ⟨"CapitalCaseModel", "giverOf", "(II)I"⟩ ⟨"CapitalCaseModel", "giverOf", "(II)I"⟩ ∈ xTB := xw 89 (by decide +kernel) (by decide +kernel)
set_option maxRecDepth 100000 in
theorem wd_90 : Cond.selects "CapitalCaseModel" ⟨"CapitalCaseModel", "clears", "(I)V"⟩ ⟨"CapitalCaseModel", "clears", "(I)V"⟩ ∈ xTB := xw 90 (by decide +kernel) (by decide +kernel)
set_option maxRecDepth 100000 in
theorem wd_91 : Cond.selects "CapitalCaseModel" ⟨"CapitalCaseModel", "records", "()V"⟩ ⟨"CapitalCaseModel", "records", "()V"⟩ ∈ xTB := xw 91 (by decide +kernel) (by decide +kernel)
set_option maxRecDepth 100000 in
theorem wd_92 : Cond.selects "CapitalCaseModel" ⟨"CapitalCaseModel", "areTwo", "(III)Z"⟩ ⟨"CapitalCaseModel", "areTwo", "(III)Z"⟩ ∈ xTB := xw 92 (by decide +kernel) (by decide +kernel)
set_option maxRecDepth 100000 in
theorem wd_93 : Cond.selects "CapitalCaseModel" ⟨"CapitalCaseModel", "goes", "(I)V"⟩ ⟨"CapitalCaseModel", "goes", "(I)V"⟩ ∈ xTB := xw 93 (by decide +kernel) (by decide +kernel)
set_option maxRecDepth 100000 in
theorem wd_94 : Cond.selects "CapitalCaseModel" ⟨"CapitalCaseModel", "dayGoes", "()V"⟩ ⟨"CapitalCaseModel", "dayGoes", "()V"⟩ ∈ xTB := xw 94 (by decide +kernel) (by decide +kernel)
set_option maxRecDepth 100000 in
theorem wd_95 : Cond.selects "CapitalCaseModel" ⟨"CapitalCaseModel", "wears", "(I)V"⟩ ⟨"CapitalCaseModel", "wears", "(I)V"⟩ ∈ xTB := xw 95 (by decide +kernel) (by decide +kernel)
set_option maxRecDepth 100000 in
theorem wd_96 : Cond.selects "CapitalCaseModel" ⟨"CapitalCaseModel", "areThieves", "()Z"⟩ ⟨"CapitalCaseModel", "areThieves", "()Z"⟩ ∈ xTB := xw 96 (by decide +kernel) (by decide +kernel)
set_option maxRecDepth 100000 in
theorem wd_97 : Cond.selects "CapitalCaseModel" ⟨"CapitalCaseModel", "lotOf", "(II)I"⟩ ⟨"CapitalCaseModel", "lotOf", "(II)I"⟩ ∈ xTB := xw 97 (by decide +kernel) (by decide +kernel)
set_option maxRecDepth 100000 in
theorem wd_98 : Cond.selects "CapitalCaseModel" ⟨"CapitalCaseModel", "thievesCome", "()V"⟩ ⟨"CapitalCaseModel", "thievesCome", "()V"⟩ ∈ xTB := xw 98 (by decide +kernel) (by decide +kernel)
set_option maxRecDepth 100000 in
theorem wd_99 : Cond.selects "CapitalCaseModel" ⟨"CapitalCaseModel", "findsBest", "()V"⟩ ⟨"CapitalCaseModel", "findsBest", "()V"⟩ ∈ xTB := xw 99 (by decide +kernel) (by decide +kernel)
set_option maxRecDepth 100000 in
theorem wd_100 : Cond.selects "CapitalCaseModel" ⟨"CapitalCaseModel", "openBits", "()I"⟩ ⟨"CapitalCaseModel", "openBits", "()I"⟩ ∈ xTB := xw 100 (by decide +kernel) (by decide +kernel)
set_option maxRecDepth 100000 in
theorem wd_101 : Cond.selects "CapitalCaseModel" ⟨"CapitalCaseModel", "keepsAhead", "()V"⟩ ⟨"CapitalCaseModel", "keepsAhead", "()V"⟩ ∈ xTB := xw 101 (by decide +kernel) (by decide +kernel)
set_option maxRecDepth 100000 in
theorem wd_102 : Cond.selects "CapitalCaseModel" ⟨"CapitalCaseModel", "canSet", "(I)Z"⟩ ⟨"CapitalCaseModel", "canSet", "(I)Z"⟩ ∈ xTB := xw 102 (by decide +kernel) (by decide +kernel)
set_option maxRecDepth 100000 in
theorem wd_103 : Cond.selects "CapitalCaseModel" ⟨"CapitalCaseModel", "firstDay", "(I)I"⟩ ⟨"CapitalCaseModel", "firstDay", "(I)I"⟩ ∈ xTB := xw 103 (by decide +kernel) (by decide +kernel)
set_option maxRecDepth 100000 in
theorem wd_104 : Cond.selects "CapitalCaseModel" ⟨"CapitalCaseModel", "needsOf", "(II)I"⟩ ⟨"CapitalCaseModel", "needsOf", "(II)I"⟩ ∈ xTB := xw 104 (by decide +kernel) (by decide +kernel)
set_option maxRecDepth 100000 in
theorem wd_105 : Cond.selects "CapitalCaseModel" ⟨"CapitalCaseModel", "isBargain", "(IIII)Z"⟩ ⟨"CapitalCaseModel", "isBargain", "(IIII)Z"⟩ ∈ xTB := xw 105 (by decide +kernel) (by decide +kernel)
set_option maxRecDepth 100000 in
theorem wd_106 : Cond.selects "CapitalCaseModel" ⟨"CapitalCaseModel", "ownVerses", "(III)I"⟩ ⟨"CapitalCaseModel", "ownVerses", "(III)I"⟩ ∈ xTB := xw 106 (by decide +kernel) (by decide +kernel)
set_option maxRecDepth 100000 in
theorem wd_107 : Cond.selects "CapitalCaseModel" ⟨"CapitalCaseModel", "whoseBits", "(I)I"⟩ ⟨"CapitalCaseModel", "whoseBits", "(I)I"⟩ ∈ xTB := xw 107 (by decide +kernel) (by decide +kernel)
set_option maxRecDepth 100000 in
theorem wd_108 : Cond.selects "CapitalCaseModel" ⟨"CapitalCaseModel", "versesSo", "(II)I"⟩ ⟨"CapitalCaseModel", "versesSo", "(II)I"⟩ ∈ xTB := xw 108 (by decide +kernel) (by decide +kernel)
set_option maxRecDepth 100000 in
theorem wd_109 : Cond.selects "CapitalCaseModel" ⟨"CapitalCaseModel", "sumNow", "(II)I"⟩ ⟨"CapitalCaseModel", "sumNow", "(II)I"⟩ ∈ xTB := xw 109 (by decide +kernel) (by decide +kernel)
set_option maxRecDepth 100000 in
theorem wd_129 : Cond.initialized "java/lang/Math" ∈ xTB := xw 129 (by decide +kernel) (by decide +kernel)
set_option maxRecDepth 100000 in
theorem wd_131 : Cond.initialized "java/lang/System" ∈ xTB := xw 131 (by decide +kernel) (by decide +kernel)
set_option maxRecDepth 100000 in
theorem wd_132 : Cond.initialized "java/lang/Integer" ∈ xTB := xw 132 (by decide +kernel) (by decide +kernel)
set_option maxRecDepth 100000 in
theorem wd_163 : Cond.fieldLink "CapitalCase$Trade" 33 "CapitalCase$Script" "houses" "I" ∈ xTB := xw 163 (by decide +kernel) (by decide +kernel)
set_option maxRecDepth 100000 in
theorem wd_164 : Cond.fieldLink "CapitalCase$Planner" 73 "CapitalCase$Script" "houses" "I" ∈ xTB := xw 164 (by decide +kernel) (by decide +kernel)
set_option maxRecDepth 100000 in
theorem wd_165 : Cond.fieldLink "CapitalCase$Press" 57 "CapitalCase$Script" "houses" "I" ∈ xTB := xw 165 (by decide +kernel) (by decide +kernel)
set_option maxRecDepth 100000 in
theorem wd_166 : Cond.fieldLink "CapitalCase$Parser" 86 "CapitalCase$Script" "houses" "I" ∈ xTB := xw 166 (by decide +kernel) (by decide +kernel)
set_option maxRecDepth 100000 in
theorem wd_167 : Cond.fieldLink "CapitalCase" 134 "CapitalCase$Script" "houses" "I" ∈ xTB := xw 167 (by decide +kernel) (by decide +kernel)
set_option maxRecDepth 100000 in
theorem wd_168 : Cond.fieldLink "CapitalCase$TwoDays" 46 "CapitalCase$Script" "verses" "I" ∈ xTB := xw 168 (by decide +kernel) (by decide +kernel)
set_option maxRecDepth 100000 in
theorem wd_170 : Cond.fieldLink "CapitalCase$Planner" 53 "CapitalCase$Script" "verses" "I" ∈ xTB := xw 170 (by decide +kernel) (by decide +kernel)
set_option maxRecDepth 100000 in
theorem wd_171 : Cond.fieldLink "CapitalCase$Press" 33 "CapitalCase$Script" "verses" "I" ∈ xTB := xw 171 (by decide +kernel) (by decide +kernel)
set_option maxRecDepth 100000 in
theorem wd_172 : Cond.fieldLink "CapitalCase$Trade" 59 "CapitalCase$Script" "verses" "I" ∈ xTB := xw 172 (by decide +kernel) (by decide +kernel)
set_option maxRecDepth 100000 in
theorem wd_173 : Cond.fieldLink "CapitalCase$Parser" 112 "CapitalCase$Script" "verses" "I" ∈ xTB := xw 173 (by decide +kernel) (by decide +kernel)
set_option maxRecDepth 100000 in
theorem wd_174 : Cond.fieldLink "CapitalCase" 141 "CapitalCase$Script" "verses" "I" ∈ xTB := xw 174 (by decide +kernel) (by decide +kernel)
set_option maxRecDepth 100000 in
theorem wd_176 : Cond.fieldLink "CapitalCase$Press" 80 "CapitalCase$Script" "spoils" "I" ∈ xTB := xw 176 (by decide +kernel) (by decide +kernel)
set_option maxRecDepth 100000 in
theorem wd_177 : Cond.fieldLink "CapitalCase$Parser" 134 "CapitalCase$Script" "spoils" "I" ∈ xTB := xw 177 (by decide +kernel) (by decide +kernel)
set_option maxRecDepth 100000 in
theorem wd_179 : Cond.fieldLink "CapitalCase$Press" 91 "CapitalCase$Script" "thieves" "I" ∈ xTB := xw 179 (by decide +kernel) (by decide +kernel)
set_option maxRecDepth 100000 in
theorem wd_180 : Cond.fieldLink "CapitalCase$Parser" 137 "CapitalCase$Script" "thieves" "I" ∈ xTB := xw 180 (by decide +kernel) (by decide +kernel)
set_option maxRecDepth 100000 in
theorem wd_182 : Cond.fieldLink "CapitalCase$Parser" 140 "CapitalCase$Script" "seed" "I" ∈ xTB := xw 182 (by decide +kernel) (by decide +kernel)
set_option maxRecDepth 100000 in
theorem wd_183 : Cond.fieldLink "CapitalCase" 249 "CapitalCase$Script" "seed" "I" ∈ xTB := xw 183 (by decide +kernel) (by decide +kernel)
set_option maxRecDepth 100000 in
theorem wd_185 : Cond.fieldLink "CapitalCase$Town" 27 "CapitalCase$Script" "pieces" "[I" ∈ xTB := xw 185 (by decide +kernel) (by decide +kernel)
set_option maxRecDepth 100000 in
theorem wd_186 : Cond.fieldLink "CapitalCase$Parser" 109 "CapitalCase$Script" "pieces" "[I" ∈ xTB := xw 186 (by decide +kernel) (by decide +kernel)
set_option maxRecDepth 100000 in
theorem wd_188 : Cond.fieldLink "CapitalCase$Judge" 51 "CapitalCase$Script" "value" "[I" ∈ xTB := xw 188 (by decide +kernel) (by decide +kernel)
set_option maxRecDepth 100000 in
theorem wd_189 : Cond.fieldLink "CapitalCase$Parser" 115 "CapitalCase$Script" "value" "[I" ∈ xTB := xw 189 (by decide +kernel) (by decide +kernel)
set_option maxRecDepth 100000 in
theorem wd_190 : Cond.fieldLink "CapitalCase" 178 "CapitalCase$Script" "value" "[I" ∈ xTB := xw 190 (by decide +kernel) (by decide +kernel)
set_option maxRecDepth 100000 in
theorem wd_192 : Cond.fieldLink "CapitalCase$Judge" 54 "CapitalCase$Script" "due" "[I" ∈ xTB := xw 192 (by decide +kernel) (by decide +kernel)
set_option maxRecDepth 100000 in
theorem wd_193 : Cond.fieldLink "CapitalCase$Parser" 122 "CapitalCase$Script" "due" "[I" ∈ xTB := xw 193 (by decide +kernel) (by decide +kernel)
set_option maxRecDepth 100000 in
theorem wd_194 : Cond.fieldLink "CapitalCase" 181 "CapitalCase$Script" "due" "[I" ∈ xTB := xw 194 (by decide +kernel) (by decide +kernel)
set_option maxRecDepth 100000 in
theorem wd_196 : Cond.fieldLink "CapitalCase$Planner" 87 "CapitalCase$Script" "wide" "[I" ∈ xTB := xw 196 (by decide +kernel) (by decide +kernel)
set_option maxRecDepth 100000 in
theorem wd_197 : Cond.fieldLink "CapitalCase$TwoDays" 106 "CapitalCase$Script" "wide" "[I" ∈ xTB := xw 197 (by decide +kernel) (by decide +kernel)
set_option maxRecDepth 100000 in
theorem wd_198 : Cond.fieldLink "CapitalCase$Judge" 57 "CapitalCase$Script" "wide" "[I" ∈ xTB := xw 198 (by decide +kernel) (by decide +kernel)
set_option maxRecDepth 100000 in
theorem wd_199 : Cond.fieldLink "CapitalCase$Town" 66 "CapitalCase$Script" "wide" "[I" ∈ xTB := xw 199 (by decide +kernel) (by decide +kernel)
set_option maxRecDepth 100000 in
theorem wd_200 : Cond.fieldLink "CapitalCase$Parser" 125 "CapitalCase$Script" "wide" "[I" ∈ xTB := xw 200 (by decide +kernel) (by decide +kernel)
set_option maxRecDepth 100000 in
theorem wd_201 : Cond.fieldLink "CapitalCase" 184 "CapitalCase$Script" "wide" "[I" ∈ xTB := xw 201 (by decide +kernel) (by decide +kernel)
set_option maxRecDepth 100000 in
theorem wd_203 : Cond.fieldLink "CapitalCase$Planner" 90 "CapitalCase$Script" "wanted" "[I" ∈ xTB := xw 203 (by decide +kernel) (by decide +kernel)
set_option maxRecDepth 100000 in
theorem wd_204 : Cond.fieldLink "CapitalCase$Town" 69 "CapitalCase$Script" "wanted" "[I" ∈ xTB := xw 204 (by decide +kernel) (by decide +kernel)
set_option maxRecDepth 100000 in
theorem wd_205 : Cond.fieldLink "CapitalCase$Parser" 128 "CapitalCase$Script" "wanted" "[I" ∈ xTB := xw 205 (by decide +kernel) (by decide +kernel)
set_option maxRecDepth 100000 in
theorem wd_206 : Cond.fieldLink "CapitalCase" 202 "CapitalCase$Script" "wanted" "[I" ∈ xTB := xw 206 (by decide +kernel) (by decide +kernel)
set_option maxRecDepth 100000 in
theorem wd_208 : Cond.fieldLink "CapitalCase$Trade" 15 "CapitalCase$Script" "needs" "[I" ∈ xTB := xw 208 (by decide +kernel) (by decide +kernel)
set_option maxRecDepth 100000 in
theorem wd_209 : Cond.fieldLink "CapitalCase$Planner" 66 "CapitalCase$Script" "needs" "[I" ∈ xTB := xw 209 (by decide +kernel) (by decide +kernel)
set_option maxRecDepth 100000 in
theorem wd_210 : Cond.fieldLink "CapitalCase$Parser" 131 "CapitalCase$Script" "needs" "[I" ∈ xTB := xw 210 (by decide +kernel) (by decide +kernel)
set_option maxRecDepth 100000 in
theorem wd_212 : Cond.fieldLink "CapitalCase$Judge" 75 "CapitalCase$Script" "lawStart" "[I" ∈ xTB := xw 212 (by decide +kernel) (by decide +kernel)
set_option maxRecDepth 100000 in
theorem wd_213 : Cond.fieldLink "CapitalCase$Parser" 160 "CapitalCase$Script" "lawStart" "[I" ∈ xTB := xw 213 (by decide +kernel) (by decide +kernel)
set_option maxRecDepth 100000 in
theorem wd_215 : Cond.fieldLink "CapitalCase$Judge" 81 "CapitalCase$Script" "step" "[I" ∈ xTB := xw 215 (by decide +kernel) (by decide +kernel)
set_option maxRecDepth 100000 in
theorem wd_217 : Cond.fieldLink "CapitalCase$Judge" 84 "CapitalCase$Script" "operand" "[I" ∈ xTB := xw 217 (by decide +kernel) (by decide +kernel)
set_option maxRecDepth 100000 in
theorem wd_219 : Cond.fieldLink "CapitalCase$Judge" 78 "CapitalCase$Script" "steps" "I" ∈ xTB := xw 219 (by decide +kernel) (by decide +kernel)
set_option maxRecDepth 100000 in
theorem wd_220 : Cond.fieldLink "CapitalCase$Parser" 147 "CapitalCase$Script" "steps" "I" ∈ xTB := xw 220 (by decide +kernel) (by decide +kernel)
set_option maxRecDepth 100000 in
theorem wd_269 : Cond.fieldLink "CapitalCase$Parser" 80 "CapitalCase$Tokens" "kind" "[I" ∈ xTB := xw 269 (by decide +kernel) (by decide +kernel)
set_option maxRecDepth 100000 in
theorem wd_271 : Cond.fieldLink "CapitalCase$Parser" 83 "CapitalCase$Tokens" "place" "[I" ∈ xTB := xw 271 (by decide +kernel) (by decide +kernel)
set_option maxRecDepth 100000 in
theorem wd_273 : Cond.fieldLink "CapitalCase$Parser" 102 "CapitalCase$Tokens" "size" "[I" ∈ xTB := xw 273 (by decide +kernel) (by decide +kernel)
set_option maxRecDepth 100000 in
theorem wd_282 : Cond.fieldLink "CapitalCase" 120 "CapitalCase$Parser" "script" "LCapitalCase$Script;" ∈ xTB := xw 282 (by decide +kernel) (by decide +kernel)
set_option maxRecDepth 100000 in
theorem wd_285 : Cond.fieldLink "CapitalCase$Parser" 40 "CapitalCase$Parser" "at" "I" ∈ xTB := xw 285 (by decide +kernel) (by decide +kernel)
set_option maxRecDepth 100000 in
theorem wd_286 : Cond.fieldLink "CapitalCase$Parser" 44 "CapitalCase$Parser" "fault" "I" ∈ xTB := xw 286 (by decide +kernel) (by decide +kernel)
set_option maxRecDepth 100000 in
theorem wd_287 : Cond.fieldLink "CapitalCase$Parser" 77 "CapitalCase$Parser" "faultAt" "I" ∈ xTB := xw 287 (by decide +kernel) (by decide +kernel)
set_option maxRecDepth 100000 in
theorem wd_288 : Cond.fieldLink "CapitalCase" 117 "CapitalCase$Parser" "faultAt" "I" ∈ xTB := xw 288 (by decide +kernel) (by decide +kernel)
set_option maxRecDepth 100000 in
theorem wd_289 : Cond.fieldLink "CapitalCase$Parser" 47 "CapitalCase$Parser" "laterFault" "I" ∈ xTB := xw 289 (by decide +kernel) (by decide +kernel)
set_option maxRecDepth 100000 in
theorem wd_290 : Cond.fieldLink "CapitalCase$Parser" 74 "CapitalCase$Parser" "laterFaultAt" "I" ∈ xTB := xw 290 (by decide +kernel) (by decide +kernel)
set_option maxRecDepth 100000 in
theorem wd_292 : Cond.fieldLink "CapitalCase$Parser" 50 "CapitalCase$Parser" "nameCount" "I" ∈ xTB := xw 292 (by decide +kernel) (by decide +kernel)
set_option maxRecDepth 100000 in
theorem wd_321 : Cond.fieldLink "CapitalCase$Trade" 21 "CapitalCase$Town" "has" "[I" ∈ xTB := xw 321 (by decide +kernel) (by decide +kernel)
set_option maxRecDepth 100000 in
theorem wd_322 : Cond.fieldLink "CapitalCase$Judge" 69 "CapitalCase$Town" "has" "[I" ∈ xTB := xw 322 (by decide +kernel) (by decide +kernel)
set_option maxRecDepth 100000 in
theorem wd_323 : Cond.fieldLink "CapitalCase$Press" 98 "CapitalCase$Town" "has" "[I" ∈ xTB := xw 323 (by decide +kernel) (by decide +kernel)
set_option maxRecDepth 100000 in
theorem wd_324 : Cond.fieldLink "CapitalCase" 151 "CapitalCase$Town" "has" "[I" ∈ xTB := xw 324 (by decide +kernel) (by decide +kernel)
set_option maxRecDepth 100000 in
theorem wd_326 : Cond.fieldLink "CapitalCase$Trade" 26 "CapitalCase$Town" "used" "[I" ∈ xTB := xw 326 (by decide +kernel) (by decide +kernel)
set_option maxRecDepth 100000 in
theorem wd_327 : Cond.fieldLink "CapitalCase$Press" 64 "CapitalCase$Town" "used" "[I" ∈ xTB := xw 327 (by decide +kernel) (by decide +kernel)
set_option maxRecDepth 100000 in
theorem wd_328 : Cond.fieldLink "CapitalCase" 155 "CapitalCase$Town" "used" "[I" ∈ xTB := xw 328 (by decide +kernel) (by decide +kernel)
set_option maxRecDepth 100000 in
theorem wd_330 : Cond.fieldLink "CapitalCase$Prints" 26 "CapitalCase$Town" "worn" "[I" ∈ xTB := xw 330 (by decide +kernel) (by decide +kernel)
set_option maxRecDepth 100000 in
theorem wd_331 : Cond.fieldLink "CapitalCase$Press" 68 "CapitalCase$Town" "worn" "[I" ∈ xTB := xw 331 (by decide +kernel) (by decide +kernel)
set_option maxRecDepth 100000 in
theorem wd_332 : Cond.fieldLink "CapitalCase$Judge" 66 "CapitalCase$Town" "worn" "[I" ∈ xTB := xw 332 (by decide +kernel) (by decide +kernel)
set_option maxRecDepth 100000 in
theorem wd_333 : Cond.fieldLink "CapitalCase" 161 "CapitalCase$Town" "worn" "[I" ∈ xTB := xw 333 (by decide +kernel) (by decide +kernel)
set_option maxRecDepth 100000 in
theorem wd_335 : Cond.fieldLink "CapitalCase" 246 "CapitalCase$Town" "lent" "[I" ∈ xTB := xw 335 (by decide +kernel) (by decide +kernel)
set_option maxRecDepth 100000 in
theorem wd_337 : Cond.fieldLink "CapitalCase" 263 "CapitalCase$Town" "from" "[I" ∈ xTB := xw 337 (by decide +kernel) (by decide +kernel)
set_option maxRecDepth 100000 in
theorem wd_338 : Cond.fieldLink "CapitalCase$Town" 44 "CapitalCase$Town" "set" "I" ∈ xTB := xw 338 (by decide +kernel) (by decide +kernel)
set_option maxRecDepth 100000 in
theorem wd_339 : Cond.fieldLink "CapitalCase$Press" 38 "CapitalCase$Town" "set" "I" ∈ xTB := xw 339 (by decide +kernel) (by decide +kernel)
set_option maxRecDepth 100000 in
theorem wd_340 : Cond.fieldLink "CapitalCase" 196 "CapitalCase$Town" "set" "I" ∈ xTB := xw 340 (by decide +kernel) (by decide +kernel)
set_option maxRecDepth 100000 in
theorem wd_341 : Cond.fieldLink "CapitalCase$Town" 48 "CapitalCase$Town" "done" "I" ∈ xTB := xw 341 (by decide +kernel) (by decide +kernel)
set_option maxRecDepth 100000 in
theorem wd_342 : Cond.fieldLink "CapitalCase$Press" 41 "CapitalCase$Town" "done" "I" ∈ xTB := xw 342 (by decide +kernel) (by decide +kernel)
set_option maxRecDepth 100000 in
theorem wd_343 : Cond.fieldLink "CapitalCase" 199 "CapitalCase$Town" "done" "I" ∈ xTB := xw 343 (by decide +kernel) (by decide +kernel)
set_option maxRecDepth 100000 in
theorem wd_344 : Cond.fieldLink "CapitalCase$Press" 27 "CapitalCase$Town" "day" "I" ∈ xTB := xw 344 (by decide +kernel) (by decide +kernel)
set_option maxRecDepth 100000 in
theorem wd_345 : Cond.fieldLink "CapitalCase$TwoDays" 60 "CapitalCase$Town" "day" "I" ∈ xTB := xw 345 (by decide +kernel) (by decide +kernel)
set_option maxRecDepth 100000 in
theorem wd_346 : Cond.fieldLink "CapitalCase$Town" 51 "CapitalCase$Town" "day" "I" ∈ xTB := xw 346 (by decide +kernel) (by decide +kernel)
set_option maxRecDepth 100000 in
theorem wd_347 : Cond.fieldLink "CapitalCase$Planner" 58 "CapitalCase$Town" "day" "I" ∈ xTB := xw 347 (by decide +kernel) (by decide +kernel)
set_option maxRecDepth 100000 in
theorem wd_348 : Cond.fieldLink "CapitalCase$Judge" 60 "CapitalCase$Town" "day" "I" ∈ xTB := xw 348 (by decide +kernel) (by decide +kernel)
set_option maxRecDepth 100000 in
theorem wd_349 : Cond.fieldLink "CapitalCase" 190 "CapitalCase$Town" "day" "I" ∈ xTB := xw 349 (by decide +kernel) (by decide +kernel)
set_option maxRecDepth 100000 in
theorem wd_350 : Cond.fieldLink "CapitalCase$Town" 54 "CapitalCase$Town" "paid" "I" ∈ xTB := xw 350 (by decide +kernel) (by decide +kernel)
set_option maxRecDepth 100000 in
theorem wd_351 : Cond.fieldLink "CapitalCase$Press" 50 "CapitalCase$Town" "paid" "I" ∈ xTB := xw 351 (by decide +kernel) (by decide +kernel)
set_option maxRecDepth 100000 in
theorem wd_352 : Cond.fieldLink "CapitalCase" 304 "CapitalCase$Town" "paid" "I" ∈ xTB := xw 352 (by decide +kernel) (by decide +kernel)
set_option maxRecDepth 100000 in
theorem wd_353 : Cond.fieldLink "CapitalCase$Town" 57 "CapitalCase$Town" "gone" "I" ∈ xTB := xw 353 (by decide +kernel) (by decide +kernel)
set_option maxRecDepth 100000 in
theorem wd_354 : Cond.fieldLink "CapitalCase" 326 "CapitalCase$Town" "gone" "I" ∈ xTB := xw 354 (by decide +kernel) (by decide +kernel)
set_option maxRecDepth 100000 in
theorem wd_385 : Cond.fieldLink "CapitalCase$History" 15 "CapitalCase$History" "next" "I" ∈ xTB := xw 385 (by decide +kernel) (by decide +kernel)
set_option maxRecDepth 100000 in
theorem wd_386 : Cond.fieldLink "CapitalCase$History" 24 "CapitalCase$History" "count" "I" ∈ xTB := xw 386 (by decide +kernel) (by decide +kernel)
set_option maxRecDepth 100000 in
theorem wd_387 : Cond.fieldLink "CapitalCase" 130 "CapitalCase$History" "count" "I" ∈ xTB := xw 387 (by decide +kernel) (by decide +kernel)
set_option maxRecDepth 100000 in
theorem wd_404 : Cond.fieldLink "CapitalCase$Prints" 22 "CapitalCase$Prints" "count" "I" ∈ xTB := xw 404 (by decide +kernel) (by decide +kernel)
set_option maxRecDepth 100000 in
theorem wd_405 : Cond.fieldLink "CapitalCase" 133 "CapitalCase$Prints" "count" "I" ∈ xTB := xw 405 (by decide +kernel) (by decide +kernel)
set_option maxRecDepth 100000 in
theorem wd_455 : Cond.fieldLink "CapitalCase$TwoDays" 116 "CapitalCase$Planner" "picks" "[I" ∈ xTB := xw 455 (by decide +kernel) (by decide +kernel)
set_option maxRecDepth 100000 in
theorem wd_456 : Cond.fieldLink "CapitalCase" 224 "CapitalCase$Planner" "picks" "[I" ∈ xTB := xw 456 (by decide +kernel) (by decide +kernel)
set_option maxRecDepth 100000 in
theorem wd_458 : Cond.fieldLink "CapitalCase$TwoDays" 81 "CapitalCase$Planner" "pays" "[I" ∈ xTB := xw 458 (by decide +kernel) (by decide +kernel)
set_option maxRecDepth 100000 in
theorem wd_459 : Cond.fieldLink "CapitalCase$Planner" 84 "CapitalCase$Planner" "clashes" "I" ∈ xTB := xw 459 (by decide +kernel) (by decide +kernel)
set_option maxRecDepth 100000 in
theorem wd_460 : Cond.fieldLink "CapitalCase" 298 "CapitalCase$Planner" "clashes" "I" ∈ xTB := xw 460 (by decide +kernel) (by decide +kernel)
set_option maxRecDepth 100000 in
theorem wd_461 : Cond.fieldLink "CapitalCase$Planner" 42 "CapitalCase$Planner" "most" "I" ∈ xTB := xw 461 (by decide +kernel) (by decide +kernel)
set_option maxRecDepth 100000 in
theorem wd_462 : Cond.fieldLink "CapitalCase$TwoDays" 102 "CapitalCase$Planner" "most" "I" ∈ xTB := xw 462 (by decide +kernel) (by decide +kernel)
set_option maxRecDepth 100000 in
theorem wd_463 : Cond.fieldLink "CapitalCase" 269 "CapitalCase$Planner" "most" "I" ∈ xTB := xw 463 (by decide +kernel) (by decide +kernel)
set_option maxRecDepth 100000 in
theorem wd_464 : Cond.fieldLink "CapitalCase$Planner" 45 "CapitalCase$Planner" "mask" "I" ∈ xTB := xw 464 (by decide +kernel) (by decide +kernel)
set_option maxRecDepth 100000 in
theorem wd_465 : Cond.fieldLink "CapitalCase" 272 "CapitalCase$Planner" "mask" "I" ∈ xTB := xw 465 (by decide +kernel) (by decide +kernel)
set_option maxRecDepth 100000 in
theorem wd_466 : Cond.fieldLink "CapitalCase$Planner" 38 "CapitalCase$Planner" "looked" "I" ∈ xTB := xw 466 (by decide +kernel) (by decide +kernel)
set_option maxRecDepth 100000 in
theorem wd_511 : Cond.fieldLink "CapitalCase$TwoDays" 75 "CapitalCase$TwoDays" "most" "I" ∈ xTB := xw 511 (by decide +kernel) (by decide +kernel)
set_option maxRecDepth 100000 in
theorem wd_512 : Cond.fieldLink "CapitalCase" 281 "CapitalCase$TwoDays" "most" "I" ∈ xTB := xw 512 (by decide +kernel) (by decide +kernel)
set_option maxRecDepth 100000 in
theorem wd_513 : Cond.fieldLink "CapitalCase$TwoDays" 78 "CapitalCase$TwoDays" "mask" "I" ∈ xTB := xw 513 (by decide +kernel) (by decide +kernel)
set_option maxRecDepth 100000 in
theorem wd_514 : Cond.fieldLink "CapitalCase" 282 "CapitalCase$TwoDays" "mask" "I" ∈ xTB := xw 514 (by decide +kernel) (by decide +kernel)
set_option maxRecDepth 100000 in
theorem wd_542 : Cond.fieldLink "CapitalCase$Trade" 41 "CapitalCase$Trade" "bargains" "I" ∈ xTB := xw 542 (by decide +kernel) (by decide +kernel)
set_option maxRecDepth 100000 in
theorem wd_543 : Cond.fieldLink "CapitalCase" 289 "CapitalCase$Trade" "bargains" "I" ∈ xTB := xw 543 (by decide +kernel) (by decide +kernel)
set_option maxRecDepth 100000 in
theorem wd_544 : Cond.fieldLink "CapitalCase$Trade" 44 "CapitalCase$Trade" "first" "I" ∈ xTB := xw 544 (by decide +kernel) (by decide +kernel)
set_option maxRecDepth 100000 in
theorem wd_545 : Cond.fieldLink "CapitalCase" 292 "CapitalCase$Trade" "first" "I" ∈ xTB := xw 545 (by decide +kernel) (by decide +kernel)
set_option maxRecDepth 100000 in
theorem wd_605 : Cond.code ⟨"CapitalCase", "feed", "(IIIII)I"⟩ prog_1_method_2_code 6 (some .int) ∈ xTB := xw 605 (rfl) (by decide +kernel)
set_option maxRecDepth 100000 in
theorem wd_606 : Cond.methodLink "CapitalCase" 109 ⟨"CapitalCase", "append", "(I)V"⟩ ∈ xTB := xw 606 (by decide +kernel) (by decide +kernel)
set_option maxRecDepth 100000 in
theorem wd_608 : Cond.instanceMethod ⟨"CapitalCase", "append", "(I)V"⟩ ∈ xTB := xw 608 (by decide +kernel) (by decide +kernel)
set_option maxRecDepth 100000 in
theorem wd_609 : Cond.code ⟨"CapitalCase", "append", "(I)V"⟩ prog_1_method_3_code 3 none ∈ xTB := xw 609 (rfl) (by decide +kernel)
set_option maxRecDepth 100000 in
theorem wd_613 : Cond.code ⟨"CapitalCase", "back", "(I)I"⟩ prog_1_method_4_code 2 (some .int) ∈ xTB := xw 613 (rfl) (by decide +kernel)
set_option maxRecDepth 100000 in
theorem wd_617 : Cond.code ⟨"CapitalCase", "read", "()I"⟩ prog_1_method_5_code 2 (some .int) ∈ xTB := xw 617 (rfl) (by decide +kernel)
set_option maxRecDepth 100000 in
theorem wd_618 : Cond.methodLink "CapitalCase" 113 ⟨"CapitalCase$Parser", "parse", "(I)I"⟩ ∈ xTB := xw 618 (by decide +kernel) (by decide +kernel)
set_option maxRecDepth 100000 in
theorem wd_619 : Cond.instanceMethod ⟨"CapitalCase$Parser", "parse", "(I)I"⟩ ∈ xTB := xw 619 (by decide +kernel) (by decide +kernel)
set_option maxRecDepth 100000 in
theorem wd_620 : Cond.selects "CapitalCase$Parser" ⟨"CapitalCase$Parser", "parse", "(I)I"⟩ ⟨"CapitalCase$Parser", "parse", "(I)I"⟩ ∈ xTB := xw 620 (by decide +kernel) (by decide +kernel)
set_option maxRecDepth 100000 in
theorem wd_621 : Cond.code ⟨"CapitalCase$Parser", "parse", "(I)I"⟩ prog_4_method_2_code 3 (some .int) ∈ xTB := xw 621 (rfl) (by decide +kernel)
set_option maxRecDepth 100000 in
theorem wd_622 : Cond.methodLink "CapitalCase$Parser" 33 ⟨"CapitalCase$Script", "wipe", "()V"⟩ ∈ xTB := xw 622 (by decide +kernel) (by decide +kernel)
set_option maxRecDepth 100000 in
theorem wd_623 : Cond.methodLink "CapitalCase$Parser" 36 ⟨"CapitalCase$Tokens", "scan", "([BI)V"⟩ ∈ xTB := xw 623 (by decide +kernel) (by decide +kernel)
set_option maxRecDepth 100000 in
theorem wd_624 : Cond.instanceMethod ⟨"CapitalCase$Tokens", "scan", "([BI)V"⟩ ∈ xTB := xw 624 (by decide +kernel) (by decide +kernel)
set_option maxRecDepth 100000 in
theorem wd_625 : Cond.selects "CapitalCase$Tokens" ⟨"CapitalCase$Tokens", "scan", "([BI)V"⟩ ⟨"CapitalCase$Tokens", "scan", "([BI)V"⟩ ∈ xTB := xw 625 (by decide +kernel) (by decide +kernel)
set_option maxRecDepth 100000 in
theorem wd_626 : Cond.code ⟨"CapitalCase$Tokens", "scan", "([BI)V"⟩ prog_9_method_2_code 5 none ∈ xTB := xw 626 (rfl) (by decide +kernel)
set_option maxRecDepth 100000 in
theorem wd_627 : Cond.methodLink "CapitalCase$Tokens" 19 ⟨"CapitalCase$Tokens", "isBlank", "(I)Z"⟩ ∈ xTB := xw 627 (by decide +kernel) (by decide +kernel)
set_option maxRecDepth 100000 in
theorem wd_628 : Cond.static ⟨"CapitalCase$Tokens", "isBlank", "(I)Z"⟩ ∈ xTB := xw 628 (by decide +kernel) (by decide +kernel)
set_option maxRecDepth 100000 in
theorem wd_629 : Cond.code ⟨"CapitalCase$Tokens", "isBlank", "(I)Z"⟩ prog_9_method_3_code 1 (some .boolean) ∈ xTB := xw 629 (rfl) (by decide +kernel)
set_option maxRecDepth 100000 in
theorem wd_630 : Cond.methodLink "CapitalCase$Tokens" 23 ⟨"CapitalCase$Tokens", "sizeAt", "([BII)I"⟩ ∈ xTB := xw 630 (by decide +kernel) (by decide +kernel)
set_option maxRecDepth 100000 in
theorem wd_631 : Cond.static ⟨"CapitalCase$Tokens", "sizeAt", "([BII)I"⟩ ∈ xTB := xw 631 (by decide +kernel) (by decide +kernel)
set_option maxRecDepth 100000 in
theorem wd_632 : Cond.code ⟨"CapitalCase$Tokens", "sizeAt", "([BII)I"⟩ prog_9_method_6_code 5 (some .int) ∈ xTB := xw 632 (rfl) (by decide +kernel)
set_option maxRecDepth 100000 in
theorem wd_633 : Cond.methodLink "CapitalCase$Tokens" 30 ⟨"CapitalCase$Tokens", "isLower", "(I)Z"⟩ ∈ xTB := xw 633 (by decide +kernel) (by decide +kernel)
set_option maxRecDepth 100000 in
theorem wd_634 : Cond.static ⟨"CapitalCase$Tokens", "isLower", "(I)Z"⟩ ∈ xTB := xw 634 (by decide +kernel) (by decide +kernel)
set_option maxRecDepth 100000 in
theorem wd_635 : Cond.code ⟨"CapitalCase$Tokens", "isLower", "(I)Z"⟩ prog_9_method_4_code 1 (some .boolean) ∈ xTB := xw 635 (rfl) (by decide +kernel)
set_option maxRecDepth 100000 in
theorem wd_636 : Cond.methodLink "CapitalCase$Tokens" 33 ⟨"CapitalCase$Tokens", "isDigit", "(I)Z"⟩ ∈ xTB := xw 636 (by decide +kernel) (by decide +kernel)
set_option maxRecDepth 100000 in
theorem wd_637 : Cond.static ⟨"CapitalCase$Tokens", "isDigit", "(I)Z"⟩ ∈ xTB := xw 637 (by decide +kernel) (by decide +kernel)
set_option maxRecDepth 100000 in
theorem wd_638 : Cond.code ⟨"CapitalCase$Tokens", "isDigit", "(I)Z"⟩ prog_9_method_5_code 1 (some .boolean) ∈ xTB := xw 638 (rfl) (by decide +kernel)
set_option maxRecDepth 100000 in
theorem wd_639 : Cond.methodLink "CapitalCase$Tokens" 27 ⟨"CapitalCase$Tokens", "kindOf", "([BII)I"⟩ ∈ xTB := xw 639 (by decide +kernel) (by decide +kernel)
set_option maxRecDepth 100000 in
theorem wd_640 : Cond.static ⟨"CapitalCase$Tokens", "kindOf", "([BII)I"⟩ ∈ xTB := xw 640 (by decide +kernel) (by decide +kernel)
set_option maxRecDepth 100000 in
theorem wd_641 : Cond.code ⟨"CapitalCase$Tokens", "kindOf", "([BII)I"⟩ prog_9_method_7_code 4 (some .int) ∈ xTB := xw 641 (rfl) (by decide +kernel)
set_option maxRecDepth 100000 in
theorem wd_642 : Cond.methodLink "CapitalCase$Tokens" 36 ⟨"CapitalCase$Tokens", "wordOrName", "([BII)I"⟩ ∈ xTB := xw 642 (by decide +kernel) (by decide +kernel)
set_option maxRecDepth 100000 in
theorem wd_643 : Cond.static ⟨"CapitalCase$Tokens", "wordOrName", "([BII)I"⟩ ∈ xTB := xw 643 (by decide +kernel) (by decide +kernel)
set_option maxRecDepth 100000 in
theorem wd_644 : Cond.code ⟨"CapitalCase$Tokens", "wordOrName", "([BII)I"⟩ prog_9_method_8_code 4 (some .int) ∈ xTB := xw 644 (rfl) (by decide +kernel)
set_option maxRecDepth 100000 in
theorem wd_645 : Cond.methodLink "CapitalCase$Tokens" 47 ⟨"CapitalCase$Tokens", "isWord", "(I[BII)Z"⟩ ∈ xTB := xw 645 (by decide +kernel) (by decide +kernel)
set_option maxRecDepth 100000 in
theorem wd_646 : Cond.static ⟨"CapitalCase$Tokens", "isWord", "(I[BII)Z"⟩ ∈ xTB := xw 646 (by decide +kernel) (by decide +kernel)
set_option maxRecDepth 100000 in
theorem wd_647 : Cond.code ⟨"CapitalCase$Tokens", "isWord", "(I[BII)Z"⟩ prog_9_method_9_code 6 (some .boolean) ∈ xTB := xw 647 (rfl) (by decide +kernel)
set_option maxRecDepth 100000 in
theorem wd_713 : Cond.static ⟨"java/lang/Math", "max", "(II)I"⟩ ∈ xTB := xw 713 (by decide +kernel) (by decide +kernel)
set_option maxRecDepth 100000 in
theorem wd_716 : Cond.static ⟨"java/lang/Math", "min", "(II)I"⟩ ∈ xTB := xw 716 (by decide +kernel) (by decide +kernel)
set_option maxRecDepth 100000 in
theorem wd_756 : Cond.methodLink "CapitalCase$Parser" 53 ⟨"CapitalCase$Parser", "next", "()I"⟩ ∈ xTB := xw 756 (by decide +kernel) (by decide +kernel)
set_option maxRecDepth 100000 in
theorem wd_758 : Cond.instanceMethod ⟨"CapitalCase$Parser", "next", "()I"⟩ ∈ xTB := xw 758 (by decide +kernel) (by decide +kernel)
set_option maxRecDepth 100000 in
theorem wd_759 : Cond.code ⟨"CapitalCase$Parser", "next", "()I"⟩ prog_4_method_3_code 1 (some .int) ∈ xTB := xw 759 (rfl) (by decide +kernel)
set_option maxRecDepth 100000 in
theorem wd_760 : Cond.methodLink "CapitalCase$Parser" 57 ⟨"CapitalCase$Parser", "parseHouse", "()V"⟩ ∈ xTB := xw 760 (by decide +kernel) (by decide +kernel)
set_option maxRecDepth 100000 in
theorem wd_762 : Cond.instanceMethod ⟨"CapitalCase$Parser", "parseHouse", "()V"⟩ ∈ xTB := xw 762 (by decide +kernel) (by decide +kernel)
set_option maxRecDepth 100000 in
theorem wd_763 : Cond.code ⟨"CapitalCase$Parser", "parseHouse", "()V"⟩ prog_4_method_7_code 4 none ∈ xTB := xw 763 (rfl) (by decide +kernel)
set_option maxRecDepth 100000 in
theorem wd_764 : Cond.methodLink "CapitalCase$Parser" 70 ⟨"CapitalCase$Parser", "fail", "(I)Z"⟩ ∈ xTB := xw 764 (by decide +kernel) (by decide +kernel)
set_option maxRecDepth 100000 in
theorem wd_766 : Cond.instanceMethod ⟨"CapitalCase$Parser", "fail", "(I)Z"⟩ ∈ xTB := xw 766 (by decide +kernel) (by decide +kernel)
set_option maxRecDepth 100000 in
theorem wd_767 : Cond.code ⟨"CapitalCase$Parser", "fail", "(I)Z"⟩ prog_4_method_4_code 2 (some .boolean) ∈ xTB := xw 767 (rfl) (by decide +kernel)
set_option maxRecDepth 100000 in
theorem wd_768 : Cond.methodLink "CapitalCase$Parser" 89 ⟨"CapitalCase$Parser", "accept", "(I)Z"⟩ ∈ xTB := xw 768 (by decide +kernel) (by decide +kernel)
set_option maxRecDepth 100000 in
theorem wd_770 : Cond.instanceMethod ⟨"CapitalCase$Parser", "accept", "(I)Z"⟩ ∈ xTB := xw 770 (by decide +kernel) (by decide +kernel)
set_option maxRecDepth 100000 in
theorem wd_771 : Cond.code ⟨"CapitalCase$Parser", "accept", "(I)Z"⟩ prog_4_method_5_code 2 (some .boolean) ∈ xTB := xw 771 (rfl) (by decide +kernel)
set_option maxRecDepth 100000 in
theorem wd_772 : Cond.methodLink "CapitalCase$Parser" 92 ⟨"CapitalCase$Parser", "noteName", "(I)V"⟩ ∈ xTB := xw 772 (by decide +kernel) (by decide +kernel)
set_option maxRecDepth 100000 in
theorem wd_774 : Cond.instanceMethod ⟨"CapitalCase$Parser", "noteName", "(I)V"⟩ ∈ xTB := xw 774 (by decide +kernel) (by decide +kernel)
set_option maxRecDepth 100000 in
theorem wd_775 : Cond.code ⟨"CapitalCase$Parser", "noteName", "(I)V"⟩ prog_4_method_10_code 3 none ∈ xTB := xw 775 (rfl) (by decide +kernel)
set_option maxRecDepth 100000 in
theorem wd_776 : Cond.methodLink "CapitalCase$Parser" 143 ⟨"CapitalCase$Parser", "isSame", "(II)Z"⟩ ∈ xTB := xw 776 (by decide +kernel) (by decide +kernel)
set_option maxRecDepth 100000 in
theorem wd_778 : Cond.instanceMethod ⟨"CapitalCase$Parser", "isSame", "(II)Z"⟩ ∈ xTB := xw 778 (by decide +kernel) (by decide +kernel)
set_option maxRecDepth 100000 in
theorem wd_779 : Cond.code ⟨"CapitalCase$Parser", "isSame", "(II)Z"⟩ prog_4_method_11_code 4 (some .boolean) ∈ xTB := xw 779 (rfl) (by decide +kernel)
set_option maxRecDepth 100000 in
theorem wd_780 : Cond.methodLink "CapitalCase$Parser" 98 ⟨"CapitalCase$Parser", "noteLater", "(ZII)V"⟩ ∈ xTB := xw 780 (by decide +kernel) (by decide +kernel)
set_option maxRecDepth 100000 in
theorem wd_782 : Cond.instanceMethod ⟨"CapitalCase$Parser", "noteLater", "(ZII)V"⟩ ∈ xTB := xw 782 (by decide +kernel) (by decide +kernel)
set_option maxRecDepth 100000 in
theorem wd_783 : Cond.code ⟨"CapitalCase$Parser", "noteLater", "(ZII)V"⟩ prog_4_method_6_code 4 none ∈ xTB := xw 783 (rfl) (by decide +kernel)
set_option maxRecDepth 100000 in
theorem wd_784 : Cond.methodLink "CapitalCase$Parser" 95 ⟨"CapitalCase$Parser", "areLetters", "(I)Z"⟩ ∈ xTB := xw 784 (by decide +kernel) (by decide +kernel)
set_option maxRecDepth 100000 in
theorem wd_786 : Cond.instanceMethod ⟨"CapitalCase$Parser", "areLetters", "(I)Z"⟩ ∈ xTB := xw 786 (by decide +kernel) (by decide +kernel)
set_option maxRecDepth 100000 in
theorem wd_787 : Cond.code ⟨"CapitalCase$Parser", "areLetters", "(I)Z"⟩ prog_4_method_12_code 3 (some .boolean) ∈ xTB := xw 787 (rfl) (by decide +kernel)
set_option maxRecDepth 100000 in
theorem wd_788 : Cond.methodLink "CapitalCase$Parser" 105 ⟨"CapitalCase$Parser", "letterOf", "(II)I"⟩ ∈ xTB := xw 788 (by decide +kernel) (by decide +kernel)
set_option maxRecDepth 100000 in
theorem wd_790 : Cond.instanceMethod ⟨"CapitalCase$Parser", "letterOf", "(II)I"⟩ ∈ xTB := xw 790 (by decide +kernel) (by decide +kernel)
set_option maxRecDepth 100000 in
theorem wd_791 : Cond.code ⟨"CapitalCase$Parser", "letterOf", "(II)I"⟩ prog_4_method_13_code 3 (some .int) ∈ xTB := xw 791 (rfl) (by decide +kernel)
set_option maxRecDepth 100000 in
theorem wd_792 : Cond.methodLink "CapitalCase$Parser" 60 ⟨"CapitalCase$Parser", "parseVerse", "()V"⟩ ∈ xTB := xw 792 (by decide +kernel) (by decide +kernel)
set_option maxRecDepth 100000 in
theorem wd_794 : Cond.instanceMethod ⟨"CapitalCase$Parser", "parseVerse", "()V"⟩ ∈ xTB := xw 794 (by decide +kernel) (by decide +kernel)
set_option maxRecDepth 100000 in
theorem wd_795 : Cond.code ⟨"CapitalCase$Parser", "parseVerse", "()V"⟩ prog_4_method_8_code 5 none ∈ xTB := xw 795 (rfl) (by decide +kernel)
set_option maxRecDepth 100000 in
theorem wd_796 : Cond.methodLink "CapitalCase$Parser" 118 ⟨"CapitalCase$Parser", "intOf", "(III)I"⟩ ∈ xTB := xw 796 (by decide +kernel) (by decide +kernel)
set_option maxRecDepth 100000 in
theorem wd_798 : Cond.instanceMethod ⟨"CapitalCase$Parser", "intOf", "(III)I"⟩ ∈ xTB := xw 798 (by decide +kernel) (by decide +kernel)
set_option maxRecDepth 100000 in
theorem wd_799 : Cond.code ⟨"CapitalCase$Parser", "intOf", "(III)I"⟩ prog_4_method_14_code 6 (some .int) ∈ xTB := xw 799 (rfl) (by decide +kernel)
set_option maxRecDepth 100000 in
theorem wd_800 : Cond.methodLink "CapitalCase$Parser" 63 ⟨"CapitalCase$Parser", "parseLaw", "(I)V"⟩ ∈ xTB := xw 800 (by decide +kernel) (by decide +kernel)
set_option maxRecDepth 100000 in
theorem wd_802 : Cond.instanceMethod ⟨"CapitalCase$Parser", "parseLaw", "(I)V"⟩ ∈ xTB := xw 802 (by decide +kernel) (by decide +kernel)
set_option maxRecDepth 100000 in
theorem wd_803 : Cond.code ⟨"CapitalCase$Parser", "parseLaw", "(I)V"⟩ prog_4_method_15_code 5 none ∈ xTB := xw 803 (rfl) (by decide +kernel)
set_option maxRecDepth 100000 in
theorem wd_804 : Cond.methodLink "CapitalCase$Parser" 150 ⟨"CapitalCase$Parser", "parseSum", "(I)Z"⟩ ∈ xTB := xw 804 (by decide +kernel) (by decide +kernel)
set_option maxRecDepth 100000 in
theorem wd_806 : Cond.instanceMethod ⟨"CapitalCase$Parser", "parseSum", "(I)Z"⟩ ∈ xTB := xw 806 (by decide +kernel) (by decide +kernel)
set_option maxRecDepth 100000 in
theorem wd_807 : Cond.code ⟨"CapitalCase$Parser", "parseSum", "(I)Z"⟩ prog_4_method_16_code 4 (some .boolean) ∈ xTB := xw 807 (rfl) (by decide +kernel)
set_option maxRecDepth 100000 in
theorem wd_808 : Cond.methodLink "CapitalCase$Parser" 163 ⟨"CapitalCase$Parser", "parsePart", "(I)Z"⟩ ∈ xTB := xw 808 (by decide +kernel) (by decide +kernel)
set_option maxRecDepth 100000 in
theorem wd_810 : Cond.instanceMethod ⟨"CapitalCase$Parser", "parsePart", "(I)Z"⟩ ∈ xTB := xw 810 (by decide +kernel) (by decide +kernel)
set_option maxRecDepth 100000 in
theorem wd_811 : Cond.code ⟨"CapitalCase$Parser", "parsePart", "(I)Z"⟩ prog_4_method_17_code 4 (some .boolean) ∈ xTB := xw 811 (rfl) (by decide +kernel)
set_option maxRecDepth 100000 in
theorem wd_812 : Cond.methodLink "CapitalCase$Parser" 166 ⟨"CapitalCase$Parser", "parseUnit", "(I)Z"⟩ ∈ xTB := xw 812 (by decide +kernel) (by decide +kernel)
set_option maxRecDepth 100000 in
theorem wd_814 : Cond.instanceMethod ⟨"CapitalCase$Parser", "parseUnit", "(I)Z"⟩ ∈ xTB := xw 814 (by decide +kernel) (by decide +kernel)
set_option maxRecDepth 100000 in
theorem wd_815 : Cond.code ⟨"CapitalCase$Parser", "parseUnit", "(I)Z"⟩ prog_4_method_18_code 3 (some .boolean) ∈ xTB := xw 815 (rfl) (by decide +kernel)
set_option maxRecDepth 100000 in
theorem wd_816 : Cond.methodLink "CapitalCase$Parser" 153 ⟨"CapitalCase$Script", "add", "(II)V"⟩ ∈ xTB := xw 816 (by decide +kernel) (by decide +kernel)
set_option maxRecDepth 100000 in
theorem wd_817 : Cond.methodLink "CapitalCase$Parser" 157 ⟨"CapitalCase$Script", "leadOn", "(I)V"⟩ ∈ xTB := xw 817 (by decide +kernel) (by decide +kernel)
set_option maxRecDepth 100000 in
theorem wd_818 : Cond.instanceMethod ⟨"CapitalCase$Script", "leadOn", "(I)V"⟩ ∈ xTB := xw 818 (by decide +kernel) (by decide +kernel)
set_option maxRecDepth 100000 in
theorem wd_819 : Cond.selects "CapitalCase$Script" ⟨"CapitalCase$Script", "leadOn", "(I)V"⟩ ⟨"CapitalCase$Script", "leadOn", "(I)V"⟩ ∈ xTB := xw 819 (by decide +kernel) (by decide +kernel)
set_option maxRecDepth 100000 in
theorem wd_820 : Cond.code ⟨"CapitalCase$Script", "leadOn", "(I)V"⟩ prog_8_method_5_code 2 none ∈ xTB := xw 820 (rfl) (by decide +kernel)
set_option maxRecDepth 100000 in
theorem wd_821 : Cond.methodLink "CapitalCase$Parser" 67 ⟨"CapitalCase$Parser", "parseNumber", "(I)V"⟩ ∈ xTB := xw 821 (by decide +kernel) (by decide +kernel)
set_option maxRecDepth 100000 in
theorem wd_823 : Cond.instanceMethod ⟨"CapitalCase$Parser", "parseNumber", "(I)V"⟩ ∈ xTB := xw 823 (by decide +kernel) (by decide +kernel)
set_option maxRecDepth 100000 in
theorem wd_824 : Cond.code ⟨"CapitalCase$Parser", "parseNumber", "(I)V"⟩ prog_4_method_9_code 3 none ∈ xTB := xw 824 (rfl) (by decide +kernel)
set_option maxRecDepth 100000 in
theorem wd_825 : Cond.methodLink "CapitalCase" 121 ⟨"CapitalCase$Script", "become", "(LCapitalCase$Script;)V"⟩ ∈ xTB := xw 825 (by decide +kernel) (by decide +kernel)
set_option maxRecDepth 100000 in
theorem wd_826 : Cond.instanceMethod ⟨"CapitalCase$Script", "become", "(LCapitalCase$Script;)V"⟩ ∈ xTB := xw 826 (by decide +kernel) (by decide +kernel)
set_option maxRecDepth 100000 in
theorem wd_827 : Cond.selects "CapitalCase$Script" ⟨"CapitalCase$Script", "become", "(LCapitalCase$Script;)V"⟩ ⟨"CapitalCase$Script", "become", "(LCapitalCase$Script;)V"⟩ ∈ xTB := xw 827 (by decide +kernel) (by decide +kernel)
set_option maxRecDepth 100000 in
theorem wd_828 : Cond.code ⟨"CapitalCase$Script", "become", "(LCapitalCase$Script;)V"⟩ prog_8_method_6_code 2 none ∈ xTB := xw 828 (rfl) (by decide +kernel)
set_option maxRecDepth 100000 in
theorem wd_829 : Cond.methodLink "CapitalCase$Script" 79 ⟨"java/lang/System", "arraycopy", "(Ljava/lang/Object;ILjava/lang/Object;II)V"⟩ ∈ xTB := xw 829 (by decide +kernel) (by decide +kernel)
set_option maxRecDepth 100000 in
theorem wd_830 : Cond.static ⟨"java/lang/System", "arraycopy", "(Ljava/lang/Object;ILjava/lang/Object;II)V"⟩ ∈ xTB := xw 830 (by decide +kernel) (by decide +kernel)
set_option maxRecDepth 100000 in
theorem wd_831 : Cond.native ⟨"java/lang/System", "arraycopy", "(Ljava/lang/Object;ILjava/lang/Object;II)V"⟩ ∈ xTB := xw 831 (by decide +kernel) (by decide +kernel)
set_option maxRecDepth 100000 in
theorem wd_832 : Cond.methodLink "CapitalCase" 124 ⟨"CapitalCase", "beginAnew", "()V"⟩ ∈ xTB := xw 832 (by decide +kernel) (by decide +kernel)
set_option maxRecDepth 100000 in
theorem wd_834 : Cond.instanceMethod ⟨"CapitalCase", "beginAnew", "()V"⟩ ∈ xTB := xw 834 (by decide +kernel) (by decide +kernel)
set_option maxRecDepth 100000 in
theorem wd_835 : Cond.code ⟨"CapitalCase", "beginAnew", "()V"⟩ prog_1_method_6_code 2 none ∈ xTB := xw 835 (rfl) (by decide +kernel)
set_option maxRecDepth 100000 in
theorem wd_836 : Cond.methodLink "CapitalCase" 127 ⟨"CapitalCase$Town", "begin", "(LCapitalCase$Script;)V"⟩ ∈ xTB := xw 836 (by decide +kernel) (by decide +kernel)
set_option maxRecDepth 100000 in
theorem wd_837 : Cond.instanceMethod ⟨"CapitalCase$Town", "begin", "(LCapitalCase$Script;)V"⟩ ∈ xTB := xw 837 (by decide +kernel) (by decide +kernel)
set_option maxRecDepth 100000 in
theorem wd_838 : Cond.selects "CapitalCase$Town" ⟨"CapitalCase$Town", "begin", "(LCapitalCase$Script;)V"⟩ ⟨"CapitalCase$Town", "begin", "(LCapitalCase$Script;)V"⟩ ∈ xTB := xw 838 (by decide +kernel) (by decide +kernel)
set_option maxRecDepth 100000 in
theorem wd_839 : Cond.code ⟨"CapitalCase$Town", "begin", "(LCapitalCase$Script;)V"⟩ prog_10_method_2_code 2 none ∈ xTB := xw 839 (rfl) (by decide +kernel)
set_option maxRecDepth 100000 in
theorem wd_840 : Cond.methodLink "CapitalCase$Town" 32 ⟨"java/lang/System", "arraycopy", "(Ljava/lang/Object;ILjava/lang/Object;II)V"⟩ ∈ xTB := xw 840 (by decide +kernel) (by decide +kernel)
set_option maxRecDepth 100000 in
theorem wd_841 : Cond.methodLink "CapitalCase$Town" 38 ⟨"java/util/Arrays", "fill", "([II)V"⟩ ∈ xTB := xw 841 (by decide +kernel) (by decide +kernel)
set_option maxRecDepth 100000 in
theorem wd_845 : Cond.code ⟨"CapitalCase", "place", "()I"⟩ prog_1_method_7_code 1 (some .int) ∈ xTB := xw 845 (rfl) (by decide +kernel)
set_option maxRecDepth 100000 in
theorem wd_849 : Cond.code ⟨"CapitalCase", "house", "(III)I"⟩ prog_1_method_12_code 5 (some .int) ∈ xTB := xw 849 (rfl) (by decide +kernel)
set_option maxRecDepth 100000 in
theorem wd_850 : Cond.methodLink "CapitalCase" 147 ⟨"CapitalCase", "isCell", "(II)Z"⟩ ∈ xTB := xw 850 (by decide +kernel) (by decide +kernel)
set_option maxRecDepth 100000 in
theorem wd_852 : Cond.instanceMethod ⟨"CapitalCase", "isCell", "(II)Z"⟩ ∈ xTB := xw 852 (by decide +kernel) (by decide +kernel)
set_option maxRecDepth 100000 in
theorem wd_853 : Cond.code ⟨"CapitalCase", "isCell", "(II)Z"⟩ prog_1_method_9_code 3 (some .boolean) ∈ xTB := xw 853 (rfl) (by decide +kernel)
set_option maxRecDepth 100000 in
theorem wd_854 : Cond.methodLink "CapitalCase" 137 ⟨"CapitalCase", "isHouse", "(I)Z"⟩ ∈ xTB := xw 854 (by decide +kernel) (by decide +kernel)
set_option maxRecDepth 100000 in
theorem wd_856 : Cond.instanceMethod ⟨"CapitalCase", "isHouse", "(I)Z"⟩ ∈ xTB := xw 856 (by decide +kernel) (by decide +kernel)
set_option maxRecDepth 100000 in
theorem wd_857 : Cond.code ⟨"CapitalCase", "isHouse", "(I)Z"⟩ prog_1_method_8_code 2 (some .boolean) ∈ xTB := xw 857 (rfl) (by decide +kernel)
set_option maxRecDepth 100000 in
theorem wd_858 : Cond.methodLink "CapitalCase" 158 ⟨"CapitalCase$Town", "free", "(I)I"⟩ ∈ xTB := xw 858 (by decide +kernel) (by decide +kernel)
set_option maxRecDepth 100000 in
theorem wd_859 : Cond.instanceMethod ⟨"CapitalCase$Town", "free", "(I)I"⟩ ∈ xTB := xw 859 (by decide +kernel) (by decide +kernel)
set_option maxRecDepth 100000 in
theorem wd_860 : Cond.selects "CapitalCase$Town" ⟨"CapitalCase$Town", "free", "(I)I"⟩ ⟨"CapitalCase$Town", "free", "(I)I"⟩ ∈ xTB := xw 860 (by decide +kernel) (by decide +kernel)
set_option maxRecDepth 100000 in
theorem wd_861 : Cond.code ⟨"CapitalCase$Town", "free", "(I)I"⟩ prog_10_method_4_code 2 (some .int) ∈ xTB := xw 861 (rfl) (by decide +kernel)
set_option maxRecDepth 100000 in
theorem wd_862 : Cond.methodLink "CapitalCase$Town" 60 ⟨"java/lang/Math", "max", "(II)I"⟩ ∈ xTB := xw 862 (by decide +kernel) (by decide +kernel)
set_option maxRecDepth 100000 in
theorem wd_863 : Cond.methodLink "CapitalCase" 164 ⟨"CapitalCase$Town", "lentBy", "(II)I"⟩ ∈ xTB := xw 863 (by decide +kernel) (by decide +kernel)
set_option maxRecDepth 100000 in
theorem wd_864 : Cond.instanceMethod ⟨"CapitalCase$Town", "lentBy", "(II)I"⟩ ∈ xTB := xw 864 (by decide +kernel) (by decide +kernel)
set_option maxRecDepth 100000 in
theorem wd_865 : Cond.selects "CapitalCase$Town" ⟨"CapitalCase$Town", "lentBy", "(II)I"⟩ ⟨"CapitalCase$Town", "lentBy", "(II)I"⟩ ∈ xTB := xw 865 (by decide +kernel) (by decide +kernel)
set_option maxRecDepth 100000 in
theorem wd_866 : Cond.code ⟨"CapitalCase$Town", "lentBy", "(II)I"⟩ prog_10_method_5_code 5 (some .int) ∈ xTB := xw 866 (rfl) (by decide +kernel)
set_option maxRecDepth 100000 in
theorem wd_867 : Cond.methodLink "CapitalCase" 168 ⟨"CapitalCase$Town", "lentTo", "(II)I"⟩ ∈ xTB := xw 867 (by decide +kernel) (by decide +kernel)
set_option maxRecDepth 100000 in
theorem wd_868 : Cond.instanceMethod ⟨"CapitalCase$Town", "lentTo", "(II)I"⟩ ∈ xTB := xw 868 (by decide +kernel) (by decide +kernel)
set_option maxRecDepth 100000 in
theorem wd_869 : Cond.selects "CapitalCase$Town" ⟨"CapitalCase$Town", "lentTo", "(II)I"⟩ ⟨"CapitalCase$Town", "lentTo", "(II)I"⟩ ∈ xTB := xw 869 (by decide +kernel) (by decide +kernel)
set_option maxRecDepth 100000 in
theorem wd_870 : Cond.code ⟨"CapitalCase$Town", "lentTo", "(II)I"⟩ prog_10_method_6_code 5 (some .int) ∈ xTB := xw 870 (rfl) (by decide +kernel)
set_option maxRecDepth 100000 in
theorem wd_871 : Cond.methodLink "CapitalCase" 171 ⟨"CapitalCase$Judge", "wears", "(LCapitalCase$Town;II)I"⟩ ∈ xTB := xw 871 (by decide +kernel) (by decide +kernel)
set_option maxRecDepth 100000 in
theorem wd_872 : Cond.instanceMethod ⟨"CapitalCase$Judge", "wears", "(LCapitalCase$Town;II)I"⟩ ∈ xTB := xw 872 (by decide +kernel) (by decide +kernel)
set_option maxRecDepth 100000 in
theorem wd_873 : Cond.selects "CapitalCase$Judge" ⟨"CapitalCase$Judge", "wears", "(LCapitalCase$Town;II)I"⟩ ⟨"CapitalCase$Judge", "wears", "(LCapitalCase$Town;II)I"⟩ ∈ xTB := xw 873 (by decide +kernel) (by decide +kernel)
set_option maxRecDepth 100000 in
theorem wd_874 : Cond.code ⟨"CapitalCase$Judge", "wears", "(LCapitalCase$Town;II)I"⟩ prog_3_method_4_code 4 (some .int) ∈ xTB := xw 874 (rfl) (by decide +kernel)
set_option maxRecDepth 100000 in
theorem wd_875 : Cond.methodLink "CapitalCase$Judge" 36 ⟨"java/util/Arrays", "fill", "([II)V"⟩ ∈ xTB := xw 875 (by decide +kernel) (by decide +kernel)
set_option maxRecDepth 100000 in
theorem wd_876 : Cond.methodLink "CapitalCase$Judge" 26 ⟨"CapitalCase$Judge", "lookAtHouse", "(LCapitalCase$Town;II)V"⟩ ∈ xTB := xw 876 (by decide +kernel) (by decide +kernel)
set_option maxRecDepth 100000 in
theorem wd_878 : Cond.instanceMethod ⟨"CapitalCase$Judge", "lookAtHouse", "(LCapitalCase$Town;II)V"⟩ ∈ xTB := xw 878 (by decide +kernel) (by decide +kernel)
set_option maxRecDepth 100000 in
theorem wd_879 : Cond.code ⟨"CapitalCase$Judge", "lookAtHouse", "(LCapitalCase$Town;II)V"⟩ prog_3_method_7_code 5 none ∈ xTB := xw 879 (rfl) (by decide +kernel)
set_option maxRecDepth 100000 in
theorem wd_880 : Cond.methodLink "CapitalCase$Judge" 72 ⟨"CapitalCase$Town", "lentBy", "(II)I"⟩ ∈ xTB := xw 880 (by decide +kernel) (by decide +kernel)
set_option maxRecDepth 100000 in
theorem wd_881 : Cond.methodLink "CapitalCase$Judge" 32 ⟨"CapitalCase$Judge", "judge", "(I)I"⟩ ∈ xTB := xw 881 (by decide +kernel) (by decide +kernel)
set_option maxRecDepth 100000 in
theorem wd_883 : Cond.instanceMethod ⟨"CapitalCase$Judge", "judge", "(I)I"⟩ ∈ xTB := xw 883 (by decide +kernel) (by decide +kernel)
set_option maxRecDepth 100000 in
theorem wd_884 : Cond.code ⟨"CapitalCase$Judge", "judge", "(I)I"⟩ prog_3_method_8_code 6 (some .int) ∈ xTB := xw 884 (rfl) (by decide +kernel)
set_option maxRecDepth 100000 in
theorem wd_885 : Cond.methodLink "CapitalCase$Judge" 48 ⟨"java/lang/Math", "max", "(II)I"⟩ ∈ xTB := xw 885 (by decide +kernel) (by decide +kernel)
set_option maxRecDepth 100000 in
theorem wd_886 : Cond.methodLink "CapitalCase$Judge" 87 ⟨"CapitalCase$Judge", "reckon", "(III)I"⟩ ∈ xTB := xw 886 (by decide +kernel) (by decide +kernel)
set_option maxRecDepth 100000 in
theorem wd_887 : Cond.static ⟨"CapitalCase$Judge", "reckon", "(III)I"⟩ ∈ xTB := xw 887 (by decide +kernel) (by decide +kernel)
set_option maxRecDepth 100000 in
theorem wd_888 : Cond.code ⟨"CapitalCase$Judge", "reckon", "(III)I"⟩ prog_3_method_9_code 3 (some .int) ∈ xTB := xw 888 (rfl) (by decide +kernel)
set_option maxRecDepth 100000 in
theorem wd_889 : Cond.methodLink "CapitalCase$Judge" 42 ⟨"java/lang/Math", "min", "(II)I"⟩ ∈ xTB := xw 889 (by decide +kernel) (by decide +kernel)
set_option maxRecDepth 100000 in
theorem wd_893 : Cond.code ⟨"CapitalCase", "verse", "(II)I"⟩ prog_1_method_13_code 3 (some .int) ∈ xTB := xw 893 (rfl) (by decide +kernel)
set_option maxRecDepth 100000 in
theorem wd_894 : Cond.methodLink "CapitalCase" 175 ⟨"CapitalCase", "isVerse", "(I)Z"⟩ ∈ xTB := xw 894 (by decide +kernel) (by decide +kernel)
set_option maxRecDepth 100000 in
theorem wd_896 : Cond.instanceMethod ⟨"CapitalCase", "isVerse", "(I)Z"⟩ ∈ xTB := xw 896 (by decide +kernel) (by decide +kernel)
set_option maxRecDepth 100000 in
theorem wd_897 : Cond.code ⟨"CapitalCase", "isVerse", "(I)Z"⟩ prog_1_method_10_code 2 (some .boolean) ∈ xTB := xw 897 (rfl) (by decide +kernel)
set_option maxRecDepth 100000 in
theorem wd_898 : Cond.methodLink "CapitalCase" 187 ⟨"CapitalCase", "standOf", "(I)I"⟩ ∈ xTB := xw 898 (by decide +kernel) (by decide +kernel)
set_option maxRecDepth 100000 in
theorem wd_900 : Cond.instanceMethod ⟨"CapitalCase", "standOf", "(I)I"⟩ ∈ xTB := xw 900 (by decide +kernel) (by decide +kernel)
set_option maxRecDepth 100000 in
theorem wd_901 : Cond.code ⟨"CapitalCase", "standOf", "(I)I"⟩ prog_1_method_14_code 4 (some .int) ∈ xTB := xw 901 (rfl) (by decide +kernel)
set_option maxRecDepth 100000 in
theorem wd_902 : Cond.methodLink "CapitalCase" 193 ⟨"CapitalCase$Judge", "pays", "(II)I"⟩ ∈ xTB := xw 902 (by decide +kernel) (by decide +kernel)
set_option maxRecDepth 100000 in
theorem wd_903 : Cond.instanceMethod ⟨"CapitalCase$Judge", "pays", "(II)I"⟩ ∈ xTB := xw 903 (by decide +kernel) (by decide +kernel)
set_option maxRecDepth 100000 in
theorem wd_904 : Cond.selects "CapitalCase$Judge" ⟨"CapitalCase$Judge", "pays", "(II)I"⟩ ⟨"CapitalCase$Judge", "pays", "(II)I"⟩ ∈ xTB := xw 904 (by decide +kernel) (by decide +kernel)
set_option maxRecDepth 100000 in
theorem wd_905 : Cond.code ⟨"CapitalCase$Judge", "pays", "(II)I"⟩ prog_3_method_5_code 3 (some .int) ∈ xTB := xw 905 (rfl) (by decide +kernel)
set_option maxRecDepth 100000 in
theorem wd_906 : Cond.methodLink "CapitalCase$Judge" 22 ⟨"CapitalCase$Judge", "lookAtVerse", "(I)V"⟩ ∈ xTB := xw 906 (by decide +kernel) (by decide +kernel)
set_option maxRecDepth 100000 in
theorem wd_908 : Cond.instanceMethod ⟨"CapitalCase$Judge", "lookAtVerse", "(I)V"⟩ ∈ xTB := xw 908 (by decide +kernel) (by decide +kernel)
set_option maxRecDepth 100000 in
theorem wd_909 : Cond.code ⟨"CapitalCase$Judge", "lookAtVerse", "(I)V"⟩ prog_3_method_6_code 2 none ∈ xTB := xw 909 (rfl) (by decide +kernel)
set_option maxRecDepth 100000 in
theorem wd_911 : Cond.instanceMethod ⟨"CapitalCase", "wants", "(II)I"⟩ ∈ xTB := xw 911 (by decide +kernel) (by decide +kernel)
set_option maxRecDepth 100000 in
theorem wd_912 : Cond.selects "CapitalCase" ⟨"CapitalCase", "wants", "(II)I"⟩ ⟨"CapitalCase", "wants", "(II)I"⟩ ∈ xTB := xw 912 (by decide +kernel) (by decide +kernel)
set_option maxRecDepth 100000 in
theorem wd_913 : Cond.code ⟨"CapitalCase", "wants", "(II)I"⟩ prog_1_method_15_code 3 (some .int) ∈ xTB := xw 913 (rfl) (by decide +kernel)
set_option maxRecDepth 100000 in
theorem wd_917 : Cond.code ⟨"CapitalCase", "tells", "(IIII)I"⟩ prog_1_method_16_code 5 (some .int) ∈ xTB := xw 917 (rfl) (by decide +kernel)
set_option maxRecDepth 100000 in
theorem wd_918 : Cond.constant "CapitalCase" 205 (-1000000000) ∈ xTB := xw 918 (by decide +kernel) (by decide +kernel)
set_option maxRecDepth 100000 in
theorem wd_919 : Cond.methodLink "CapitalCase" 206 ⟨"CapitalCase$Judge", "givesLeave", "(LCapitalCase$Town;III)Z"⟩ ∈ xTB := xw 919 (by decide +kernel) (by decide +kernel)
set_option maxRecDepth 100000 in
theorem wd_920 : Cond.instanceMethod ⟨"CapitalCase$Judge", "givesLeave", "(LCapitalCase$Town;III)Z"⟩ ∈ xTB := xw 920 (by decide +kernel) (by decide +kernel)
set_option maxRecDepth 100000 in
theorem wd_921 : Cond.selects "CapitalCase$Judge" ⟨"CapitalCase$Judge", "givesLeave", "(LCapitalCase$Town;III)Z"⟩ ⟨"CapitalCase$Judge", "givesLeave", "(LCapitalCase$Town;III)Z"⟩ ∈ xTB := xw 921 (by decide +kernel) (by decide +kernel)
set_option maxRecDepth 100000 in
theorem wd_922 : Cond.code ⟨"CapitalCase$Judge", "givesLeave", "(LCapitalCase$Town;III)Z"⟩ prog_3_method_2_code 5 (some .boolean) ∈ xTB := xw 922 (rfl) (by decide +kernel)
set_option maxRecDepth 100000 in
theorem wd_923 : Cond.methodLink "CapitalCase" 210 ⟨"CapitalCase$Judge", "rank", "(LCapitalCase$Town;III)I"⟩ ∈ xTB := xw 923 (by decide +kernel) (by decide +kernel)
set_option maxRecDepth 100000 in
theorem wd_924 : Cond.instanceMethod ⟨"CapitalCase$Judge", "rank", "(LCapitalCase$Town;III)I"⟩ ∈ xTB := xw 924 (by decide +kernel) (by decide +kernel)
set_option maxRecDepth 100000 in
theorem wd_925 : Cond.selects "CapitalCase$Judge" ⟨"CapitalCase$Judge", "rank", "(LCapitalCase$Town;III)I"⟩ ⟨"CapitalCase$Judge", "rank", "(LCapitalCase$Town;III)I"⟩ ∈ xTB := xw 925 (by decide +kernel) (by decide +kernel)
set_option maxRecDepth 100000 in
theorem wd_926 : Cond.code ⟨"CapitalCase$Judge", "rank", "(LCapitalCase$Town;III)I"⟩ prog_3_method_3_code 5 (some .int) ∈ xTB := xw 926 (rfl) (by decide +kernel)
set_option maxRecDepth 100000 in
theorem wd_930 : Cond.code ⟨"CapitalCase", "set", "(I)Z"⟩ prog_1_method_17_code 2 (some .boolean) ∈ xTB := xw 930 (rfl) (by decide +kernel)
set_option maxRecDepth 100000 in
theorem wd_931 : Cond.methodLink "CapitalCase" 214 ⟨"CapitalCase", "isOpen", "(I)Z"⟩ ∈ xTB := xw 931 (by decide +kernel) (by decide +kernel)
set_option maxRecDepth 100000 in
theorem wd_933 : Cond.instanceMethod ⟨"CapitalCase", "isOpen", "(I)Z"⟩ ∈ xTB := xw 933 (by decide +kernel) (by decide +kernel)
set_option maxRecDepth 100000 in
theorem wd_934 : Cond.code ⟨"CapitalCase", "isOpen", "(I)Z"⟩ prog_1_method_11_code 2 (some .boolean) ∈ xTB := xw 934 (rfl) (by decide +kernel)
set_option maxRecDepth 100000 in
theorem wd_935 : Cond.methodLink "CapitalCase" 144 ⟨"CapitalCase$Town", "open", "(I)I"⟩ ∈ xTB := xw 935 (by decide +kernel) (by decide +kernel)
set_option maxRecDepth 100000 in
theorem wd_936 : Cond.instanceMethod ⟨"CapitalCase$Town", "open", "(I)I"⟩ ∈ xTB := xw 936 (by decide +kernel) (by decide +kernel)
set_option maxRecDepth 100000 in
theorem wd_937 : Cond.selects "CapitalCase$Town" ⟨"CapitalCase$Town", "open", "(I)I"⟩ ⟨"CapitalCase$Town", "open", "(I)I"⟩ ∈ xTB := xw 937 (by decide +kernel) (by decide +kernel)
set_option maxRecDepth 100000 in
theorem wd_938 : Cond.code ⟨"CapitalCase$Town", "open", "(I)I"⟩ prog_10_method_7_code 2 (some .int) ∈ xTB := xw 938 (rfl) (by decide +kernel)
set_option maxRecDepth 100000 in
theorem wd_939 : Cond.methodLink "CapitalCase" 217 ⟨"CapitalCase", "couldBeSet", "(I)Z"⟩ ∈ xTB := xw 939 (by decide +kernel) (by decide +kernel)
set_option maxRecDepth 100000 in
theorem wd_941 : Cond.instanceMethod ⟨"CapitalCase", "couldBeSet", "(I)Z"⟩ ∈ xTB := xw 941 (by decide +kernel) (by decide +kernel)
set_option maxRecDepth 100000 in
theorem wd_942 : Cond.code ⟨"CapitalCase", "couldBeSet", "(I)Z"⟩ prog_1_method_18_code 2 (some .boolean) ∈ xTB := xw 942 (rfl) (by decide +kernel)
set_option maxRecDepth 100000 in
theorem wd_943 : Cond.methodLink "CapitalCase" 231 ⟨"CapitalCase$Planner", "prepare", "(LCapitalCase$Town;I)V"⟩ ∈ xTB := xw 943 (by decide +kernel) (by decide +kernel)
set_option maxRecDepth 100000 in
theorem wd_944 : Cond.instanceMethod ⟨"CapitalCase$Planner", "prepare", "(LCapitalCase$Town;I)V"⟩ ∈ xTB := xw 944 (by decide +kernel) (by decide +kernel)
set_option maxRecDepth 100000 in
theorem wd_945 : Cond.selects "CapitalCase$Planner" ⟨"CapitalCase$Planner", "prepare", "(LCapitalCase$Town;I)V"⟩ ⟨"CapitalCase$Planner", "prepare", "(LCapitalCase$Town;I)V"⟩ ∈ xTB := xw 945 (by decide +kernel) (by decide +kernel)
set_option maxRecDepth 100000 in
theorem wd_946 : Cond.code ⟨"CapitalCase$Planner", "prepare", "(LCapitalCase$Town;I)V"⟩ prog_5_method_2_code 5 none ∈ xTB := xw 946 (rfl) (by decide +kernel)
set_option maxRecDepth 100000 in
theorem wd_947 : Cond.methodLink "CapitalCase$Planner" 48 ⟨"CapitalCase$Town", "free", "(I)I"⟩ ∈ xTB := xw 947 (by decide +kernel) (by decide +kernel)
set_option maxRecDepth 100000 in
theorem wd_948 : Cond.methodLink "CapitalCase$Planner" 61 ⟨"CapitalCase$Judge", "pays", "(II)I"⟩ ∈ xTB := xw 948 (by decide +kernel) (by decide +kernel)
set_option maxRecDepth 100000 in
theorem wd_949 : Cond.methodLink "CapitalCase$Planner" 69 ⟨"CapitalCase$Planner", "orderGivers", "(LCapitalCase$Town;II)V"⟩ ∈ xTB := xw 949 (by decide +kernel) (by decide +kernel)
set_option maxRecDepth 100000 in
theorem wd_951 : Cond.instanceMethod ⟨"CapitalCase$Planner", "orderGivers", "(LCapitalCase$Town;II)V"⟩ ∈ xTB := xw 951 (by decide +kernel) (by decide +kernel)
set_option maxRecDepth 100000 in
theorem wd_952 : Cond.code ⟨"CapitalCase$Planner", "orderGivers", "(LCapitalCase$Town;II)V"⟩ prog_5_method_3_code 9 none ∈ xTB := xw 952 (rfl) (by decide +kernel)
set_option maxRecDepth 100000 in
theorem wd_953 : Cond.methodLink "CapitalCase$Planner" 76 ⟨"CapitalCase$Judge", "givesLeave", "(LCapitalCase$Town;III)Z"⟩ ∈ xTB := xw 953 (by decide +kernel) (by decide +kernel)
set_option maxRecDepth 100000 in
theorem wd_954 : Cond.methodLink "CapitalCase$Planner" 80 ⟨"CapitalCase$Judge", "rank", "(LCapitalCase$Town;III)I"⟩ ∈ xTB := xw 954 (by decide +kernel) (by decide +kernel)
set_option maxRecDepth 100000 in
theorem wd_955 : Cond.methodLink "CapitalCase" 235 ⟨"CapitalCase$Planner", "take", "(I)Z"⟩ ∈ xTB := xw 955 (by decide +kernel) (by decide +kernel)
set_option maxRecDepth 100000 in
theorem wd_956 : Cond.instanceMethod ⟨"CapitalCase$Planner", "take", "(I)Z"⟩ ∈ xTB := xw 956 (by decide +kernel) (by decide +kernel)
set_option maxRecDepth 100000 in
theorem wd_957 : Cond.selects "CapitalCase$Planner" ⟨"CapitalCase$Planner", "take", "(I)Z"⟩ ⟨"CapitalCase$Planner", "take", "(I)Z"⟩ ∈ xTB := xw 957 (by decide +kernel) (by decide +kernel)
set_option maxRecDepth 100000 in
theorem wd_958 : Cond.code ⟨"CapitalCase$Planner", "take", "(I)Z"⟩ prog_5_method_4_code 5 (some .boolean) ∈ xTB := xw 958 (rfl) (by decide +kernel)
set_option maxRecDepth 100000 in
theorem wd_959 : Cond.methodLink "CapitalCase$Planner" 93 ⟨"CapitalCase$Planner", "pick", "(II)I"⟩ ∈ xTB := xw 959 (by decide +kernel) (by decide +kernel)
set_option maxRecDepth 100000 in
theorem wd_961 : Cond.instanceMethod ⟨"CapitalCase$Planner", "pick", "(II)I"⟩ ∈ xTB := xw 961 (by decide +kernel) (by decide +kernel)
set_option maxRecDepth 100000 in
theorem wd_962 : Cond.code ⟨"CapitalCase$Planner", "pick", "(II)I"⟩ prog_5_method_5_code 7 (some .int) ∈ xTB := xw 962 (rfl) (by decide +kernel)
set_option maxRecDepth 100000 in
theorem wd_963 : Cond.methodLink "CapitalCase$Planner" 96 ⟨"CapitalCase$Planner", "giveUp", "(II)V"⟩ ∈ xTB := xw 963 (by decide +kernel) (by decide +kernel)
set_option maxRecDepth 100000 in
theorem wd_964 : Cond.instanceMethod ⟨"CapitalCase$Planner", "giveUp", "(II)V"⟩ ∈ xTB := xw 964 (by decide +kernel) (by decide +kernel)
set_option maxRecDepth 100000 in
theorem wd_965 : Cond.selects "CapitalCase$Planner" ⟨"CapitalCase$Planner", "giveUp", "(II)V"⟩ ⟨"CapitalCase$Planner", "giveUp", "(II)V"⟩ ∈ xTB := xw 965 (by decide +kernel) (by decide +kernel)
set_option maxRecDepth 100000 in
theorem wd_966 : Cond.code ⟨"CapitalCase$Planner", "giveUp", "(II)V"⟩ prog_5_method_6_code 5 none ∈ xTB := xw 966 (rfl) (by decide +kernel)
set_option maxRecDepth 100000 in
theorem wd_967 : Cond.methodLink "CapitalCase" 220 ⟨"CapitalCase$History", "keep", "(LCapitalCase$Town;)V"⟩ ∈ xTB := xw 967 (by decide +kernel) (by decide +kernel)
set_option maxRecDepth 100000 in
theorem wd_968 : Cond.instanceMethod ⟨"CapitalCase$History", "keep", "(LCapitalCase$Town;)V"⟩ ∈ xTB := xw 968 (by decide +kernel) (by decide +kernel)
set_option maxRecDepth 100000 in
theorem wd_969 : Cond.selects "CapitalCase$History" ⟨"CapitalCase$History", "keep", "(LCapitalCase$Town;)V"⟩ ⟨"CapitalCase$History", "keep", "(LCapitalCase$Town;)V"⟩ ∈ xTB := xw 969 (by decide +kernel) (by decide +kernel)
set_option maxRecDepth 100000 in
theorem wd_970 : Cond.code ⟨"CapitalCase$History", "keep", "(LCapitalCase$Town;)V"⟩ prog_2_method_2_code 3 none ∈ xTB := xw 970 (rfl) (by decide +kernel)
set_option maxRecDepth 100000 in
theorem wd_972 : Cond.methodLink "CapitalCase$History" 20 ⟨"CapitalCase$Town", "become", "(LCapitalCase$Town;)V"⟩ ∈ xTB := xw 972 (by decide +kernel) (by decide +kernel)
set_option maxRecDepth 100000 in
theorem wd_973 : Cond.instanceMethod ⟨"CapitalCase$Town", "become", "(LCapitalCase$Town;)V"⟩ ∈ xTB := xw 973 (by decide +kernel) (by decide +kernel)
set_option maxRecDepth 100000 in
theorem wd_974 : Cond.selects "CapitalCase$Town" ⟨"CapitalCase$Town", "become", "(LCapitalCase$Town;)V"⟩ ⟨"CapitalCase$Town", "become", "(LCapitalCase$Town;)V"⟩ ∈ xTB := xw 974 (by decide +kernel) (by decide +kernel)
set_option maxRecDepth 100000 in
theorem wd_975 : Cond.code ⟨"CapitalCase$Town", "become", "(LCapitalCase$Town;)V"⟩ prog_10_method_3_code 2 none ∈ xTB := xw 975 (rfl) (by decide +kernel)
set_option maxRecDepth 100000 in
theorem wd_976 : Cond.methodLink "CapitalCase$History" 27 ⟨"java/lang/Math", "min", "(II)I"⟩ ∈ xTB := xw 976 (by decide +kernel) (by decide +kernel)
set_option maxRecDepth 100000 in
theorem wd_977 : Cond.methodLink "CapitalCase" 227 ⟨"CapitalCase$Town", "lay", "(LCapitalCase$Script;I[I)V"⟩ ∈ xTB := xw 977 (by decide +kernel) (by decide +kernel)
set_option maxRecDepth 100000 in
theorem wd_978 : Cond.instanceMethod ⟨"CapitalCase$Town", "lay", "(LCapitalCase$Script;I[I)V"⟩ ∈ xTB := xw 978 (by decide +kernel) (by decide +kernel)
set_option maxRecDepth 100000 in
theorem wd_979 : Cond.selects "CapitalCase$Town" ⟨"CapitalCase$Town", "lay", "(LCapitalCase$Script;I[I)V"⟩ ⟨"CapitalCase$Town", "lay", "(LCapitalCase$Script;I[I)V"⟩ ∈ xTB := xw 979 (by decide +kernel) (by decide +kernel)
set_option maxRecDepth 100000 in
theorem wd_980 : Cond.code ⟨"CapitalCase$Town", "lay", "(LCapitalCase$Script;I[I)V"⟩ prog_10_method_8_code 6 none ∈ xTB := xw 980 (rfl) (by decide +kernel)
set_option maxRecDepth 100000 in
theorem wd_984 : Cond.code ⟨"CapitalCase", "clear", "(I)Z"⟩ prog_1_method_19_code 2 (some .boolean) ∈ xTB := xw 984 (rfl) (by decide +kernel)
set_option maxRecDepth 100000 in
theorem wd_985 : Cond.methodLink "CapitalCase" 238 ⟨"CapitalCase$Town", "lift", "(LCapitalCase$Script;I)V"⟩ ∈ xTB := xw 985 (by decide +kernel) (by decide +kernel)
set_option maxRecDepth 100000 in
theorem wd_986 : Cond.instanceMethod ⟨"CapitalCase$Town", "lift", "(LCapitalCase$Script;I)V"⟩ ∈ xTB := xw 986 (by decide +kernel) (by decide +kernel)
set_option maxRecDepth 100000 in
theorem wd_987 : Cond.selects "CapitalCase$Town" ⟨"CapitalCase$Town", "lift", "(LCapitalCase$Script;I)V"⟩ ⟨"CapitalCase$Town", "lift", "(LCapitalCase$Script;I)V"⟩ ∈ xTB := xw 987 (by decide +kernel) (by decide +kernel)
set_option maxRecDepth 100000 in
theorem wd_988 : Cond.code ⟨"CapitalCase$Town", "lift", "(LCapitalCase$Script;I)V"⟩ prog_10_method_9_code 5 none ∈ xTB := xw 988 (rfl) (by decide +kernel)
set_option maxRecDepth 100000 in
theorem wd_992 : Cond.code ⟨"CapitalCase", "lend", "(III)Z"⟩ prog_1_method_20_code 4 (some .boolean) ∈ xTB := xw 992 (rfl) (by decide +kernel)
set_option maxRecDepth 100000 in
theorem wd_993 : Cond.methodLink "CapitalCase" 242 ⟨"CapitalCase$Town", "move", "(III)V"⟩ ∈ xTB := xw 993 (by decide +kernel) (by decide +kernel)
set_option maxRecDepth 100000 in
theorem wd_994 : Cond.instanceMethod ⟨"CapitalCase$Town", "move", "(III)V"⟩ ∈ xTB := xw 994 (by decide +kernel) (by decide +kernel)
set_option maxRecDepth 100000 in
theorem wd_995 : Cond.selects "CapitalCase$Town" ⟨"CapitalCase$Town", "move", "(III)V"⟩ ⟨"CapitalCase$Town", "move", "(III)V"⟩ ∈ xTB := xw 995 (by decide +kernel) (by decide +kernel)
set_option maxRecDepth 100000 in
theorem wd_996 : Cond.code ⟨"CapitalCase$Town", "move", "(III)V"⟩ prog_10_method_10_code 4 none ∈ xTB := xw 996 (rfl) (by decide +kernel)
set_option maxRecDepth 100000 in
theorem wd_1000 : Cond.code ⟨"CapitalCase", "giveBack", "(III)Z"⟩ prog_1_method_21_code 5 (some .boolean) ∈ xTB := xw 1000 (rfl) (by decide +kernel)
set_option maxRecDepth 100000 in
theorem wd_1004 : Cond.code ⟨"CapitalCase", "days", "(I)I"⟩ prog_1_method_22_code 2 (some .int) ∈ xTB := xw 1004 (rfl) (by decide +kernel)
set_option maxRecDepth 100000 in
theorem wd_1005 : Cond.methodLink "CapitalCase" 252 ⟨"CapitalCase$Press", "passDays", "(LCapitalCase$Town;II)V"⟩ ∈ xTB := xw 1005 (by decide +kernel) (by decide +kernel)
set_option maxRecDepth 100000 in
theorem wd_1006 : Cond.instanceMethod ⟨"CapitalCase$Press", "passDays", "(LCapitalCase$Town;II)V"⟩ ∈ xTB := xw 1006 (by decide +kernel) (by decide +kernel)
set_option maxRecDepth 100000 in
theorem wd_1007 : Cond.selects "CapitalCase$Press" ⟨"CapitalCase$Press", "passDays", "(LCapitalCase$Town;II)V"⟩ ⟨"CapitalCase$Press", "passDays", "(LCapitalCase$Town;II)V"⟩ ∈ xTB := xw 1007 (by decide +kernel) (by decide +kernel)
set_option maxRecDepth 100000 in
theorem wd_1008 : Cond.code ⟨"CapitalCase$Press", "passDays", "(LCapitalCase$Town;II)V"⟩ prog_6_method_2_code 5 none ∈ xTB := xw 1008 (rfl) (by decide +kernel)
set_option maxRecDepth 100000 in
theorem wd_1009 : Cond.methodLink "CapitalCase$Press" 19 ⟨"CapitalCase$Press", "work", "(LCapitalCase$Town;)V"⟩ ∈ xTB := xw 1009 (by decide +kernel) (by decide +kernel)
set_option maxRecDepth 100000 in
theorem wd_1010 : Cond.instanceMethod ⟨"CapitalCase$Press", "work", "(LCapitalCase$Town;)V"⟩ ∈ xTB := xw 1010 (by decide +kernel) (by decide +kernel)
set_option maxRecDepth 100000 in
theorem wd_1011 : Cond.selects "CapitalCase$Press" ⟨"CapitalCase$Press", "work", "(LCapitalCase$Town;)V"⟩ ⟨"CapitalCase$Press", "work", "(LCapitalCase$Town;)V"⟩ ∈ xTB := xw 1011 (by decide +kernel) (by decide +kernel)
set_option maxRecDepth 100000 in
theorem wd_1012 : Cond.code ⟨"CapitalCase$Press", "work", "(LCapitalCase$Town;)V"⟩ prog_6_method_4_code 4 none ∈ xTB := xw 1012 (rfl) (by decide +kernel)
set_option maxRecDepth 100000 in
theorem wd_1013 : Cond.methodLink "CapitalCase$Press" 53 ⟨"CapitalCase$Press", "owed", "(LCapitalCase$Town;)I"⟩ ∈ xTB := xw 1013 (by decide +kernel) (by decide +kernel)
set_option maxRecDepth 100000 in
theorem wd_1014 : Cond.instanceMethod ⟨"CapitalCase$Press", "owed", "(LCapitalCase$Town;)I"⟩ ∈ xTB := xw 1014 (by decide +kernel) (by decide +kernel)
set_option maxRecDepth 100000 in
theorem wd_1015 : Cond.selects "CapitalCase$Press" ⟨"CapitalCase$Press", "owed", "(LCapitalCase$Town;)I"⟩ ⟨"CapitalCase$Press", "owed", "(LCapitalCase$Town;)I"⟩ ∈ xTB := xw 1015 (by decide +kernel) (by decide +kernel)
set_option maxRecDepth 100000 in
theorem wd_1016 : Cond.code ⟨"CapitalCase$Press", "owed", "(LCapitalCase$Town;)I"⟩ prog_6_method_3_code 4 (some .int) ∈ xTB := xw 1016 (rfl) (by decide +kernel)
set_option maxRecDepth 100000 in
theorem wd_1017 : Cond.methodLink "CapitalCase$Press" 44 ⟨"CapitalCase$Judge", "pays", "(II)I"⟩ ∈ xTB := xw 1017 (by decide +kernel) (by decide +kernel)
set_option maxRecDepth 100000 in
theorem wd_1018 : Cond.methodLink "CapitalCase$Press" 60 ⟨"CapitalCase$Press", "wear", "(LCapitalCase$Town;II)Z"⟩ ∈ xTB := xw 1018 (by decide +kernel) (by decide +kernel)
set_option maxRecDepth 100000 in
theorem wd_1020 : Cond.instanceMethod ⟨"CapitalCase$Press", "wear", "(LCapitalCase$Town;II)Z"⟩ ∈ xTB := xw 1020 (by decide +kernel) (by decide +kernel)
set_option maxRecDepth 100000 in
theorem wd_1021 : Cond.code ⟨"CapitalCase$Press", "wear", "(LCapitalCase$Town;II)Z"⟩ prog_6_method_5_code 6 (some .boolean) ∈ xTB := xw 1021 (rfl) (by decide +kernel)
set_option maxRecDepth 100000 in
theorem wd_1022 : Cond.methodLink "CapitalCase$Press" 71 ⟨"CapitalCase$Judge", "wears", "(LCapitalCase$Town;II)I"⟩ ∈ xTB := xw 1022 (by decide +kernel) (by decide +kernel)
set_option maxRecDepth 100000 in
theorem wd_1023 : Cond.methodLink "CapitalCase$Press" 75 ⟨"java/lang/Math", "min", "(II)I"⟩ ∈ xTB := xw 1023 (by decide +kernel) (by decide +kernel)
set_option maxRecDepth 100000 in
theorem wd_1024 : Cond.methodLink "CapitalCase$Press" 83 ⟨"CapitalCase$Town", "lose", "(I)Z"⟩ ∈ xTB := xw 1024 (by decide +kernel) (by decide +kernel)
set_option maxRecDepth 100000 in
theorem wd_1025 : Cond.instanceMethod ⟨"CapitalCase$Town", "lose", "(I)Z"⟩ ∈ xTB := xw 1025 (by decide +kernel) (by decide +kernel)
set_option maxRecDepth 100000 in
theorem wd_1026 : Cond.selects "CapitalCase$Town" ⟨"CapitalCase$Town", "lose", "(I)Z"⟩ ⟨"CapitalCase$Town", "lose", "(I)Z"⟩ ∈ xTB := xw 1026 (by decide +kernel) (by decide +kernel)
set_option maxRecDepth 100000 in
theorem wd_1027 : Cond.code ⟨"CapitalCase$Town", "lose", "(I)Z"⟩ prog_10_method_11_code 2 (some .boolean) ∈ xTB := xw 1027 (rfl) (by decide +kernel)
set_option maxRecDepth 100000 in
theorem wd_1028 : Cond.methodLink "CapitalCase$Press" 23 ⟨"CapitalCase$Press", "steal", "(LCapitalCase$Town;I)V"⟩ ∈ xTB := xw 1028 (by decide +kernel) (by decide +kernel)
set_option maxRecDepth 100000 in
theorem wd_1030 : Cond.instanceMethod ⟨"CapitalCase$Press", "steal", "(LCapitalCase$Town;I)V"⟩ ∈ xTB := xw 1030 (by decide +kernel) (by decide +kernel)
set_option maxRecDepth 100000 in
theorem wd_1031 : Cond.code ⟨"CapitalCase$Press", "steal", "(LCapitalCase$Town;I)V"⟩ prog_6_method_7_code 6 none ∈ xTB := xw 1031 (rfl) (by decide +kernel)
set_option maxRecDepth 100000 in
theorem wd_1032 : Cond.methodLink "CapitalCase$Press" 94 ⟨"CapitalCase$Press", "thievesCome", "(II)Z"⟩ ∈ xTB := xw 1032 (by decide +kernel) (by decide +kernel)
set_option maxRecDepth 100000 in
theorem wd_1033 : Cond.instanceMethod ⟨"CapitalCase$Press", "thievesCome", "(II)Z"⟩ ∈ xTB := xw 1033 (by decide +kernel) (by decide +kernel)
set_option maxRecDepth 100000 in
theorem wd_1034 : Cond.selects "CapitalCase$Press" ⟨"CapitalCase$Press", "thievesCome", "(II)Z"⟩ ⟨"CapitalCase$Press", "thievesCome", "(II)Z"⟩ ∈ xTB := xw 1034 (by decide +kernel) (by decide +kernel)
set_option maxRecDepth 100000 in
theorem wd_1035 : Cond.code ⟨"CapitalCase$Press", "thievesCome", "(II)Z"⟩ prog_6_method_6_code 3 (some .boolean) ∈ xTB := xw 1035 (rfl) (by decide +kernel)
set_option maxRecDepth 100000 in
theorem wd_1036 : Cond.methodLink "CapitalCase$Press" 87 ⟨"CapitalCase$Press", "lot", "(III)I"⟩ ∈ xTB := xw 1036 (by decide +kernel) (by decide +kernel)
set_option maxRecDepth 100000 in
theorem wd_1037 : Cond.static ⟨"CapitalCase$Press", "lot", "(III)I"⟩ ∈ xTB := xw 1037 (by decide +kernel) (by decide +kernel)
set_option maxRecDepth 100000 in
theorem wd_1038 : Cond.code ⟨"CapitalCase$Press", "lot", "(III)I"⟩ prog_6_method_8_code 4 (some .int) ∈ xTB := xw 1038 (rfl) (by decide +kernel)
set_option maxRecDepth 100000 in
theorem wd_1039 : Cond.methodLink "CapitalCase$Press" 101 ⟨"CapitalCase$Press", "mix", "(II)I"⟩ ∈ xTB := xw 1039 (by decide +kernel) (by decide +kernel)
set_option maxRecDepth 100000 in
theorem wd_1040 : Cond.static ⟨"CapitalCase$Press", "mix", "(II)I"⟩ ∈ xTB := xw 1040 (by decide +kernel) (by decide +kernel)
set_option maxRecDepth 100000 in
theorem wd_1041 : Cond.code ⟨"CapitalCase$Press", "mix", "(II)I"⟩ prog_6_method_9_code 3 (some .int) ∈ xTB := xw 1041 (rfl) (by decide +kernel)
set_option maxRecDepth 100000 in
theorem wd_1042 : Cond.constant "CapitalCase$Press" 104 1103515245 ∈ xTB := xw 1042 (by decide +kernel) (by decide +kernel)
set_option maxRecDepth 100000 in
theorem wd_1046 : Cond.code ⟨"CapitalCase", "undo", "()Z"⟩ prog_1_method_23_code 1 (some .boolean) ∈ xTB := xw 1046 (rfl) (by decide +kernel)
set_option maxRecDepth 100000 in
theorem wd_1047 : Cond.methodLink "CapitalCase" 256 ⟨"CapitalCase$History", "takeBack", "(LCapitalCase$Town;)Z"⟩ ∈ xTB := xw 1047 (by decide +kernel) (by decide +kernel)
set_option maxRecDepth 100000 in
theorem wd_1048 : Cond.instanceMethod ⟨"CapitalCase$History", "takeBack", "(LCapitalCase$Town;)Z"⟩ ∈ xTB := xw 1048 (by decide +kernel) (by decide +kernel)
set_option maxRecDepth 100000 in
theorem wd_1049 : Cond.selects "CapitalCase$History" ⟨"CapitalCase$History", "takeBack", "(LCapitalCase$Town;)Z"⟩ ⟨"CapitalCase$History", "takeBack", "(LCapitalCase$Town;)Z"⟩ ∈ xTB := xw 1049 (by decide +kernel) (by decide +kernel)
set_option maxRecDepth 100000 in
theorem wd_1050 : Cond.code ⟨"CapitalCase$History", "takeBack", "(LCapitalCase$Town;)Z"⟩ prog_2_method_3_code 4 (some .boolean) ∈ xTB := xw 1050 (rfl) (by decide +kernel)
set_option maxRecDepth 100000 in
theorem wd_1054 : Cond.code ⟨"CapitalCase", "from", "(II)I"⟩ prog_1_method_24_code 3 (some .int) ∈ xTB := xw 1054 (rfl) (by decide +kernel)
set_option maxRecDepth 100000 in
theorem wd_1055 : Cond.methodLink "CapitalCase" 260 ⟨"CapitalCase", "wants", "(II)I"⟩ ∈ xTB := xw 1055 (by decide +kernel) (by decide +kernel)
set_option maxRecDepth 100000 in
theorem wd_1059 : Cond.code ⟨"CapitalCase", "best", "(I)I"⟩ prog_1_method_25_code 2 (some .int) ∈ xTB := xw 1059 (rfl) (by decide +kernel)
set_option maxRecDepth 100000 in
theorem wd_1060 : Cond.methodLink "CapitalCase" 266 ⟨"CapitalCase$Planner", "seek", "(LCapitalCase$Town;)V"⟩ ∈ xTB := xw 1060 (by decide +kernel) (by decide +kernel)
set_option maxRecDepth 100000 in
theorem wd_1061 : Cond.instanceMethod ⟨"CapitalCase$Planner", "seek", "(LCapitalCase$Town;)V"⟩ ∈ xTB := xw 1061 (by decide +kernel) (by decide +kernel)
set_option maxRecDepth 100000 in
theorem wd_1062 : Cond.selects "CapitalCase$Planner" ⟨"CapitalCase$Planner", "seek", "(LCapitalCase$Town;)V"⟩ ⟨"CapitalCase$Planner", "seek", "(LCapitalCase$Town;)V"⟩ ∈ xTB := xw 1062 (by decide +kernel) (by decide +kernel)
set_option maxRecDepth 100000 in
theorem wd_1063 : Cond.code ⟨"CapitalCase$Planner", "seek", "(LCapitalCase$Town;)V"⟩ prog_5_method_7_code 2 none ∈ xTB := xw 1063 (rfl) (by decide +kernel)
set_option maxRecDepth 100000 in
theorem wd_1064 : Cond.methodLink "CapitalCase$Planner" 100 ⟨"CapitalCase$Town", "open", "(I)I"⟩ ∈ xTB := xw 1064 (by decide +kernel) (by decide +kernel)
set_option maxRecDepth 100000 in
theorem wd_1065 : Cond.methodLink "CapitalCase$Planner" 103 ⟨"CapitalCase$Planner", "prepare", "(LCapitalCase$Town;I)V"⟩ ∈ xTB := xw 1065 (by decide +kernel) (by decide +kernel)
set_option maxRecDepth 100000 in
theorem wd_1066 : Cond.methodLink "CapitalCase$Planner" 107 ⟨"CapitalCase$Planner", "search", "()V"⟩ ∈ xTB := xw 1066 (by decide +kernel) (by decide +kernel)
set_option maxRecDepth 100000 in
theorem wd_1068 : Cond.instanceMethod ⟨"CapitalCase$Planner", "search", "()V"⟩ ∈ xTB := xw 1068 (by decide +kernel) (by decide +kernel)
set_option maxRecDepth 100000 in
theorem wd_1069 : Cond.code ⟨"CapitalCase$Planner", "search", "()V"⟩ prog_5_method_9_code 6 none ∈ xTB := xw 1069 (rfl) (by decide +kernel)
set_option maxRecDepth 100000 in
theorem wd_1070 : Cond.methodLink "CapitalCase$Planner" 110 ⟨"CapitalCase$Planner", "take", "(I)Z"⟩ ∈ xTB := xw 1070 (by decide +kernel) (by decide +kernel)
set_option maxRecDepth 100000 in
theorem wd_1071 : Cond.methodLink "CapitalCase$Planner" 114 ⟨"CapitalCase$Planner", "keepIfMore", "(II)V"⟩ ∈ xTB := xw 1071 (by decide +kernel) (by decide +kernel)
set_option maxRecDepth 100000 in
theorem wd_1073 : Cond.instanceMethod ⟨"CapitalCase$Planner", "keepIfMore", "(II)V"⟩ ∈ xTB := xw 1073 (by decide +kernel) (by decide +kernel)
set_option maxRecDepth 100000 in
theorem wd_1074 : Cond.code ⟨"CapitalCase$Planner", "keepIfMore", "(II)V"⟩ prog_5_method_10_code 3 none ∈ xTB := xw 1074 (rfl) (by decide +kernel)
set_option maxRecDepth 100000 in
theorem wd_1075 : Cond.methodLink "CapitalCase$Planner" 117 ⟨"CapitalCase$Planner", "lastOf", "(I)I"⟩ ∈ xTB := xw 1075 (by decide +kernel) (by decide +kernel)
set_option maxRecDepth 100000 in
theorem wd_1076 : Cond.static ⟨"CapitalCase$Planner", "lastOf", "(I)I"⟩ ∈ xTB := xw 1076 (by decide +kernel) (by decide +kernel)
set_option maxRecDepth 100000 in
theorem wd_1077 : Cond.code ⟨"CapitalCase$Planner", "lastOf", "(I)I"⟩ prog_5_method_11_code 2 (some .int) ∈ xTB := xw 1077 (rfl) (by decide +kernel)
set_option maxRecDepth 100000 in
theorem wd_1081 : Cond.code ⟨"CapitalCase", "worth", "(II)I"⟩ prog_1_method_26_code 4 (some .int) ∈ xTB := xw 1081 (rfl) (by decide +kernel)
set_option maxRecDepth 100000 in
theorem wd_1082 : Cond.methodLink "CapitalCase" 275 ⟨"CapitalCase$Town", "become", "(LCapitalCase$Town;)V"⟩ ∈ xTB := xw 1082 (by decide +kernel) (by decide +kernel)
set_option maxRecDepth 100000 in
theorem wd_1086 : Cond.code ⟨"CapitalCase", "pillar", "(I)I"⟩ prog_1_method_27_code 5 (some .int) ∈ xTB := xw 1086 (rfl) (by decide +kernel)
set_option maxRecDepth 100000 in
theorem wd_1087 : Cond.methodLink "CapitalCase" 277 ⟨"CapitalCase$Planner", "seekWithout", "(LCapitalCase$Town;I)V"⟩ ∈ xTB := xw 1087 (by decide +kernel) (by decide +kernel)
set_option maxRecDepth 100000 in
theorem wd_1088 : Cond.instanceMethod ⟨"CapitalCase$Planner", "seekWithout", "(LCapitalCase$Town;I)V"⟩ ∈ xTB := xw 1088 (by decide +kernel) (by decide +kernel)
set_option maxRecDepth 100000 in
theorem wd_1089 : Cond.selects "CapitalCase$Planner" ⟨"CapitalCase$Planner", "seekWithout", "(LCapitalCase$Town;I)V"⟩ ⟨"CapitalCase$Planner", "seekWithout", "(LCapitalCase$Town;I)V"⟩ ∈ xTB := xw 1089 (by decide +kernel) (by decide +kernel)
set_option maxRecDepth 100000 in
theorem wd_1090 : Cond.code ⟨"CapitalCase$Planner", "seekWithout", "(LCapitalCase$Town;I)V"⟩ prog_5_method_8_code 4 none ∈ xTB := xw 1090 (rfl) (by decide +kernel)
set_option maxRecDepth 100000 in
theorem wd_1094 : Cond.code ⟨"CapitalCase", "twoDays", "(I)I"⟩ prog_1_method_28_code 2 (some .int) ∈ xTB := xw 1094 (rfl) (by decide +kernel)
set_option maxRecDepth 100000 in
theorem wd_1095 : Cond.methodLink "CapitalCase" 280 ⟨"CapitalCase$TwoDays", "seek", "(LCapitalCase$Town;)V"⟩ ∈ xTB := xw 1095 (by decide +kernel) (by decide +kernel)
set_option maxRecDepth 100000 in
theorem wd_1096 : Cond.instanceMethod ⟨"CapitalCase$TwoDays", "seek", "(LCapitalCase$Town;)V"⟩ ∈ xTB := xw 1096 (by decide +kernel) (by decide +kernel)
set_option maxRecDepth 100000 in
theorem wd_1097 : Cond.selects "CapitalCase$TwoDays" ⟨"CapitalCase$TwoDays", "seek", "(LCapitalCase$Town;)V"⟩ ⟨"CapitalCase$TwoDays", "seek", "(LCapitalCase$Town;)V"⟩ ∈ xTB := xw 1097 (by decide +kernel) (by decide +kernel)
set_option maxRecDepth 100000 in
theorem wd_1098 : Cond.code ⟨"CapitalCase$TwoDays", "seek", "(LCapitalCase$Town;)V"⟩ prog_12_method_2_code 6 none ∈ xTB := xw 1098 (rfl) (by decide +kernel)
set_option maxRecDepth 100000 in
theorem wd_1099 : Cond.methodLink "CapitalCase$TwoDays" 52 ⟨"CapitalCase$Town", "open", "(I)I"⟩ ∈ xTB := xw 1099 (by decide +kernel) (by decide +kernel)
set_option maxRecDepth 100000 in
theorem wd_1100 : Cond.methodLink "CapitalCase$TwoDays" 56 ⟨"CapitalCase$Planner", "prepare", "(LCapitalCase$Town;I)V"⟩ ∈ xTB := xw 1100 (by decide +kernel) (by decide +kernel)
set_option maxRecDepth 100000 in
theorem wd_1101 : Cond.methodLink "CapitalCase$TwoDays" 63 ⟨"CapitalCase$Judge", "pays", "(II)I"⟩ ∈ xTB := xw 1101 (by decide +kernel) (by decide +kernel)
set_option maxRecDepth 100000 in
theorem wd_1102 : Cond.methodLink "CapitalCase$TwoDays" 69 ⟨"CapitalCase$Press", "owed", "(LCapitalCase$Town;)I"⟩ ∈ xTB := xw 1102 (by decide +kernel) (by decide +kernel)
set_option maxRecDepth 100000 in
theorem wd_1103 : Cond.methodLink "CapitalCase$TwoDays" 83 ⟨"CapitalCase$TwoDays", "total", "([II)I"⟩ ∈ xTB := xw 1103 (by decide +kernel) (by decide +kernel)
set_option maxRecDepth 100000 in
theorem wd_1105 : Cond.instanceMethod ⟨"CapitalCase$TwoDays", "total", "([II)I"⟩ ∈ xTB := xw 1105 (by decide +kernel) (by decide +kernel)
set_option maxRecDepth 100000 in
theorem wd_1106 : Cond.code ⟨"CapitalCase$TwoDays", "total", "([II)I"⟩ prog_12_method_3_code 5 (some .int) ∈ xTB := xw 1106 (rfl) (by decide +kernel)
set_option maxRecDepth 100000 in
theorem wd_1107 : Cond.methodLink "CapitalCase$TwoDays" 87 ⟨"CapitalCase$TwoDays", "takeAll", "(I)Z"⟩ ∈ xTB := xw 1107 (by decide +kernel) (by decide +kernel)
set_option maxRecDepth 100000 in
theorem wd_1109 : Cond.instanceMethod ⟨"CapitalCase$TwoDays", "takeAll", "(I)Z"⟩ ∈ xTB := xw 1109 (by decide +kernel) (by decide +kernel)
set_option maxRecDepth 100000 in
theorem wd_1110 : Cond.code ⟨"CapitalCase$TwoDays", "takeAll", "(I)Z"⟩ prog_12_method_4_code 3 (some .boolean) ∈ xTB := xw 1110 (rfl) (by decide +kernel)
set_option maxRecDepth 100000 in
theorem wd_1111 : Cond.methodLink "CapitalCase$TwoDays" 103 ⟨"CapitalCase$Planner", "take", "(I)Z"⟩ ∈ xTB := xw 1111 (by decide +kernel) (by decide +kernel)
set_option maxRecDepth 100000 in
theorem wd_1112 : Cond.methodLink "CapitalCase$TwoDays" 94 ⟨"CapitalCase$TwoDays", "giveUpAll", "(I)V"⟩ ∈ xTB := xw 1112 (by decide +kernel) (by decide +kernel)
set_option maxRecDepth 100000 in
theorem wd_1114 : Cond.instanceMethod ⟨"CapitalCase$TwoDays", "giveUpAll", "(I)V"⟩ ∈ xTB := xw 1114 (by decide +kernel) (by decide +kernel)
set_option maxRecDepth 100000 in
theorem wd_1115 : Cond.code ⟨"CapitalCase$TwoDays", "giveUpAll", "(I)V"⟩ prog_12_method_5_code 3 none ∈ xTB := xw 1115 (rfl) (by decide +kernel)
set_option maxRecDepth 100000 in
theorem wd_1116 : Cond.methodLink "CapitalCase$TwoDays" 109 ⟨"CapitalCase$Planner", "giveUp", "(II)V"⟩ ∈ xTB := xw 1116 (by decide +kernel) (by decide +kernel)
set_option maxRecDepth 100000 in
theorem wd_1117 : Cond.methodLink "CapitalCase$TwoDays" 91 ⟨"CapitalCase$TwoDays", "passFirst", "(LCapitalCase$Town;I)V"⟩ ∈ xTB := xw 1117 (by decide +kernel) (by decide +kernel)
set_option maxRecDepth 100000 in
theorem wd_1119 : Cond.instanceMethod ⟨"CapitalCase$TwoDays", "passFirst", "(LCapitalCase$Town;I)V"⟩ ∈ xTB := xw 1119 (by decide +kernel) (by decide +kernel)
set_option maxRecDepth 100000 in
theorem wd_1120 : Cond.code ⟨"CapitalCase$TwoDays", "passFirst", "(LCapitalCase$Town;I)V"⟩ prog_12_method_6_code 4 none ∈ xTB := xw 1120 (rfl) (by decide +kernel)
set_option maxRecDepth 100000 in
theorem wd_1121 : Cond.methodLink "CapitalCase$TwoDays" 113 ⟨"CapitalCase$Town", "become", "(LCapitalCase$Town;)V"⟩ ∈ xTB := xw 1121 (by decide +kernel) (by decide +kernel)
set_option maxRecDepth 100000 in
theorem wd_1122 : Cond.methodLink "CapitalCase$TwoDays" 119 ⟨"CapitalCase$Town", "lay", "(LCapitalCase$Script;I[I)V"⟩ ∈ xTB := xw 1122 (by decide +kernel) (by decide +kernel)
set_option maxRecDepth 100000 in
theorem wd_1123 : Cond.methodLink "CapitalCase$TwoDays" 123 ⟨"CapitalCase$Press", "work", "(LCapitalCase$Town;)V"⟩ ∈ xTB := xw 1123 (by decide +kernel) (by decide +kernel)
set_option maxRecDepth 100000 in
theorem wd_1124 : Cond.methodLink "CapitalCase$TwoDays" 126 ⟨"CapitalCase$Town", "lift", "(LCapitalCase$Script;I)V"⟩ ∈ xTB := xw 1124 (by decide +kernel) (by decide +kernel)
set_option maxRecDepth 100000 in
theorem wd_1125 : Cond.methodLink "CapitalCase$TwoDays" 98 ⟨"CapitalCase$Planner", "seek", "(LCapitalCase$Town;)V"⟩ ∈ xTB := xw 1125 (by decide +kernel) (by decide +kernel)
set_option maxRecDepth 100000 in
theorem wd_1129 : Cond.code ⟨"CapitalCase", "loans", "(II)I"⟩ prog_1_method_29_code 3 (some .int) ∈ xTB := xw 1129 (rfl) (by decide +kernel)
set_option maxRecDepth 100000 in
theorem wd_1130 : Cond.methodLink "CapitalCase" 283 ⟨"CapitalCase$Trade", "loansFor", "(LCapitalCase$Town;II)I"⟩ ∈ xTB := xw 1130 (by decide +kernel) (by decide +kernel)
set_option maxRecDepth 100000 in
theorem wd_1131 : Cond.instanceMethod ⟨"CapitalCase$Trade", "loansFor", "(LCapitalCase$Town;II)I"⟩ ∈ xTB := xw 1131 (by decide +kernel) (by decide +kernel)
set_option maxRecDepth 100000 in
theorem wd_1132 : Cond.selects "CapitalCase$Trade" ⟨"CapitalCase$Trade", "loansFor", "(LCapitalCase$Town;II)I"⟩ ⟨"CapitalCase$Trade", "loansFor", "(LCapitalCase$Town;II)I"⟩ ∈ xTB := xw 1132 (by decide +kernel) (by decide +kernel)
set_option maxRecDepth 100000 in
theorem wd_1133 : Cond.code ⟨"CapitalCase$Trade", "loansFor", "(LCapitalCase$Town;II)I"⟩ prog_11_method_2_code 9 (some .int) ∈ xTB := xw 1133 (rfl) (by decide +kernel)
set_option maxRecDepth 100000 in
theorem wd_1134 : Cond.methodLink "CapitalCase$Trade" 29 ⟨"CapitalCase$Trade", "freeElsewhere", "(LCapitalCase$Town;II)I"⟩ ∈ xTB := xw 1134 (by decide +kernel) (by decide +kernel)
set_option maxRecDepth 100000 in
theorem wd_1136 : Cond.instanceMethod ⟨"CapitalCase$Trade", "freeElsewhere", "(LCapitalCase$Town;II)I"⟩ ∈ xTB := xw 1136 (by decide +kernel) (by decide +kernel)
set_option maxRecDepth 100000 in
theorem wd_1137 : Cond.code ⟨"CapitalCase$Trade", "freeElsewhere", "(LCapitalCase$Town;II)I"⟩ prog_11_method_3_code 6 (some .int) ∈ xTB := xw 1137 (rfl) (by decide +kernel)
set_option maxRecDepth 100000 in
theorem wd_1138 : Cond.methodLink "CapitalCase$Trade" 37 ⟨"CapitalCase$Town", "free", "(I)I"⟩ ∈ xTB := xw 1138 (by decide +kernel) (by decide +kernel)
set_option maxRecDepth 100000 in
theorem wd_1142 : Cond.code ⟨"CapitalCase", "bargains", "(I)I"⟩ prog_1_method_30_code 2 (some .int) ∈ xTB := xw 1142 (rfl) (by decide +kernel)
set_option maxRecDepth 100000 in
theorem wd_1143 : Cond.methodLink "CapitalCase" 286 ⟨"CapitalCase$Trade", "seekBargains", "(LCapitalCase$Town;)V"⟩ ∈ xTB := xw 1143 (by decide +kernel) (by decide +kernel)
set_option maxRecDepth 100000 in
theorem wd_1144 : Cond.instanceMethod ⟨"CapitalCase$Trade", "seekBargains", "(LCapitalCase$Town;)V"⟩ ∈ xTB := xw 1144 (by decide +kernel) (by decide +kernel)
set_option maxRecDepth 100000 in
theorem wd_1145 : Cond.selects "CapitalCase$Trade" ⟨"CapitalCase$Trade", "seekBargains", "(LCapitalCase$Town;)V"⟩ ⟨"CapitalCase$Trade", "seekBargains", "(LCapitalCase$Town;)V"⟩ ∈ xTB := xw 1145 (by decide +kernel) (by decide +kernel)
set_option maxRecDepth 100000 in
theorem wd_1146 : Cond.code ⟨"CapitalCase$Trade", "seekBargains", "(LCapitalCase$Town;)V"⟩ prog_11_method_4_code 4 none ∈ xTB := xw 1146 (rfl) (by decide +kernel)
set_option maxRecDepth 100000 in
theorem wd_1147 : Cond.methodLink "CapitalCase$Trade" 47 ⟨"CapitalCase$Trade", "seekBetween", "(LCapitalCase$Town;II)V"⟩ ∈ xTB := xw 1147 (by decide +kernel) (by decide +kernel)
set_option maxRecDepth 100000 in
theorem wd_1149 : Cond.instanceMethod ⟨"CapitalCase$Trade", "seekBetween", "(LCapitalCase$Town;II)V"⟩ ∈ xTB := xw 1149 (by decide +kernel) (by decide +kernel)
set_option maxRecDepth 100000 in
theorem wd_1150 : Cond.code ⟨"CapitalCase$Trade", "seekBetween", "(LCapitalCase$Town;II)V"⟩ prog_11_method_5_code 6 none ∈ xTB := xw 1150 (rfl) (by decide +kernel)
set_option maxRecDepth 100000 in
theorem wd_1151 : Cond.methodLink "CapitalCase$Trade" 51 ⟨"CapitalCase$Trade", "gains", "(LCapitalCase$Town;III)Z"⟩ ∈ xTB := xw 1151 (by decide +kernel) (by decide +kernel)
set_option maxRecDepth 100000 in
theorem wd_1153 : Cond.instanceMethod ⟨"CapitalCase$Trade", "gains", "(LCapitalCase$Town;III)Z"⟩ ∈ xTB := xw 1153 (by decide +kernel) (by decide +kernel)
set_option maxRecDepth 100000 in
theorem wd_1154 : Cond.code ⟨"CapitalCase$Trade", "gains", "(LCapitalCase$Town;III)Z"⟩ prog_11_method_6_code 5 (some .boolean) ∈ xTB := xw 1154 (rfl) (by decide +kernel)
set_option maxRecDepth 100000 in
theorem wd_1155 : Cond.methodLink "CapitalCase$Trade" 55 ⟨"CapitalCase$Trade", "versesAlone", "(LCapitalCase$Town;III)I"⟩ ∈ xTB := xw 1155 (by decide +kernel) (by decide +kernel)
set_option maxRecDepth 100000 in
theorem wd_1157 : Cond.instanceMethod ⟨"CapitalCase$Trade", "versesAlone", "(LCapitalCase$Town;III)I"⟩ ∈ xTB := xw 1157 (by decide +kernel) (by decide +kernel)
set_option maxRecDepth 100000 in
theorem wd_1158 : Cond.code ⟨"CapitalCase$Trade", "versesAlone", "(LCapitalCase$Town;III)I"⟩ prog_11_method_7_code 12 (some .int) ∈ xTB := xw 1158 (rfl) (by decide +kernel)
set_option maxRecDepth 100000 in
theorem wd_1159 : Cond.methodLink "CapitalCase$Trade" 62 ⟨"CapitalCase$Town", "open", "(I)I"⟩ ∈ xTB := xw 1159 (by decide +kernel) (by decide +kernel)
set_option maxRecDepth 100000 in
theorem wd_1160 : Cond.methodLink "CapitalCase$Trade" 65 ⟨"java/lang/Math", "max", "(II)I"⟩ ∈ xTB := xw 1160 (by decide +kernel) (by decide +kernel)
set_option maxRecDepth 100000 in
theorem wd_1164 : Cond.code ⟨"CapitalCase", "strike", "(I)I"⟩ prog_1_method_31_code 4 (some .int) ∈ xTB := xw 1164 (rfl) (by decide +kernel)
set_option maxRecDepth 100000 in
theorem wd_1165 : Cond.methodLink "CapitalCase" 295 ⟨"CapitalCase$Script", "lettersOf", "(I)I"⟩ ∈ xTB := xw 1165 (by decide +kernel) (by decide +kernel)
set_option maxRecDepth 100000 in
theorem wd_1166 : Cond.instanceMethod ⟨"CapitalCase$Script", "lettersOf", "(I)I"⟩ ∈ xTB := xw 1166 (by decide +kernel) (by decide +kernel)
set_option maxRecDepth 100000 in
theorem wd_1167 : Cond.selects "CapitalCase$Script" ⟨"CapitalCase$Script", "lettersOf", "(I)I"⟩ ⟨"CapitalCase$Script", "lettersOf", "(I)I"⟩ ∈ xTB := xw 1167 (by decide +kernel) (by decide +kernel)
set_option maxRecDepth 100000 in
theorem wd_1168 : Cond.code ⟨"CapitalCase$Script", "lettersOf", "(I)I"⟩ prog_8_method_7_code 4 (some .int) ∈ xTB := xw 1168 (rfl) (by decide +kernel)
set_option maxRecDepth 100000 in
theorem wd_1172 : Cond.code ⟨"CapitalCase", "clash", "(I)I"⟩ prog_1_method_32_code 2 (some .int) ∈ xTB := xw 1172 (rfl) (by decide +kernel)
set_option maxRecDepth 100000 in
theorem wd_1176 : Cond.code ⟨"CapitalCase", "late", "()I"⟩ prog_1_method_33_code 3 (some .int) ∈ xTB := xw 1176 (rfl) (by decide +kernel)
set_option maxRecDepth 100000 in
theorem wd_1180 : Cond.code ⟨"CapitalCase", "wornOut", "(II)I"⟩ prog_1_method_34_code 3 (some .int) ∈ xTB := xw 1180 (rfl) (by decide +kernel)
set_option maxRecDepth 100000 in
theorem wd_1181 : Cond.methodLink "CapitalCase" 301 ⟨"CapitalCase$Press", "daysTillWornOut", "(LCapitalCase$Town;II)I"⟩ ∈ xTB := xw 1181 (by decide +kernel) (by decide +kernel)
set_option maxRecDepth 100000 in
theorem wd_1182 : Cond.instanceMethod ⟨"CapitalCase$Press", "daysTillWornOut", "(LCapitalCase$Town;II)I"⟩ ∈ xTB := xw 1182 (by decide +kernel) (by decide +kernel)
set_option maxRecDepth 100000 in
theorem wd_1183 : Cond.selects "CapitalCase$Press" ⟨"CapitalCase$Press", "daysTillWornOut", "(LCapitalCase$Town;II)I"⟩ ⟨"CapitalCase$Press", "daysTillWornOut", "(LCapitalCase$Town;II)I"⟩ ∈ xTB := xw 1183 (by decide +kernel) (by decide +kernel)
set_option maxRecDepth 100000 in
theorem wd_1184 : Cond.code ⟨"CapitalCase$Press", "daysTillWornOut", "(LCapitalCase$Town;II)I"⟩ prog_6_method_10_code 5 (some .int) ∈ xTB := xw 1184 (rfl) (by decide +kernel)
set_option maxRecDepth 100000 in
theorem wd_1188 : Cond.code ⟨"CapitalCase", "then", "(IIII)I"⟩ prog_1_method_35_code 6 (some .int) ∈ xTB := xw 1188 (rfl) (by decide +kernel)
set_option maxRecDepth 100000 in
theorem wd_1192 : Cond.code ⟨"CapitalCase", "paidIn", "(I)I"⟩ prog_1_method_36_code 2 (some .int) ∈ xTB := xw 1192 (rfl) (by decide +kernel)
set_option maxRecDepth 100000 in
theorem wd_1196 : Cond.code ⟨"CapitalCase", "year", "(IIII)I"⟩ prog_1_method_37_code 7 (some .int) ∈ xTB := xw 1196 (rfl) (by decide +kernel)
set_option maxRecDepth 100000 in
theorem wd_1200 : Cond.code ⟨"CapitalCase", "tell", "(IIZ)I"⟩ prog_1_method_38_code 4 (some .int) ∈ xTB := xw 1200 (rfl) (by decide +kernel)
set_option maxRecDepth 100000 in
theorem wd_1201 : Cond.methodLink "CapitalCase" 307 ⟨"CapitalCase$Prints", "note", "(IIZ)I"⟩ ∈ xTB := xw 1201 (by decide +kernel) (by decide +kernel)
set_option maxRecDepth 100000 in
theorem wd_1202 : Cond.instanceMethod ⟨"CapitalCase$Prints", "note", "(IIZ)I"⟩ ∈ xTB := xw 1202 (by decide +kernel) (by decide +kernel)
set_option maxRecDepth 100000 in
theorem wd_1203 : Cond.selects "CapitalCase$Prints" ⟨"CapitalCase$Prints", "note", "(IIZ)I"⟩ ⟨"CapitalCase$Prints", "note", "(IIZ)I"⟩ ∈ xTB := xw 1203 (by decide +kernel) (by decide +kernel)
set_option maxRecDepth 100000 in
theorem wd_1204 : Cond.code ⟨"CapitalCase$Prints", "note", "(IIZ)I"⟩ prog_7_method_2_code 4 (some .int) ∈ xTB := xw 1204 (rfl) (by decide +kernel)
set_option maxRecDepth 100000 in
theorem wd_1208 : Cond.code ⟨"CapitalCase", "forget", "()I"⟩ prog_1_method_39_code 2 (some .int) ∈ xTB := xw 1208 (rfl) (by decide +kernel)
set_option maxRecDepth 100000 in
theorem wd_1212 : Cond.code ⟨"CapitalCase", "whose", "(II)I"⟩ prog_1_method_40_code 4 (some .int) ∈ xTB := xw 1212 (rfl) (by decide +kernel)
set_option maxRecDepth 100000 in
theorem wd_1213 : Cond.methodLink "CapitalCase" 311 ⟨"CapitalCase$Prints", "left", "(LCapitalCase$Town;II)I"⟩ ∈ xTB := xw 1213 (by decide +kernel) (by decide +kernel)
set_option maxRecDepth 100000 in
theorem wd_1214 : Cond.instanceMethod ⟨"CapitalCase$Prints", "left", "(LCapitalCase$Town;II)I"⟩ ∈ xTB := xw 1214 (by decide +kernel) (by decide +kernel)
set_option maxRecDepth 100000 in
theorem wd_1215 : Cond.selects "CapitalCase$Prints" ⟨"CapitalCase$Prints", "left", "(LCapitalCase$Town;II)I"⟩ ⟨"CapitalCase$Prints", "left", "(LCapitalCase$Town;II)I"⟩ ∈ xTB := xw 1215 (by decide +kernel) (by decide +kernel)
set_option maxRecDepth 100000 in
theorem wd_1216 : Cond.code ⟨"CapitalCase$Prints", "left", "(LCapitalCase$Town;II)I"⟩ prog_7_method_3_code 8 (some .int) ∈ xTB := xw 1216 (rfl) (by decide +kernel)
set_option maxRecDepth 100000 in
theorem wd_1217 : Cond.methodLink "CapitalCase" 314 ⟨"java/lang/Integer", "bitCount", "(I)I"⟩ ∈ xTB := xw 1217 (by decide +kernel) (by decide +kernel)
set_option maxRecDepth 100000 in
theorem wd_1218 : Cond.static ⟨"java/lang/Integer", "bitCount", "(I)I"⟩ ∈ xTB := xw 1218 (by decide +kernel) (by decide +kernel)
set_option maxRecDepth 100000 in
theorem wd_1219 : Cond.code ⟨"java/lang/Integer", "bitCount", "(I)I"⟩ prog_16_method_49_code 1 (some .int) ∈ xTB := xw 1219 (rfl) (by decide +kernel)
set_option maxRecDepth 100000 in
theorem wd_1220 : Cond.constant "java/lang/Integer" 265 1431655765 ∈ xTB := xw 1220 (by decide +kernel) (by decide +kernel)
set_option maxRecDepth 100000 in
theorem wd_1221 : Cond.constant "java/lang/Integer" 266 858993459 ∈ xTB := xw 1221 (by decide +kernel) (by decide +kernel)
set_option maxRecDepth 100000 in
theorem wd_1222 : Cond.constant "java/lang/Integer" 267 252645135 ∈ xTB := xw 1222 (by decide +kernel) (by decide +kernel)
set_option maxRecDepth 100000 in
theorem wd_1226 : Cond.code ⟨"CapitalCase", "ask", "(II)I"⟩ prog_1_method_41_code 3 (some .int) ∈ xTB := xw 1226 (rfl) (by decide +kernel)
set_option maxRecDepth 100000 in
theorem wd_1227 : Cond.methodLink "CapitalCase" 319 ⟨"CapitalCase$Prints", "letterToAsk", "(LCapitalCase$Town;II)I"⟩ ∈ xTB := xw 1227 (by decide +kernel) (by decide +kernel)
set_option maxRecDepth 100000 in
theorem wd_1228 : Cond.instanceMethod ⟨"CapitalCase$Prints", "letterToAsk", "(LCapitalCase$Town;II)I"⟩ ∈ xTB := xw 1228 (by decide +kernel) (by decide +kernel)
set_option maxRecDepth 100000 in
theorem wd_1229 : Cond.selects "CapitalCase$Prints" ⟨"CapitalCase$Prints", "letterToAsk", "(LCapitalCase$Town;II)I"⟩ ⟨"CapitalCase$Prints", "letterToAsk", "(LCapitalCase$Town;II)I"⟩ ∈ xTB := xw 1229 (by decide +kernel) (by decide +kernel)
set_option maxRecDepth 100000 in
theorem wd_1230 : Cond.code ⟨"CapitalCase$Prints", "letterToAsk", "(LCapitalCase$Town;II)I"⟩ prog_7_method_4_code 9 (some .int) ∈ xTB := xw 1230 (rfl) (by decide +kernel)
set_option maxRecDepth 100000 in
theorem wd_1231 : Cond.methodLink "CapitalCase$Prints" 31 ⟨"java/lang/Integer", "bitCount", "(I)I"⟩ ∈ xTB := xw 1231 (by decide +kernel) (by decide +kernel)
set_option maxRecDepth 100000 in
theorem wd_1232 : Cond.methodLink "CapitalCase$Prints" 37 ⟨"java/lang/Math", "max", "(II)I"⟩ ∈ xTB := xw 1232 (by decide +kernel) (by decide +kernel)
set_option maxRecDepth 100000 in
theorem wd_1236 : Cond.code ⟨"CapitalCase", "hold", "(I)Z"⟩ prog_1_method_42_code 2 (some .boolean) ∈ xTB := xw 1236 (rfl) (by decide +kernel)
set_option maxRecDepth 100000 in
theorem wd_1240 : Cond.code ⟨"CapitalCase", "restore", "(I)Z"⟩ prog_1_method_43_code 2 (some .boolean) ∈ xTB := xw 1240 (rfl) (by decide +kernel)
set_option maxRecDepth 100000 in
theorem wd_1244 : Cond.code ⟨"CapitalCase", "count", "(I)I"⟩ prog_1_method_44_code 2 (some .int) ∈ xTB := xw 1244 (rfl) (by decide +kernel)
set_option maxRecDepth 100000 in
theorem wd_1245 : Cond.methodLink "CapitalCase" 322 ⟨"CapitalCase", "sum", "([I)I"⟩ ∈ xTB := xw 1245 (by decide +kernel) (by decide +kernel)
set_option maxRecDepth 100000 in
theorem wd_1246 : Cond.static ⟨"CapitalCase", "sum", "([I)I"⟩ ∈ xTB := xw 1246 (by decide +kernel) (by decide +kernel)
set_option maxRecDepth 100000 in
theorem wd_1247 : Cond.code ⟨"CapitalCase", "sum", "([I)I"⟩ prog_1_method_45_code 6 (some .int) ∈ xTB := xw 1247 (rfl) (by decide +kernel)
set_option maxRecDepth 100000 in
theorem wd_1248 : Cond.methodLink "CapitalCase" 329 ⟨"CapitalCase", "heldSlots", "()I"⟩ ∈ xTB := xw 1248 (by decide +kernel) (by decide +kernel)
set_option maxRecDepth 100000 in
theorem wd_1250 : Cond.instanceMethod ⟨"CapitalCase", "heldSlots", "()I"⟩ ∈ xTB := xw 1250 (by decide +kernel) (by decide +kernel)
set_option maxRecDepth 100000 in
theorem wd_1251 : Cond.code ⟨"CapitalCase", "heldSlots", "()I"⟩ prog_1_method_46_code 3 (some .int) ∈ xTB := xw 1251 (rfl) (by decide +kernel)
set_option maxRecDepth 100000 in
theorem wd_1252 : Cond.methodLink "CapitalCase" 333 ⟨"CapitalCase$Press", "thievesCome", "(II)Z"⟩ ∈ xTB := xw 1252 (by decide +kernel) (by decide +kernel)
set_option maxRecDepth 100000 in
theorem wd_1253 : Cond.methodLink "CapitalCase" 336 ⟨"CapitalCase", "settable", "()I"⟩ ∈ xTB := xw 1253 (by decide +kernel) (by decide +kernel)
set_option maxRecDepth 100000 in
theorem wd_1255 : Cond.instanceMethod ⟨"CapitalCase", "settable", "()I"⟩ ∈ xTB := xw 1255 (by decide +kernel) (by decide +kernel)
set_option maxRecDepth 100000 in
theorem wd_1256 : Cond.code ⟨"CapitalCase", "settable", "()I"⟩ prog_1_method_47_code 3 (some .int) ∈ xTB := xw 1256 (rfl) (by decide +kernel)
set_option maxRecDepth 100000 in
theorem wd_1283 : Cond.fieldLink "CapitalCaseModel" 163 "CapitalCaseModel" "taped" "I" ∈ xTB := xw 1283 (by decide +kernel) (by decide +kernel)
set_option maxRecDepth 100000 in
theorem wd_1285 : Cond.fieldLink "CapitalCaseModel" 169 "CapitalCaseModel" "size" "I" ∈ xTB := xw 1285 (by decide +kernel) (by decide +kernel)
set_option maxRecDepth 100000 in
theorem wd_1291 : Cond.fieldLink "CapitalCaseModel" 178 "CapitalCaseModel" "tokens" "I" ∈ xTB := xw 1291 (by decide +kernel) (by decide +kernel)
set_option maxRecDepth 100000 in
theorem wd_1292 : Cond.fieldLink "CapitalCaseModel" 203 "CapitalCaseModel" "t" "I" ∈ xTB := xw 1292 (by decide +kernel) (by decide +kernel)
set_option maxRecDepth 100000 in
theorem wd_1293 : Cond.fieldLink "CapitalCaseModel" 227 "CapitalCaseModel" "open" "I" ∈ xTB := xw 1293 (by decide +kernel) (by decide +kernel)
set_option maxRecDepth 100000 in
theorem wd_1294 : Cond.fieldLink "CapitalCaseModel" 200 "CapitalCaseModel" "fault" "I" ∈ xTB := xw 1294 (by decide +kernel) (by decide +kernel)
set_option maxRecDepth 100000 in
theorem wd_1295 : Cond.fieldLink "CapitalCaseModel" 206 "CapitalCaseModel" "faultPlace" "I" ∈ xTB := xw 1295 (by decide +kernel) (by decide +kernel)
set_option maxRecDepth 100000 in
theorem wd_1296 : Cond.fieldLink "CapitalCaseModel" 209 "CapitalCaseModel" "worst" "I" ∈ xTB := xw 1296 (by decide +kernel) (by decide +kernel)
set_option maxRecDepth 100000 in
theorem wd_1297 : Cond.fieldLink "CapitalCaseModel" 212 "CapitalCaseModel" "worstPlace" "I" ∈ xTB := xw 1297 (by decide +kernel) (by decide +kernel)
set_option maxRecDepth 100000 in
theorem wd_1300 : Cond.fieldLink "CapitalCaseModel" 233 "CapitalCaseModel" "side" "I" ∈ xTB := xw 1300 (by decide +kernel) (by decide +kernel)
set_option maxRecDepth 100000 in
theorem wd_1301 : Cond.fieldLink "CapitalCaseModel" 236 "CapitalCaseModel" "names" "I" ∈ xTB := xw 1301 (by decide +kernel) (by decide +kernel)
set_option maxRecDepth 100000 in
theorem wd_1315 : Cond.fieldLink "CapitalCaseModel" 239 "CapitalCaseModel" "branches" "I" ∈ xTB := xw 1315 (by decide +kernel) (by decide +kernel)
set_option maxRecDepth 100000 in
theorem wd_1321 : Cond.fieldLink "CapitalCaseModel" 242 "CapitalCaseModel" "codes" "I" ∈ xTB := xw 1321 (by decide +kernel) (by decide +kernel)
set_option maxRecDepth 100000 in
theorem wd_1325 : Cond.fieldLink "CapitalCaseModel" 284 "CapitalCaseModel" "lettersMany" "I" ∈ xTB := xw 1325 (by decide +kernel) (by decide +kernel)
set_option maxRecDepth 100000 in
theorem wd_1327 : Cond.fieldLink "CapitalCaseModel" 307 "CapitalCaseModel" "waiting" "I" ∈ xTB := xw 1327 (by decide +kernel) (by decide +kernel)
set_option maxRecDepth 100000 in
theorem wd_1330 : Cond.fieldLink "CapitalCaseModel" 320 "CapitalCaseModel" "isBroken" "Z" ∈ xTB := xw 1330 (by decide +kernel) (by decide +kernel)
set_option maxRecDepth 100000 in
theorem wd_1336 : Cond.fieldLink "CapitalCaseModel" 365 "CapitalCaseModel" "alikeMany" "I" ∈ xTB := xw 1336 (by decide +kernel) (by decide +kernel)
set_option maxRecDepth 100000 in
theorem wd_1340 : Cond.fieldLink "CapitalCaseModel" 248 "CapitalCaseModel" "undos" "I" ∈ xTB := xw 1340 (by decide +kernel) (by decide +kernel)
set_option maxRecDepth 100000 in
theorem wd_1343 : Cond.fieldLink "CapitalCaseModel" 442 "CapitalCaseModel" "bestSum" "I" ∈ xTB := xw 1343 (by decide +kernel) (by decide +kernel)
set_option maxRecDepth 100000 in
theorem wd_1344 : Cond.fieldLink "CapitalCaseModel" 445 "CapitalCaseModel" "bestSet" "I" ∈ xTB := xw 1344 (by decide +kernel) (by decide +kernel)
set_option maxRecDepth 100000 in
theorem wd_1345 : Cond.fieldLink "CapitalCaseModel" 251 "CapitalCaseModel" "tolds" "I" ∈ xTB := xw 1345 (by decide +kernel) (by decide +kernel)
set_option maxRecDepth 100000 in
theorem wd_1496 : Cond.code ⟨"CapitalCaseModel", "feed", "(IIIII)I"⟩ prog_14_method_3_code 6 (some .int) ∈ xTB := xw 1496 (rfl) (by decide +kernel)
set_option maxRecDepth 100000 in
theorem wd_1497 : Cond.methodLink "CapitalCaseModel" 166 ⟨"CapitalCaseModel", "put", "(I)V"⟩ ∈ xTB := xw 1497 (by decide +kernel) (by decide +kernel)
set_option maxRecDepth 100000 in
theorem wd_1499 : Cond.instanceMethod ⟨"CapitalCaseModel", "put", "(I)V"⟩ ∈ xTB := xw 1499 (by decide +kernel) (by decide +kernel)
set_option maxRecDepth 100000 in
theorem wd_1500 : Cond.code ⟨"CapitalCaseModel", "put", "(I)V"⟩ prog_14_method_4_code 3 none ∈ xTB := xw 1500 (rfl) (by decide +kernel)
set_option maxRecDepth 100000 in
theorem wd_1504 : Cond.code ⟨"CapitalCaseModel", "back", "(I)I"⟩ prog_14_method_5_code 2 (some .int) ∈ xTB := xw 1504 (rfl) (by decide +kernel)
set_option maxRecDepth 100000 in
theorem wd_1508 : Cond.code ⟨"CapitalCaseModel", "read", "()I"⟩ prog_14_method_20_code 2 (some .int) ∈ xTB := xw 1508 (rfl) (by decide +kernel)
set_option maxRecDepth 100000 in
theorem wd_1509 : Cond.methodLink "CapitalCaseModel" 224 ⟨"CapitalCaseModel", "cut", "()V"⟩ ∈ xTB := xw 1509 (by decide +kernel) (by decide +kernel)
set_option maxRecDepth 100000 in
theorem wd_1511 : Cond.instanceMethod ⟨"CapitalCaseModel", "cut", "()V"⟩ ∈ xTB := xw 1511 (by decide +kernel) (by decide +kernel)
set_option maxRecDepth 100000 in
theorem wd_1512 : Cond.code ⟨"CapitalCaseModel", "cut", "()V"⟩ prog_14_method_12_code 8 none ∈ xTB := xw 1512 (rfl) (by decide +kernel)
set_option maxRecDepth 100000 in
theorem wd_1513 : Cond.methodLink "CapitalCaseModel" 181 ⟨"CapitalCaseModel", "byteAt", "(I)I"⟩ ∈ xTB := xw 1513 (by decide +kernel) (by decide +kernel)
set_option maxRecDepth 100000 in
theorem wd_1515 : Cond.instanceMethod ⟨"CapitalCaseModel", "byteAt", "(I)I"⟩ ∈ xTB := xw 1515 (by decide +kernel) (by decide +kernel)
set_option maxRecDepth 100000 in
theorem wd_1516 : Cond.code ⟨"CapitalCaseModel", "byteAt", "(I)I"⟩ prog_14_method_6_code 2 (some .int) ∈ xTB := xw 1516 (rfl) (by decide +kernel)
set_option maxRecDepth 100000 in
theorem wd_1517 : Cond.methodLink "CapitalCaseModel" 185 ⟨"CapitalCaseModel", "token", "(IIIJ)V"⟩ ∈ xTB := xw 1517 (by decide +kernel) (by decide +kernel)
set_option maxRecDepth 100000 in
theorem wd_1519 : Cond.instanceMethod ⟨"CapitalCaseModel", "token", "(IIIJ)V"⟩ ∈ xTB := xw 1519 (by decide +kernel) (by decide +kernel)
set_option maxRecDepth 100000 in
theorem wd_1520 : Cond.code ⟨"CapitalCaseModel", "token", "(IIIJ)V"⟩ prog_14_method_11_code 6 none ∈ xTB := xw 1520 (rfl) (by decide +kernel)
set_option maxRecDepth 100000 in
theorem wd_1521 : Cond.methodLink "CapitalCaseModel" 189 ⟨"CapitalCaseModel", "isLetter", "(I)Z"⟩ ∈ xTB := xw 1521 (by decide +kernel) (by decide +kernel)
set_option maxRecDepth 100000 in
theorem wd_1522 : Cond.static ⟨"CapitalCaseModel", "isLetter", "(I)Z"⟩ ∈ xTB := xw 1522 (by decide +kernel) (by decide +kernel)
set_option maxRecDepth 100000 in
theorem wd_1523 : Cond.code ⟨"CapitalCaseModel", "isLetter", "(I)Z"⟩ prog_14_method_8_code 1 (some .boolean) ∈ xTB := xw 1523 (rfl) (by decide +kernel)
set_option maxRecDepth 100000 in
theorem wd_1524 : Cond.methodLink "CapitalCaseModel" 193 ⟨"CapitalCaseModel", "isDigit", "(I)Z"⟩ ∈ xTB := xw 1524 (by decide +kernel) (by decide +kernel)
set_option maxRecDepth 100000 in
theorem wd_1525 : Cond.static ⟨"CapitalCaseModel", "isDigit", "(I)Z"⟩ ∈ xTB := xw 1525 (by decide +kernel) (by decide +kernel)
set_option maxRecDepth 100000 in
theorem wd_1526 : Cond.code ⟨"CapitalCaseModel", "isDigit", "(I)Z"⟩ prog_14_method_7_code 1 (some .boolean) ∈ xTB := xw 1526 (rfl) (by decide +kernel)
set_option maxRecDepth 100000 in
theorem wd_1527 : Cond.methodLink "CapitalCaseModel" 196 ⟨"CapitalCaseModel", "sign", "(III)I"⟩ ∈ xTB := xw 1527 (by decide +kernel) (by decide +kernel)
set_option maxRecDepth 100000 in
theorem wd_1529 : Cond.instanceMethod ⟨"CapitalCaseModel", "sign", "(III)I"⟩ ∈ xTB := xw 1529 (by decide +kernel) (by decide +kernel)
set_option maxRecDepth 100000 in
theorem wd_1530 : Cond.code ⟨"CapitalCaseModel", "sign", "(III)I"⟩ prog_14_method_13_code 5 (some .int) ∈ xTB := xw 1530 (rfl) (by decide +kernel)
set_option maxRecDepth 100000 in
theorem wd_1531 : Cond.methodLink "CapitalCaseModel" 218 ⟨"CapitalCaseModel", "is", "(I)Z"⟩ ∈ xTB := xw 1531 (by decide +kernel) (by decide +kernel)
set_option maxRecDepth 100000 in
theorem wd_1533 : Cond.instanceMethod ⟨"CapitalCaseModel", "is", "(I)Z"⟩ ∈ xTB := xw 1533 (by decide +kernel) (by decide +kernel)
set_option maxRecDepth 100000 in
theorem wd_1534 : Cond.code ⟨"CapitalCaseModel", "is", "(I)Z"⟩ prog_14_method_14_code 2 (some .boolean) ∈ xTB := xw 1534 (rfl) (by decide +kernel)
set_option maxRecDepth 100000 in
theorem wd_1535 : Cond.methodLink "CapitalCaseModel" 245 ⟨"CapitalCaseModel", "tellOne", "()V"⟩ ∈ xTB := xw 1535 (by decide +kernel) (by decide +kernel)
set_option maxRecDepth 100000 in
theorem wd_1537 : Cond.instanceMethod ⟨"CapitalCaseModel", "tellOne", "()V"⟩ ∈ xTB := xw 1537 (by decide +kernel) (by decide +kernel)
set_option maxRecDepth 100000 in
theorem wd_1538 : Cond.code ⟨"CapitalCaseModel", "tellOne", "()V"⟩ prog_14_method_24_code 2 none ∈ xTB := xw 1538 (rfl) (by decide +kernel)
set_option maxRecDepth 100000 in
theorem wd_1539 : Cond.methodLink "CapitalCaseModel" 261 ⟨"CapitalCaseModel", "roomFor", "(II)V"⟩ ∈ xTB := xw 1539 (by decide +kernel) (by decide +kernel)
set_option maxRecDepth 100000 in
theorem wd_1541 : Cond.instanceMethod ⟨"CapitalCaseModel", "roomFor", "(II)V"⟩ ∈ xTB := xw 1541 (by decide +kernel) (by decide +kernel)
set_option maxRecDepth 100000 in
theorem wd_1542 : Cond.code ⟨"CapitalCaseModel", "roomFor", "(II)V"⟩ prog_14_method_22_code 3 none ∈ xTB := xw 1542 (rfl) (by decide +kernel)
set_option maxRecDepth 100000 in
theorem wd_1543 : Cond.methodLink "CapitalCaseModel" 215 ⟨"CapitalCaseModel", "fail", "(I)V"⟩ ∈ xTB := xw 1543 (by decide +kernel) (by decide +kernel)
set_option maxRecDepth 100000 in
theorem wd_1545 : Cond.instanceMethod ⟨"CapitalCaseModel", "fail", "(I)V"⟩ ∈ xTB := xw 1545 (by decide +kernel) (by decide +kernel)
set_option maxRecDepth 100000 in
theorem wd_1546 : Cond.code ⟨"CapitalCaseModel", "fail", "(I)V"⟩ prog_14_method_15_code 2 none ∈ xTB := xw 1546 (rfl) (by decide +kernel)
set_option maxRecDepth 100000 in
theorem wd_1547 : Cond.methodLink "CapitalCaseModel" 221 ⟨"CapitalCaseModel", "goesOn", "()V"⟩ ∈ xTB := xw 1547 (by decide +kernel) (by decide +kernel)
set_option maxRecDepth 100000 in
theorem wd_1549 : Cond.instanceMethod ⟨"CapitalCaseModel", "goesOn", "()V"⟩ ∈ xTB := xw 1549 (by decide +kernel) (by decide +kernel)
set_option maxRecDepth 100000 in
theorem wd_1550 : Cond.code ⟨"CapitalCaseModel", "goesOn", "()V"⟩ prog_14_method_17_code 1 none ∈ xTB := xw 1550 (rfl) (by decide +kernel)
set_option maxRecDepth 100000 in
theorem wd_1551 : Cond.methodLink "CapitalCaseModel" 265 ⟨"CapitalCaseModel", "tellHouse", "()V"⟩ ∈ xTB := xw 1551 (by decide +kernel) (by decide +kernel)
set_option maxRecDepth 100000 in
theorem wd_1553 : Cond.instanceMethod ⟨"CapitalCaseModel", "tellHouse", "()V"⟩ ∈ xTB := xw 1553 (by decide +kernel) (by decide +kernel)
set_option maxRecDepth 100000 in
theorem wd_1554 : Cond.code ⟨"CapitalCaseModel", "tellHouse", "()V"⟩ prog_14_method_31_code 4 none ∈ xTB := xw 1554 (rfl) (by decide +kernel)
set_option maxRecDepth 100000 in
theorem wd_1555 : Cond.methodLink "CapitalCaseModel" 291 ⟨"CapitalCaseModel", "named", "()I"⟩ ∈ xTB := xw 1555 (by decide +kernel) (by decide +kernel)
set_option maxRecDepth 100000 in
theorem wd_1557 : Cond.instanceMethod ⟨"CapitalCaseModel", "named", "()I"⟩ ∈ xTB := xw 1557 (by decide +kernel) (by decide +kernel)
set_option maxRecDepth 100000 in
theorem wd_1558 : Cond.code ⟨"CapitalCaseModel", "named", "()I"⟩ prog_14_method_25_code 3 (some .int) ∈ xTB := xw 1558 (rfl) (by decide +kernel)
set_option maxRecDepth 100000 in
theorem wd_1559 : Cond.methodLink "CapitalCaseModel" 258 ⟨"CapitalCaseModel", "must", "(I)V"⟩ ∈ xTB := xw 1559 (by decide +kernel) (by decide +kernel)
set_option maxRecDepth 100000 in
theorem wd_1561 : Cond.instanceMethod ⟨"CapitalCaseModel", "must", "(I)V"⟩ ∈ xTB := xw 1561 (by decide +kernel) (by decide +kernel)
set_option maxRecDepth 100000 in
theorem wd_1562 : Cond.code ⟨"CapitalCaseModel", "must", "(I)V"⟩ prog_14_method_18_code 2 none ∈ xTB := xw 1562 (rfl) (by decide +kernel)
set_option maxRecDepth 100000 in
theorem wd_1563 : Cond.methodLink "CapitalCaseModel" 277 ⟨"CapitalCaseModel", "wrong", "(II)V"⟩ ∈ xTB := xw 1563 (by decide +kernel) (by decide +kernel)
set_option maxRecDepth 100000 in
theorem wd_1565 : Cond.instanceMethod ⟨"CapitalCaseModel", "wrong", "(II)V"⟩ ∈ xTB := xw 1565 (by decide +kernel) (by decide +kernel)
set_option maxRecDepth 100000 in
theorem wd_1566 : Cond.code ⟨"CapitalCaseModel", "wrong", "(II)V"⟩ prog_14_method_16_code 4 none ∈ xTB := xw 1566 (rfl) (by decide +kernel)
set_option maxRecDepth 100000 in
theorem wd_1567 : Cond.methodLink "CapitalCaseModel" 295 ⟨"CapitalCaseModel", "takesLetters", "()V"⟩ ∈ xTB := xw 1567 (by decide +kernel) (by decide +kernel)
set_option maxRecDepth 100000 in
theorem wd_1569 : Cond.instanceMethod ⟨"CapitalCaseModel", "takesLetters", "()V"⟩ ∈ xTB := xw 1569 (by decide +kernel) (by decide +kernel)
set_option maxRecDepth 100000 in
theorem wd_1570 : Cond.code ⟨"CapitalCaseModel", "takesLetters", "()V"⟩ prog_14_method_30_code 4 none ∈ xTB := xw 1570 (rfl) (by decide +kernel)
set_option maxRecDepth 100000 in
theorem wd_1571 : Cond.methodLink "CapitalCaseModel" 280 ⟨"CapitalCaseModel", "lettersIn", "(J)I"⟩ ∈ xTB := xw 1571 (by decide +kernel) (by decide +kernel)
set_option maxRecDepth 100000 in
theorem wd_1572 : Cond.static ⟨"CapitalCaseModel", "lettersIn", "(J)I"⟩ ∈ xTB := xw 1572 (by decide +kernel) (by decide +kernel)
set_option maxRecDepth 100000 in
theorem wd_1573 : Cond.code ⟨"CapitalCaseModel", "lettersIn", "(J)I"⟩ prog_14_method_28_code 5 (some .int) ∈ xTB := xw 1573 (rfl) (by decide +kernel)
set_option maxRecDepth 100000 in
theorem wd_1574 : Cond.methodLink "CapitalCaseModel" 287 ⟨"CapitalCaseModel", "letterIn", "(JI)I"⟩ ∈ xTB := xw 1574 (by decide +kernel) (by decide +kernel)
set_option maxRecDepth 100000 in
theorem wd_1575 : Cond.static ⟨"CapitalCaseModel", "letterIn", "(JI)I"⟩ ∈ xTB := xw 1575 (by decide +kernel) (by decide +kernel)
set_option maxRecDepth 100000 in
theorem wd_1576 : Cond.code ⟨"CapitalCaseModel", "letterIn", "(JI)I"⟩ prog_14_method_29_code 6 (some .int) ∈ xTB := xw 1576 (rfl) (by decide +kernel)
set_option maxRecDepth 100000 in
theorem wd_1577 : Cond.methodLink "CapitalCaseModel" 298 ⟨"CapitalCaseModel", "ends", "(I)V"⟩ ∈ xTB := xw 1577 (by decide +kernel) (by decide +kernel)
set_option maxRecDepth 100000 in
theorem wd_1579 : Cond.instanceMethod ⟨"CapitalCaseModel", "ends", "(I)V"⟩ ∈ xTB := xw 1579 (by decide +kernel) (by decide +kernel)
set_option maxRecDepth 100000 in
theorem wd_1580 : Cond.code ⟨"CapitalCaseModel", "ends", "(I)V"⟩ prog_14_method_26_code 2 none ∈ xTB := xw 1580 (rfl) (by decide +kernel)
set_option maxRecDepth 100000 in
theorem wd_1581 : Cond.methodLink "CapitalCaseModel" 268 ⟨"CapitalCaseModel", "tellVerse", "()V"⟩ ∈ xTB := xw 1581 (by decide +kernel) (by decide +kernel)
set_option maxRecDepth 100000 in
theorem wd_1583 : Cond.instanceMethod ⟨"CapitalCaseModel", "tellVerse", "()V"⟩ ∈ xTB := xw 1583 (by decide +kernel) (by decide +kernel)
set_option maxRecDepth 100000 in
theorem wd_1584 : Cond.code ⟨"CapitalCaseModel", "tellVerse", "()V"⟩ prog_14_method_32_code 4 none ∈ xTB := xw 1584 (rfl) (by decide +kernel)
set_option maxRecDepth 100000 in
theorem wd_1585 : Cond.methodLink "CapitalCaseModel" 254 ⟨"CapitalCaseModel", "bounded", "(II)I"⟩ ∈ xTB := xw 1585 (by decide +kernel) (by decide +kernel)
set_option maxRecDepth 100000 in
theorem wd_1587 : Cond.instanceMethod ⟨"CapitalCaseModel", "bounded", "(II)I"⟩ ∈ xTB := xw 1587 (by decide +kernel) (by decide +kernel)
set_option maxRecDepth 100000 in
theorem wd_1588 : Cond.code ⟨"CapitalCaseModel", "bounded", "(II)I"⟩ prog_14_method_27_code 4 (some .int) ∈ xTB := xw 1588 (rfl) (by decide +kernel)
set_option maxRecDepth 100000 in
theorem wd_1589 : Cond.methodLink "CapitalCaseModel" 271 ⟨"CapitalCaseModel", "toldInt", "(II)I"⟩ ∈ xTB := xw 1589 (by decide +kernel) (by decide +kernel)
set_option maxRecDepth 100000 in
theorem wd_1591 : Cond.instanceMethod ⟨"CapitalCaseModel", "toldInt", "(II)I"⟩ ∈ xTB := xw 1591 (by decide +kernel) (by decide +kernel)
set_option maxRecDepth 100000 in
theorem wd_1592 : Cond.code ⟨"CapitalCaseModel", "toldInt", "(II)I"⟩ prog_14_method_23_code 4 (some .int) ∈ xTB := xw 1592 (rfl) (by decide +kernel)
set_option maxRecDepth 100000 in
theorem wd_1593 : Cond.methodLink "CapitalCaseModel" 274 ⟨"CapitalCaseModel", "tellLaw", "(I)V"⟩ ∈ xTB := xw 1593 (by decide +kernel) (by decide +kernel)
set_option maxRecDepth 100000 in
theorem wd_1595 : Cond.instanceMethod ⟨"CapitalCaseModel", "tellLaw", "(I)V"⟩ ∈ xTB := xw 1595 (by decide +kernel) (by decide +kernel)
set_option maxRecDepth 100000 in
theorem wd_1596 : Cond.code ⟨"CapitalCaseModel", "tellLaw", "(I)V"⟩ prog_14_method_33_code 4 none ∈ xTB := xw 1596 (rfl) (by decide +kernel)
set_option maxRecDepth 100000 in
theorem wd_1597 : Cond.methodLink "CapitalCaseModel" 301 ⟨"CapitalCaseModel", "expression", "()V"⟩ ∈ xTB := xw 1597 (by decide +kernel) (by decide +kernel)
set_option maxRecDepth 100000 in
theorem wd_1599 : Cond.instanceMethod ⟨"CapitalCaseModel", "expression", "()V"⟩ ∈ xTB := xw 1599 (by decide +kernel) (by decide +kernel)
set_option maxRecDepth 100000 in
theorem wd_1600 : Cond.code ⟨"CapitalCaseModel", "expression", "()V"⟩ prog_14_method_37_code 3 none ∈ xTB := xw 1600 (rfl) (by decide +kernel)
set_option maxRecDepth 100000 in
theorem wd_1601 : Cond.methodLink "CapitalCaseModel" 313 ⟨"CapitalCaseModel", "unit", "()V"⟩ ∈ xTB := xw 1601 (by decide +kernel) (by decide +kernel)
set_option maxRecDepth 100000 in
theorem wd_1603 : Cond.instanceMethod ⟨"CapitalCaseModel", "unit", "()V"⟩ ∈ xTB := xw 1603 (by decide +kernel) (by decide +kernel)
set_option maxRecDepth 100000 in
theorem wd_1604 : Cond.code ⟨"CapitalCaseModel", "unit", "()V"⟩ prog_14_method_38_code 1 none ∈ xTB := xw 1604 (rfl) (by decide +kernel)
set_option maxRecDepth 100000 in
theorem wd_1605 : Cond.methodLink "CapitalCaseModel" 310 ⟨"CapitalCaseModel", "emit", "(II)V"⟩ ∈ xTB := xw 1605 (by decide +kernel) (by decide +kernel)
set_option maxRecDepth 100000 in
theorem wd_1607 : Cond.instanceMethod ⟨"CapitalCaseModel", "emit", "(II)V"⟩ ∈ xTB := xw 1607 (by decide +kernel) (by decide +kernel)
set_option maxRecDepth 100000 in
theorem wd_1608 : Cond.code ⟨"CapitalCaseModel", "emit", "(II)V"⟩ prog_14_method_35_code 3 none ∈ xTB := xw 1608 (rfl) (by decide +kernel)
set_option maxRecDepth 100000 in
theorem wd_1609 : Cond.methodLink "CapitalCaseModel" 316 ⟨"CapitalCaseModel", "comesOut", "(Z)V"⟩ ∈ xTB := xw 1609 (by decide +kernel) (by decide +kernel)
set_option maxRecDepth 100000 in
theorem wd_1611 : Cond.instanceMethod ⟨"CapitalCaseModel", "comesOut", "(Z)V"⟩ ∈ xTB := xw 1611 (by decide +kernel) (by decide +kernel)
set_option maxRecDepth 100000 in
theorem wd_1612 : Cond.code ⟨"CapitalCaseModel", "comesOut", "(Z)V"⟩ prog_14_method_36_code 3 none ∈ xTB := xw 1612 (rfl) (by decide +kernel)
set_option maxRecDepth 100000 in
theorem wd_1613 : Cond.methodLink "CapitalCaseModel" 304 ⟨"CapitalCaseModel", "term", "()V"⟩ ∈ xTB := xw 1613 (by decide +kernel) (by decide +kernel)
set_option maxRecDepth 100000 in
theorem wd_1615 : Cond.instanceMethod ⟨"CapitalCaseModel", "term", "()V"⟩ ∈ xTB := xw 1615 (by decide +kernel) (by decide +kernel)
set_option maxRecDepth 100000 in
theorem wd_1616 : Cond.code ⟨"CapitalCaseModel", "term", "()V"⟩ prog_14_method_34_code 1 none ∈ xTB := xw 1616 (rfl) (by decide +kernel)
set_option maxRecDepth 100000 in
theorem wd_1620 : Cond.code ⟨"CapitalCaseModel", "place", "()I"⟩ prog_14_method_21_code 1 (some .int) ∈ xTB := xw 1620 (rfl) (by decide +kernel)
set_option maxRecDepth 100000 in
theorem wd_1624 : Cond.code ⟨"CapitalCaseModel", "house", "(III)I"⟩ prog_14_method_72_code 5 (some .int) ∈ xTB := xw 1624 (rfl) (by decide +kernel)
set_option maxRecDepth 100000 in
theorem wd_1625 : Cond.methodLink "CapitalCaseModel" 405 ⟨"CapitalCaseModel", "isHouse", "(I)Z"⟩ ∈ xTB := xw 1625 (by decide +kernel) (by decide +kernel)
set_option maxRecDepth 100000 in
theorem wd_1627 : Cond.instanceMethod ⟨"CapitalCaseModel", "isHouse", "(I)Z"⟩ ∈ xTB := xw 1627 (by decide +kernel) (by decide +kernel)
set_option maxRecDepth 100000 in
theorem wd_1628 : Cond.code ⟨"CapitalCaseModel", "isHouse", "(I)Z"⟩ prog_14_method_43_code 2 (some .boolean) ∈ xTB := xw 1628 (rfl) (by decide +kernel)
set_option maxRecDepth 100000 in
theorem wd_1629 : Cond.methodLink "CapitalCaseModel" 324 ⟨"CapitalCaseModel", "in", "(III)Z"⟩ ∈ xTB := xw 1629 (by decide +kernel) (by decide +kernel)
set_option maxRecDepth 100000 in
theorem wd_1630 : Cond.static ⟨"CapitalCaseModel", "in", "(III)Z"⟩ ∈ xTB := xw 1630 (by decide +kernel) (by decide +kernel)
set_option maxRecDepth 100000 in
theorem wd_1631 : Cond.code ⟨"CapitalCaseModel", "in", "(III)Z"⟩ prog_14_method_40_code 3 (some .boolean) ∈ xTB := xw 1631 (rfl) (by decide +kernel)
set_option maxRecDepth 100000 in
theorem wd_1632 : Cond.methodLink "CapitalCaseModel" 408 ⟨"CapitalCaseModel", "isSort", "(I)Z"⟩ ∈ xTB := xw 1632 (by decide +kernel) (by decide +kernel)
set_option maxRecDepth 100000 in
theorem wd_1633 : Cond.static ⟨"CapitalCaseModel", "isSort", "(I)Z"⟩ ∈ xTB := xw 1633 (by decide +kernel) (by decide +kernel)
set_option maxRecDepth 100000 in
theorem wd_1634 : Cond.code ⟨"CapitalCaseModel", "isSort", "(I)Z"⟩ prog_14_method_44_code 1 (some .boolean) ∈ xTB := xw 1634 (rfl) (by decide +kernel)
set_option maxRecDepth 100000 in
theorem wd_1635 : Cond.methodLink "CapitalCaseModel" 411 ⟨"CapitalCaseModel", "copies", "()V"⟩ ∈ xTB := xw 1635 (by decide +kernel) (by decide +kernel)
set_option maxRecDepth 100000 in
theorem wd_1637 : Cond.instanceMethod ⟨"CapitalCaseModel", "copies", "()V"⟩ ∈ xTB := xw 1637 (by decide +kernel) (by decide +kernel)
set_option maxRecDepth 100000 in
theorem wd_1638 : Cond.code ⟨"CapitalCaseModel", "copies", "()V"⟩ prog_14_method_48_code 2 none ∈ xTB := xw 1638 (rfl) (by decide +kernel)
set_option maxRecDepth 100000 in
theorem wd_1639 : Cond.methodLink "CapitalCaseModel" 368 ⟨"CapitalCaseModel", "freeOf", "(II)I"⟩ ∈ xTB := xw 1639 (by decide +kernel) (by decide +kernel)
set_option maxRecDepth 100000 in
theorem wd_1641 : Cond.instanceMethod ⟨"CapitalCaseModel", "freeOf", "(II)I"⟩ ∈ xTB := xw 1641 (by decide +kernel) (by decide +kernel)
set_option maxRecDepth 100000 in
theorem wd_1642 : Cond.code ⟨"CapitalCaseModel", "freeOf", "(II)I"⟩ prog_14_method_54_code 4 (some .int) ∈ xTB := xw 1642 (rfl) (by decide +kernel)
set_option maxRecDepth 100000 in
theorem wd_1643 : Cond.methodLink "CapitalCaseModel" 347 ⟨"CapitalCaseModel", "lentOut", "(II)I"⟩ ∈ xTB := xw 1643 (by decide +kernel) (by decide +kernel)
set_option maxRecDepth 100000 in
theorem wd_1645 : Cond.instanceMethod ⟨"CapitalCaseModel", "lentOut", "(II)I"⟩ ∈ xTB := xw 1645 (by decide +kernel) (by decide +kernel)
set_option maxRecDepth 100000 in
theorem wd_1646 : Cond.code ⟨"CapitalCaseModel", "lentOut", "(II)I"⟩ prog_14_method_52_code 5 (some .int) ∈ xTB := xw 1646 (rfl) (by decide +kernel)
set_option maxRecDepth 100000 in
theorem wd_1647 : Cond.methodLink "CapitalCaseModel" 414 ⟨"CapitalCaseModel", "lentTo", "(II)I"⟩ ∈ xTB := xw 1647 (by decide +kernel) (by decide +kernel)
set_option maxRecDepth 100000 in
theorem wd_1649 : Cond.instanceMethod ⟨"CapitalCaseModel", "lentTo", "(II)I"⟩ ∈ xTB := xw 1649 (by decide +kernel) (by decide +kernel)
set_option maxRecDepth 100000 in
theorem wd_1650 : Cond.code ⟨"CapitalCaseModel", "lentTo", "(II)I"⟩ prog_14_method_53_code 5 (some .int) ∈ xTB := xw 1650 (rfl) (by decide +kernel)
set_option maxRecDepth 100000 in
theorem wd_1651 : Cond.methodLink "CapitalCaseModel" 389 ⟨"CapitalCaseModel", "wearsOf", "(II)I"⟩ ∈ xTB := xw 1651 (by decide +kernel) (by decide +kernel)
set_option maxRecDepth 100000 in
theorem wd_1653 : Cond.instanceMethod ⟨"CapitalCaseModel", "wearsOf", "(II)I"⟩ ∈ xTB := xw 1653 (by decide +kernel) (by decide +kernel)
set_option maxRecDepth 100000 in
theorem wd_1654 : Cond.code ⟨"CapitalCaseModel", "wearsOf", "(II)I"⟩ prog_14_method_61_code 3 (some .int) ∈ xTB := xw 1654 (rfl) (by decide +kernel)
set_option maxRecDepth 100000 in
theorem wd_1655 : Cond.methodLink "CapitalCaseModel" 353 ⟨"CapitalCaseModel", "looksAt", "(II)V"⟩ ∈ xTB := xw 1655 (by decide +kernel) (by decide +kernel)
set_option maxRecDepth 100000 in
theorem wd_1657 : Cond.instanceMethod ⟨"CapitalCaseModel", "looksAt", "(II)V"⟩ ∈ xTB := xw 1657 (by decide +kernel) (by decide +kernel)
set_option maxRecDepth 100000 in
theorem wd_1658 : Cond.code ⟨"CapitalCaseModel", "looksAt", "(II)V"⟩ prog_14_method_56_code 3 none ∈ xTB := xw 1658 (rfl) (by decide +kernel)
set_option maxRecDepth 100000 in
theorem wd_1659 : Cond.methodLink "CapitalCaseModel" 344 ⟨"CapitalCaseModel", "looks", "()V"⟩ ∈ xTB := xw 1659 (by decide +kernel) (by decide +kernel)
set_option maxRecDepth 100000 in
theorem wd_1661 : Cond.instanceMethod ⟨"CapitalCaseModel", "looks", "()V"⟩ ∈ xTB := xw 1661 (by decide +kernel) (by decide +kernel)
set_option maxRecDepth 100000 in
theorem wd_1662 : Cond.code ⟨"CapitalCaseModel", "looks", "()V"⟩ prog_14_method_55_code 2 none ∈ xTB := xw 1662 (rfl) (by decide +kernel)
set_option maxRecDepth 100000 in
theorem wd_1663 : Cond.methodLink "CapitalCaseModel" 359 ⟨"CapitalCaseModel", "lawTells", "(II)I"⟩ ∈ xTB := xw 1663 (by decide +kernel) (by decide +kernel)
set_option maxRecDepth 100000 in
theorem wd_1665 : Cond.instanceMethod ⟨"CapitalCaseModel", "lawTells", "(II)I"⟩ ∈ xTB := xw 1665 (by decide +kernel) (by decide +kernel)
set_option maxRecDepth 100000 in
theorem wd_1666 : Cond.code ⟨"CapitalCaseModel", "lawTells", "(II)I"⟩ prog_14_method_58_code 7 (some .int) ∈ xTB := xw 1666 (rfl) (by decide +kernel)
set_option maxRecDepth 100000 in
theorem wd_1667 : Cond.methodLink "CapitalCaseModel" 350 ⟨"CapitalCaseModel", "termOf", "(II)I"⟩ ∈ xTB := xw 1667 (by decide +kernel) (by decide +kernel)
set_option maxRecDepth 100000 in
theorem wd_1669 : Cond.instanceMethod ⟨"CapitalCaseModel", "termOf", "(II)I"⟩ ∈ xTB := xw 1669 (by decide +kernel) (by decide +kernel)
set_option maxRecDepth 100000 in
theorem wd_1670 : Cond.code ⟨"CapitalCaseModel", "termOf", "(II)I"⟩ prog_14_method_39_code 8 (some .int) ∈ xTB := xw 1670 (rfl) (by decide +kernel)
set_option maxRecDepth 100000 in
theorem wd_1671 : Cond.methodLink "CapitalCaseModel" 362 ⟨"CapitalCaseModel", "held", "(III)I"⟩ ∈ xTB := xw 1671 (by decide +kernel) (by decide +kernel)
set_option maxRecDepth 100000 in
theorem wd_1672 : Cond.static ⟨"CapitalCaseModel", "held", "(III)I"⟩ ∈ xTB := xw 1672 (by decide +kernel) (by decide +kernel)
set_option maxRecDepth 100000 in
theorem wd_1673 : Cond.code ⟨"CapitalCaseModel", "held", "(III)I"⟩ prog_14_method_41_code 3 (some .int) ∈ xTB := xw 1673 (rfl) (by decide +kernel)
set_option maxRecDepth 100000 in
theorem wd_1677 : Cond.code ⟨"CapitalCaseModel", "verse", "(II)I"⟩ prog_14_method_73_code 3 (some .int) ∈ xTB := xw 1677 (rfl) (by decide +kernel)
set_option maxRecDepth 100000 in
theorem wd_1678 : Cond.methodLink "CapitalCaseModel" 417 ⟨"CapitalCaseModel", "isVerse", "(I)Z"⟩ ∈ xTB := xw 1678 (by decide +kernel) (by decide +kernel)
set_option maxRecDepth 100000 in
theorem wd_1680 : Cond.instanceMethod ⟨"CapitalCaseModel", "isVerse", "(I)Z"⟩ ∈ xTB := xw 1680 (by decide +kernel) (by decide +kernel)
set_option maxRecDepth 100000 in
theorem wd_1681 : Cond.code ⟨"CapitalCaseModel", "isVerse", "(I)Z"⟩ prog_14_method_45_code 2 (some .boolean) ∈ xTB := xw 1681 (rfl) (by decide +kernel)
set_option maxRecDepth 100000 in
theorem wd_1682 : Cond.methodLink "CapitalCaseModel" 386 ⟨"CapitalCaseModel", "paysOf", "(I)I"⟩ ∈ xTB := xw 1682 (by decide +kernel) (by decide +kernel)
set_option maxRecDepth 100000 in
theorem wd_1684 : Cond.instanceMethod ⟨"CapitalCaseModel", "paysOf", "(I)I"⟩ ∈ xTB := xw 1684 (by decide +kernel) (by decide +kernel)
set_option maxRecDepth 100000 in
theorem wd_1685 : Cond.code ⟨"CapitalCaseModel", "paysOf", "(I)I"⟩ prog_14_method_62_code 2 (some .int) ∈ xTB := xw 1685 (rfl) (by decide +kernel)
set_option maxRecDepth 100000 in
theorem wd_1686 : Cond.methodLink "CapitalCaseModel" 356 ⟨"CapitalCaseModel", "looksFor", "(I)V"⟩ ∈ xTB := xw 1686 (by decide +kernel) (by decide +kernel)
set_option maxRecDepth 100000 in
theorem wd_1688 : Cond.instanceMethod ⟨"CapitalCaseModel", "looksFor", "(I)V"⟩ ∈ xTB := xw 1688 (by decide +kernel) (by decide +kernel)
set_option maxRecDepth 100000 in
theorem wd_1689 : Cond.code ⟨"CapitalCaseModel", "looksFor", "(I)V"⟩ prog_14_method_57_code 2 none ∈ xTB := xw 1689 (rfl) (by decide +kernel)
set_option maxRecDepth 100000 in
theorem wd_1693 : Cond.code ⟨"CapitalCaseModel", "wants", "(II)I"⟩ prog_14_method_74_code 3 (some .int) ∈ xTB := xw 1693 (rfl) (by decide +kernel)
set_option maxRecDepth 100000 in
theorem wd_1697 : Cond.code ⟨"CapitalCaseModel", "tells", "(IIII)I"⟩ prog_14_method_75_code 5 (some .int) ∈ xTB := xw 1697 (rfl) (by decide +kernel)
set_option maxRecDepth 100000 in
theorem wd_1698 : Cond.constant "CapitalCaseModel" 420 (-1000000000) ∈ xTB := xw 1698 (by decide +kernel) (by decide +kernel)
set_option maxRecDepth 100000 in
theorem wd_1699 : Cond.methodLink "CapitalCaseModel" 374 ⟨"CapitalCaseModel", "rankOf", "(III)I"⟩ ∈ xTB := xw 1699 (by decide +kernel) (by decide +kernel)
set_option maxRecDepth 100000 in
theorem wd_1701 : Cond.instanceMethod ⟨"CapitalCaseModel", "rankOf", "(III)I"⟩ ∈ xTB := xw 1701 (by decide +kernel) (by decide +kernel)
set_option maxRecDepth 100000 in
theorem wd_1702 : Cond.code ⟨"CapitalCaseModel", "rankOf", "(III)I"⟩ prog_14_method_60_code 4 (some .int) ∈ xTB := xw 1702 (rfl) (by decide +kernel)
set_option maxRecDepth 100000 in
theorem wd_1703 : Cond.methodLink "CapitalCaseModel" 371 ⟨"CapitalCaseModel", "givesLeave", "(III)Z"⟩ ∈ xTB := xw 1703 (by decide +kernel) (by decide +kernel)
set_option maxRecDepth 100000 in
theorem wd_1705 : Cond.instanceMethod ⟨"CapitalCaseModel", "givesLeave", "(III)Z"⟩ ∈ xTB := xw 1705 (by decide +kernel) (by decide +kernel)
set_option maxRecDepth 100000 in
theorem wd_1706 : Cond.code ⟨"CapitalCaseModel", "givesLeave", "(III)Z"⟩ prog_14_method_59_code 4 (some .boolean) ∈ xTB := xw 1706 (rfl) (by decide +kernel)
set_option maxRecDepth 100000 in
theorem wd_1710 : Cond.code ⟨"CapitalCaseModel", "set", "(I)Z"⟩ prog_14_method_77_code 2 (some .boolean) ∈ xTB := xw 1710 (rfl) (by decide +kernel)
set_option maxRecDepth 100000 in
theorem wd_1711 : Cond.methodLink "CapitalCaseModel" 383 ⟨"CapitalCaseModel", "isOpen", "(I)Z"⟩ ∈ xTB := xw 1711 (by decide +kernel) (by decide +kernel)
set_option maxRecDepth 100000 in
theorem wd_1713 : Cond.instanceMethod ⟨"CapitalCaseModel", "isOpen", "(I)Z"⟩ ∈ xTB := xw 1713 (by decide +kernel) (by decide +kernel)
set_option maxRecDepth 100000 in
theorem wd_1714 : Cond.code ⟨"CapitalCaseModel", "isOpen", "(I)Z"⟩ prog_14_method_66_code 2 (some .boolean) ∈ xTB := xw 1714 (rfl) (by decide +kernel)
set_option maxRecDepth 100000 in
theorem wd_1715 : Cond.methodLink "CapitalCaseModel" 421 ⟨"CapitalCaseModel", "sets", "(I)Z"⟩ ∈ xTB := xw 1715 (by decide +kernel) (by decide +kernel)
set_option maxRecDepth 100000 in
theorem wd_1717 : Cond.instanceMethod ⟨"CapitalCaseModel", "sets", "(I)Z"⟩ ∈ xTB := xw 1717 (by decide +kernel) (by decide +kernel)
set_option maxRecDepth 100000 in
theorem wd_1718 : Cond.code ⟨"CapitalCaseModel", "sets", "(I)Z"⟩ prog_14_method_65_code 5 (some .boolean) ∈ xTB := xw 1718 (rfl) (by decide +kernel)
set_option maxRecDepth 100000 in
theorem wd_1719 : Cond.methodLink "CapitalCaseModel" 377 ⟨"CapitalCaseModel", "giverOf", "(II)I"⟩ ∈ xTB := xw 1719 (by decide +kernel) (by decide +kernel)
set_option maxRecDepth 100000 in
theorem wd_1721 : Cond.instanceMethod ⟨"CapitalCaseModel", "giverOf", "(II)I"⟩ ∈ xTB := xw 1721 (by decide +kernel) (by decide +kernel)
set_option maxRecDepth 100000 in
theorem wd_1722 : Cond.code ⟨"CapitalCaseModel", "giverOf", "(II)I"⟩ prog_14_method_63_code 7 (some .int) ∈ xTB := xw 1722 (rfl) (by decide +kernel)
set_option maxRecDepth 100000 in
theorem wd_1723 : Cond.methodLink "CapitalCaseModel" 380 ⟨"CapitalCaseModel", "clears", "(I)V"⟩ ∈ xTB := xw 1723 (by decide +kernel) (by decide +kernel)
set_option maxRecDepth 100000 in
theorem wd_1725 : Cond.instanceMethod ⟨"CapitalCaseModel", "clears", "(I)V"⟩ ∈ xTB := xw 1725 (by decide +kernel) (by decide +kernel)
set_option maxRecDepth 100000 in
theorem wd_1726 : Cond.code ⟨"CapitalCaseModel", "clears", "(I)V"⟩ prog_14_method_64_code 3 none ∈ xTB := xw 1726 (rfl) (by decide +kernel)
set_option maxRecDepth 100000 in
theorem wd_1727 : Cond.methodLink "CapitalCaseModel" 424 ⟨"CapitalCaseModel", "records", "()V"⟩ ∈ xTB := xw 1727 (by decide +kernel) (by decide +kernel)
set_option maxRecDepth 100000 in
theorem wd_1729 : Cond.instanceMethod ⟨"CapitalCaseModel", "records", "()V"⟩ ∈ xTB := xw 1729 (by decide +kernel) (by decide +kernel)
set_option maxRecDepth 100000 in
theorem wd_1730 : Cond.code ⟨"CapitalCaseModel", "records", "()V"⟩ prog_14_method_76_code 2 none ∈ xTB := xw 1730 (rfl) (by decide +kernel)
set_option maxRecDepth 100000 in
theorem wd_1734 : Cond.code ⟨"CapitalCaseModel", "clear", "(I)Z"⟩ prog_14_method_78_code 2 (some .boolean) ∈ xTB := xw 1734 (rfl) (by decide +kernel)
set_option maxRecDepth 100000 in
theorem wd_1738 : Cond.code ⟨"CapitalCaseModel", "lend", "(III)Z"⟩ prog_14_method_80_code 4 (some .boolean) ∈ xTB := xw 1738 (rfl) (by decide +kernel)
set_option maxRecDepth 100000 in
theorem wd_1739 : Cond.methodLink "CapitalCaseModel" 427 ⟨"CapitalCaseModel", "areTwo", "(III)Z"⟩ ∈ xTB := xw 1739 (by decide +kernel) (by decide +kernel)
set_option maxRecDepth 100000 in
theorem wd_1741 : Cond.instanceMethod ⟨"CapitalCaseModel", "areTwo", "(III)Z"⟩ ∈ xTB := xw 1741 (by decide +kernel) (by decide +kernel)
set_option maxRecDepth 100000 in
theorem wd_1742 : Cond.code ⟨"CapitalCaseModel", "areTwo", "(III)Z"⟩ prog_14_method_79_code 4 (some .boolean) ∈ xTB := xw 1742 (rfl) (by decide +kernel)
set_option maxRecDepth 100000 in
theorem wd_1746 : Cond.code ⟨"CapitalCaseModel", "giveBack", "(III)Z"⟩ prog_14_method_81_code 5 (some .boolean) ∈ xTB := xw 1746 (rfl) (by decide +kernel)
set_option maxRecDepth 100000 in
theorem wd_1750 : Cond.code ⟨"CapitalCaseModel", "days", "(I)I"⟩ prog_14_method_82_code 2 (some .int) ∈ xTB := xw 1750 (rfl) (by decide +kernel)
set_option maxRecDepth 100000 in
theorem wd_1751 : Cond.methodLink "CapitalCaseModel" 430 ⟨"CapitalCaseModel", "isLong", "(I)Z"⟩ ∈ xTB := xw 1751 (by decide +kernel) (by decide +kernel)
set_option maxRecDepth 100000 in
theorem wd_1752 : Cond.static ⟨"CapitalCaseModel", "isLong", "(I)Z"⟩ ∈ xTB := xw 1752 (by decide +kernel) (by decide +kernel)
set_option maxRecDepth 100000 in
theorem wd_1753 : Cond.code ⟨"CapitalCaseModel", "isLong", "(I)Z"⟩ prog_14_method_101_code 1 (some .boolean) ∈ xTB := xw 1753 (rfl) (by decide +kernel)
set_option maxRecDepth 100000 in
theorem wd_1754 : Cond.methodLink "CapitalCaseModel" 433 ⟨"CapitalCaseModel", "goes", "(I)V"⟩ ∈ xTB := xw 1754 (by decide +kernel) (by decide +kernel)
set_option maxRecDepth 100000 in
theorem wd_1756 : Cond.instanceMethod ⟨"CapitalCaseModel", "goes", "(I)V"⟩ ∈ xTB := xw 1756 (by decide +kernel) (by decide +kernel)
set_option maxRecDepth 100000 in
theorem wd_1757 : Cond.code ⟨"CapitalCaseModel", "goes", "(I)V"⟩ prog_14_method_71_code 3 none ∈ xTB := xw 1757 (rfl) (by decide +kernel)
set_option maxRecDepth 100000 in
theorem wd_1758 : Cond.methodLink "CapitalCaseModel" 402 ⟨"CapitalCaseModel", "dayGoes", "()V"⟩ ∈ xTB := xw 1758 (by decide +kernel) (by decide +kernel)
set_option maxRecDepth 100000 in
theorem wd_1760 : Cond.instanceMethod ⟨"CapitalCaseModel", "dayGoes", "()V"⟩ ∈ xTB := xw 1760 (by decide +kernel) (by decide +kernel)
set_option maxRecDepth 100000 in
theorem wd_1761 : Cond.code ⟨"CapitalCaseModel", "dayGoes", "()V"⟩ prog_14_method_70_code 2 none ∈ xTB := xw 1761 (rfl) (by decide +kernel)
set_option maxRecDepth 100000 in
theorem wd_1762 : Cond.methodLink "CapitalCaseModel" 392 ⟨"CapitalCaseModel", "wears", "(I)V"⟩ ∈ xTB := xw 1762 (by decide +kernel) (by decide +kernel)
set_option maxRecDepth 100000 in
theorem wd_1764 : Cond.instanceMethod ⟨"CapitalCaseModel", "wears", "(I)V"⟩ ∈ xTB := xw 1764 (by decide +kernel) (by decide +kernel)
set_option maxRecDepth 100000 in
theorem wd_1765 : Cond.code ⟨"CapitalCaseModel", "wears", "(I)V"⟩ prog_14_method_68_code 2 none ∈ xTB := xw 1765 (rfl) (by decide +kernel)
set_option maxRecDepth 100000 in
theorem wd_1766 : Cond.methodLink "CapitalCaseModel" 395 ⟨"CapitalCaseModel", "areThieves", "()Z"⟩ ∈ xTB := xw 1766 (by decide +kernel) (by decide +kernel)
set_option maxRecDepth 100000 in
theorem wd_1768 : Cond.instanceMethod ⟨"CapitalCaseModel", "areThieves", "()Z"⟩ ∈ xTB := xw 1768 (by decide +kernel) (by decide +kernel)
set_option maxRecDepth 100000 in
theorem wd_1769 : Cond.code ⟨"CapitalCaseModel", "areThieves", "()Z"⟩ prog_14_method_51_code 1 (some .boolean) ∈ xTB := xw 1769 (rfl) (by decide +kernel)
set_option maxRecDepth 100000 in
theorem wd_1770 : Cond.methodLink "CapitalCaseModel" 341 ⟨"CapitalCaseModel", "lotOf", "(II)I"⟩ ∈ xTB := xw 1770 (by decide +kernel) (by decide +kernel)
set_option maxRecDepth 100000 in
theorem wd_1772 : Cond.instanceMethod ⟨"CapitalCaseModel", "lotOf", "(II)I"⟩ ∈ xTB := xw 1772 (by decide +kernel) (by decide +kernel)
set_option maxRecDepth 100000 in
theorem wd_1773 : Cond.code ⟨"CapitalCaseModel", "lotOf", "(II)I"⟩ prog_14_method_50_code 3 (some .int) ∈ xTB := xw 1773 (rfl) (by decide +kernel)
set_option maxRecDepth 100000 in
theorem wd_1774 : Cond.methodLink "CapitalCaseModel" 338 ⟨"CapitalCaseModel", "mixed", "(II)I"⟩ ∈ xTB := xw 1774 (by decide +kernel) (by decide +kernel)
set_option maxRecDepth 100000 in
theorem wd_1775 : Cond.static ⟨"CapitalCaseModel", "mixed", "(II)I"⟩ ∈ xTB := xw 1775 (by decide +kernel) (by decide +kernel)
set_option maxRecDepth 100000 in
theorem wd_1776 : Cond.code ⟨"CapitalCaseModel", "mixed", "(II)I"⟩ prog_14_method_49_code 3 (some .int) ∈ xTB := xw 1776 (rfl) (by decide +kernel)
set_option maxRecDepth 100000 in
theorem wd_1777 : Cond.constant "CapitalCaseModel" 337 1103515245 ∈ xTB := xw 1777 (by decide +kernel) (by decide +kernel)
set_option maxRecDepth 100000 in
theorem wd_1778 : Cond.methodLink "CapitalCaseModel" 399 ⟨"CapitalCaseModel", "thievesCome", "()V"⟩ ∈ xTB := xw 1778 (by decide +kernel) (by decide +kernel)
set_option maxRecDepth 100000 in
theorem wd_1780 : Cond.instanceMethod ⟨"CapitalCaseModel", "thievesCome", "()V"⟩ ∈ xTB := xw 1780 (by decide +kernel) (by decide +kernel)
set_option maxRecDepth 100000 in
theorem wd_1781 : Cond.code ⟨"CapitalCaseModel", "thievesCome", "()V"⟩ prog_14_method_69_code 4 none ∈ xTB := xw 1781 (rfl) (by decide +kernel)
set_option maxRecDepth 100000 in
theorem wd_1785 : Cond.code ⟨"CapitalCaseModel", "undo", "()Z"⟩ prog_14_method_83_code 2 (some .boolean) ∈ xTB := xw 1785 (rfl) (by decide +kernel)
set_option maxRecDepth 100000 in
theorem wd_1789 : Cond.code ⟨"CapitalCaseModel", "from", "(II)I"⟩ prog_14_method_84_code 3 (some .int) ∈ xTB := xw 1789 (rfl) (by decide +kernel)
set_option maxRecDepth 100000 in
theorem wd_1793 : Cond.code ⟨"CapitalCaseModel", "best", "(I)I"⟩ prog_14_method_88_code 2 (some .int) ∈ xTB := xw 1793 (rfl) (by decide +kernel)
set_option maxRecDepth 100000 in
theorem wd_1794 : Cond.methodLink "CapitalCaseModel" 451 ⟨"CapitalCaseModel", "findsBest", "()V"⟩ ∈ xTB := xw 1794 (by decide +kernel) (by decide +kernel)
set_option maxRecDepth 100000 in
theorem wd_1796 : Cond.instanceMethod ⟨"CapitalCaseModel", "findsBest", "()V"⟩ ∈ xTB := xw 1796 (by decide +kernel) (by decide +kernel)
set_option maxRecDepth 100000 in
theorem wd_1797 : Cond.code ⟨"CapitalCaseModel", "findsBest", "()V"⟩ prog_14_method_87_code 5 none ∈ xTB := xw 1797 (rfl) (by decide +kernel)
set_option maxRecDepth 100000 in
theorem wd_1798 : Cond.methodLink "CapitalCaseModel" 436 ⟨"CapitalCaseModel", "openBits", "()I"⟩ ∈ xTB := xw 1798 (by decide +kernel) (by decide +kernel)
set_option maxRecDepth 100000 in
theorem wd_1800 : Cond.instanceMethod ⟨"CapitalCaseModel", "openBits", "()I"⟩ ∈ xTB := xw 1800 (by decide +kernel) (by decide +kernel)
set_option maxRecDepth 100000 in
theorem wd_1801 : Cond.code ⟨"CapitalCaseModel", "openBits", "()I"⟩ prog_14_method_67_code 3 (some .int) ∈ xTB := xw 1801 (rfl) (by decide +kernel)
set_option maxRecDepth 100000 in
theorem wd_1802 : Cond.methodLink "CapitalCaseModel" 439 ⟨"CapitalCaseModel", "keepsAhead", "()V"⟩ ∈ xTB := xw 1802 (by decide +kernel) (by decide +kernel)
set_option maxRecDepth 100000 in
theorem wd_1804 : Cond.instanceMethod ⟨"CapitalCaseModel", "keepsAhead", "()V"⟩ ∈ xTB := xw 1804 (by decide +kernel) (by decide +kernel)
set_option maxRecDepth 100000 in
theorem wd_1805 : Cond.code ⟨"CapitalCaseModel", "keepsAhead", "()V"⟩ prog_14_method_85_code 2 none ∈ xTB := xw 1805 (rfl) (by decide +kernel)
set_option maxRecDepth 100000 in
theorem wd_1806 : Cond.methodLink "CapitalCaseModel" 448 ⟨"CapitalCaseModel", "canSet", "(I)Z"⟩ ∈ xTB := xw 1806 (by decide +kernel) (by decide +kernel)
set_option maxRecDepth 100000 in
theorem wd_1808 : Cond.instanceMethod ⟨"CapitalCaseModel", "canSet", "(I)Z"⟩ ∈ xTB := xw 1808 (by decide +kernel) (by decide +kernel)
set_option maxRecDepth 100000 in
theorem wd_1809 : Cond.code ⟨"CapitalCaseModel", "canSet", "(I)Z"⟩ prog_14_method_86_code 3 (some .boolean) ∈ xTB := xw 1809 (rfl) (by decide +kernel)
set_option maxRecDepth 100000 in
theorem wd_1813 : Cond.code ⟨"CapitalCaseModel", "worth", "(II)I"⟩ prog_14_method_89_code 4 (some .int) ∈ xTB := xw 1813 (rfl) (by decide +kernel)
set_option maxRecDepth 100000 in
theorem wd_1817 : Cond.code ⟨"CapitalCaseModel", "pillar", "(I)I"⟩ prog_14_method_90_code 5 (some .int) ∈ xTB := xw 1817 (rfl) (by decide +kernel)
set_option maxRecDepth 100000 in
theorem wd_1821 : Cond.code ⟨"CapitalCaseModel", "twoDays", "(I)I"⟩ prog_14_method_92_code 7 (some .int) ∈ xTB := xw 1821 (rfl) (by decide +kernel)
set_option maxRecDepth 100000 in
theorem wd_1822 : Cond.methodLink "CapitalCaseModel" 454 ⟨"CapitalCaseModel", "firstDay", "(I)I"⟩ ∈ xTB := xw 1822 (by decide +kernel) (by decide +kernel)
set_option maxRecDepth 100000 in
theorem wd_1824 : Cond.instanceMethod ⟨"CapitalCaseModel", "firstDay", "(I)I"⟩ ∈ xTB := xw 1824 (by decide +kernel) (by decide +kernel)
set_option maxRecDepth 100000 in
theorem wd_1825 : Cond.code ⟨"CapitalCaseModel", "firstDay", "(I)I"⟩ prog_14_method_91_code 3 (some .int) ∈ xTB := xw 1825 (rfl) (by decide +kernel)
set_option maxRecDepth 100000 in
theorem wd_1829 : Cond.code ⟨"CapitalCaseModel", "loans", "(II)I"⟩ prog_14_method_94_code 8 (some .int) ∈ xTB := xw 1829 (rfl) (by decide +kernel)
set_option maxRecDepth 100000 in
theorem wd_1830 : Cond.methodLink "CapitalCaseModel" 457 ⟨"CapitalCaseModel", "needsOf", "(II)I"⟩ ∈ xTB := xw 1830 (by decide +kernel) (by decide +kernel)
set_option maxRecDepth 100000 in
theorem wd_1832 : Cond.instanceMethod ⟨"CapitalCaseModel", "needsOf", "(II)I"⟩ ∈ xTB := xw 1832 (by decide +kernel) (by decide +kernel)
set_option maxRecDepth 100000 in
theorem wd_1833 : Cond.code ⟨"CapitalCaseModel", "needsOf", "(II)I"⟩ prog_14_method_93_code 5 (some .int) ∈ xTB := xw 1833 (rfl) (by decide +kernel)
set_option maxRecDepth 100000 in
theorem wd_1837 : Cond.code ⟨"CapitalCaseModel", "bargains", "(I)I"⟩ prog_14_method_97_code 7 (some .int) ∈ xTB := xw 1837 (rfl) (by decide +kernel)
set_option maxRecDepth 100000 in
theorem wd_1838 : Cond.methodLink "CapitalCaseModel" 463 ⟨"CapitalCaseModel", "isBargain", "(IIII)Z"⟩ ∈ xTB := xw 1838 (by decide +kernel) (by decide +kernel)
set_option maxRecDepth 100000 in
theorem wd_1840 : Cond.instanceMethod ⟨"CapitalCaseModel", "isBargain", "(IIII)Z"⟩ ∈ xTB := xw 1840 (by decide +kernel) (by decide +kernel)
set_option maxRecDepth 100000 in
theorem wd_1841 : Cond.code ⟨"CapitalCaseModel", "isBargain", "(IIII)Z"⟩ prog_14_method_96_code 5 (some .boolean) ∈ xTB := xw 1841 (rfl) (by decide +kernel)
set_option maxRecDepth 100000 in
theorem wd_1842 : Cond.methodLink "CapitalCaseModel" 460 ⟨"CapitalCaseModel", "ownVerses", "(III)I"⟩ ∈ xTB := xw 1842 (by decide +kernel) (by decide +kernel)
set_option maxRecDepth 100000 in
theorem wd_1844 : Cond.instanceMethod ⟨"CapitalCaseModel", "ownVerses", "(III)I"⟩ ∈ xTB := xw 1844 (by decide +kernel) (by decide +kernel)
set_option maxRecDepth 100000 in
theorem wd_1845 : Cond.code ⟨"CapitalCaseModel", "ownVerses", "(III)I"⟩ prog_14_method_95_code 8 (some .int) ∈ xTB := xw 1845 (rfl) (by decide +kernel)
set_option maxRecDepth 100000 in
theorem wd_1849 : Cond.code ⟨"CapitalCaseModel", "strike", "(I)I"⟩ prog_14_method_98_code 5 (some .int) ∈ xTB := xw 1849 (rfl) (by decide +kernel)
set_option maxRecDepth 100000 in
theorem wd_1853 : Cond.code ⟨"CapitalCaseModel", "clash", "(I)I"⟩ prog_14_method_99_code 6 (some .int) ∈ xTB := xw 1853 (rfl) (by decide +kernel)
set_option maxRecDepth 100000 in
theorem wd_1857 : Cond.code ⟨"CapitalCaseModel", "late", "()I"⟩ prog_14_method_100_code 3 (some .int) ∈ xTB := xw 1857 (rfl) (by decide +kernel)
set_option maxRecDepth 100000 in
theorem wd_1861 : Cond.code ⟨"CapitalCaseModel", "wornOut", "(II)I"⟩ prog_14_method_102_code 4 (some .int) ∈ xTB := xw 1861 (rfl) (by decide +kernel)
set_option maxRecDepth 100000 in
theorem wd_1865 : Cond.code ⟨"CapitalCaseModel", "then", "(IIII)I"⟩ prog_14_method_103_code 5 (some .int) ∈ xTB := xw 1865 (rfl) (by decide +kernel)
set_option maxRecDepth 100000 in
theorem wd_1869 : Cond.code ⟨"CapitalCaseModel", "paidIn", "(I)I"⟩ prog_14_method_104_code 2 (some .int) ∈ xTB := xw 1869 (rfl) (by decide +kernel)
set_option maxRecDepth 100000 in
theorem wd_1873 : Cond.code ⟨"CapitalCaseModel", "year", "(IIII)I"⟩ prog_14_method_105_code 7 (some .int) ∈ xTB := xw 1873 (rfl) (by decide +kernel)
set_option maxRecDepth 100000 in
theorem wd_1877 : Cond.code ⟨"CapitalCaseModel", "tell", "(IIZ)I"⟩ prog_14_method_106_code 4 (some .int) ∈ xTB := xw 1877 (rfl) (by decide +kernel)
set_option maxRecDepth 100000 in
theorem wd_1881 : Cond.code ⟨"CapitalCaseModel", "forget", "()I"⟩ prog_14_method_107_code 2 (some .int) ∈ xTB := xw 1881 (rfl) (by decide +kernel)
set_option maxRecDepth 100000 in
theorem wd_1885 : Cond.code ⟨"CapitalCaseModel", "whose", "(II)I"⟩ prog_14_method_109_code 4 (some .int) ∈ xTB := xw 1885 (rfl) (by decide +kernel)
set_option maxRecDepth 100000 in
theorem wd_1886 : Cond.methodLink "CapitalCaseModel" 467 ⟨"CapitalCaseModel", "whoseBits", "(I)I"⟩ ∈ xTB := xw 1886 (by decide +kernel) (by decide +kernel)
set_option maxRecDepth 100000 in
theorem wd_1888 : Cond.instanceMethod ⟨"CapitalCaseModel", "whoseBits", "(I)I"⟩ ∈ xTB := xw 1888 (by decide +kernel) (by decide +kernel)
set_option maxRecDepth 100000 in
theorem wd_1889 : Cond.code ⟨"CapitalCaseModel", "whoseBits", "(I)I"⟩ prog_14_method_108_code 6 (some .int) ∈ xTB := xw 1889 (rfl) (by decide +kernel)
set_option maxRecDepth 100000 in
theorem wd_1890 : Cond.methodLink "CapitalCaseModel" 470 ⟨"CapitalCaseModel", "bits", "(I)I"⟩ ∈ xTB := xw 1890 (by decide +kernel) (by decide +kernel)
set_option maxRecDepth 100000 in
theorem wd_1891 : Cond.static ⟨"CapitalCaseModel", "bits", "(I)I"⟩ ∈ xTB := xw 1891 (by decide +kernel) (by decide +kernel)
set_option maxRecDepth 100000 in
theorem wd_1892 : Cond.code ⟨"CapitalCaseModel", "bits", "(I)I"⟩ prog_14_method_42_code 3 (some .int) ∈ xTB := xw 1892 (rfl) (by decide +kernel)
set_option maxRecDepth 100000 in
theorem wd_1896 : Cond.code ⟨"CapitalCaseModel", "ask", "(II)I"⟩ prog_14_method_110_code 9 (some .int) ∈ xTB := xw 1896 (rfl) (by decide +kernel)
set_option maxRecDepth 100000 in
theorem wd_1900 : Cond.code ⟨"CapitalCaseModel", "hold", "(I)Z"⟩ prog_14_method_111_code 3 (some .boolean) ∈ xTB := xw 1900 (rfl) (by decide +kernel)
set_option maxRecDepth 100000 in
theorem wd_1904 : Cond.code ⟨"CapitalCaseModel", "restore", "(I)Z"⟩ prog_14_method_112_code 3 (some .boolean) ∈ xTB := xw 1904 (rfl) (by decide +kernel)
set_option maxRecDepth 100000 in
theorem wd_1908 : Cond.code ⟨"CapitalCaseModel", "count", "(I)I"⟩ prog_14_method_115_code 5 (some .int) ∈ xTB := xw 1908 (rfl) (by decide +kernel)
set_option maxRecDepth 100000 in
theorem wd_1909 : Cond.methodLink "CapitalCaseModel" 473 ⟨"CapitalCaseModel", "versesSo", "(II)I"⟩ ∈ xTB := xw 1909 (by decide +kernel) (by decide +kernel)
set_option maxRecDepth 100000 in
theorem wd_1911 : Cond.instanceMethod ⟨"CapitalCaseModel", "versesSo", "(II)I"⟩ ∈ xTB := xw 1911 (by decide +kernel) (by decide +kernel)
set_option maxRecDepth 100000 in
theorem wd_1912 : Cond.code ⟨"CapitalCaseModel", "versesSo", "(II)I"⟩ prog_14_method_114_code 5 (some .int) ∈ xTB := xw 1912 (rfl) (by decide +kernel)
set_option maxRecDepth 100000 in
theorem wd_1913 : Cond.methodLink "CapitalCaseModel" 476 ⟨"CapitalCaseModel", "sumNow", "(II)I"⟩ ∈ xTB := xw 1913 (by decide +kernel) (by decide +kernel)
set_option maxRecDepth 100000 in
theorem wd_1915 : Cond.instanceMethod ⟨"CapitalCaseModel", "sumNow", "(II)I"⟩ ∈ xTB := xw 1915 (by decide +kernel) (by decide +kernel)
set_option maxRecDepth 100000 in
theorem wd_1916 : Cond.code ⟨"CapitalCaseModel", "sumNow", "(II)I"⟩ prog_14_method_113_code 5 (some .int) ∈ xTB := xw 1916 (rfl) (by decide +kernel)
set_option maxRecDepth 100000 in
theorem wz_max : Cond.code Lib.Math.max.name Lib.Math.max.code 2 (some .int) ∈ xTB := xw 714 rfl (by decide +kernel)
set_option maxRecDepth 100000 in
theorem wz_min : Cond.code Lib.Math.min.name Lib.Math.min.code 2 (some .int) ∈ xTB := xw 717 rfl (by decide +kernel)
